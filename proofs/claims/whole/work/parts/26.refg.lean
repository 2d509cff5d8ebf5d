set_option maxRecDepth 20000 in
theorem c_X4_ofCell {L : Nat → Nat} {A B : Mem} (hM : LM L) (hV : VC L B) (hR : Rel B A) {x w : Int} (hx : -2147483648 ≤ x ∧ x < 2147483648) (hw : -2147483648 ≤ w ∧ w < 2147483648) : Ct mX4_ofCell [gr 20, gi x, gi w] L A (pr (some (gi (if celE x w = 0 then celV B x w else 0))) L (if celE x w = 0 then gup A 20 0 0 else gup A 20 0 (celE x w : Nat))) := by
  have hnc := vc_nc hV; have hns := vc_ns hV; have hp0 := (vc_p hV).1
  have rnow := rl_now hR; have rnc := rl_nc hR; have rns := rl_ns hR
  have hg := vc_g hV; have hpv := vc_p hV
  refine Ct_of (ls := [(0, _), (1, _), (2, _)]) rfl (by decide) (fun _ => rfl) (fun _ => Nat.le_of_ble_eq_true rfl) ?_
  refine g_aload_n 0 dX4_ofCell_0 rfl rfl ?_
  refine g_iload_n 1 dX4_ofCell_1 rfl rfl ?_
  by_cases hs2 : 0 ≤ x ∧ x < 100
  · skip
    refine g_cS_i (My := mX4_isCell) (gs := [_]) (c_X4_isCell (by omega)) mfX4_isCell rfl wst_X4_isCell wm_X4_121 dX4_ofCell_2 (Nat.le_of_ble_eq_true rfl) rfl (fun _ => Nat.le_of_ble_eq_true rfl) (Nat.le_of_ble_eq_true rfl) (Nat.le_of_ble_eq_true rfl) rfl rfl ?_
    refine g_top (y := 1) (by first | (rw [decide_eq_true hs2]; rfl) | (rw [cellB, decide_eq_true hs2]; rfl)) ?_
    refine g_if_ne (tgt := 12) (by omega) dX4_ofCell_5 (by decide) (fun h5_1 => ?_) (fun h5_1 => absurd h5_1 (by omega))
    refine g_iload_n 2 dX4_ofCell_12 rfl rfl ?_
    refine g_iconst dX4_ofCell_13 ?_
    refine g_iconst dX4_ofCell_14 ?_
    by_cases hs15 : 0 ≤ w ∧ w ≤ 3
    · skip
      refine g_cS_i (My := mX4_in) (gs := [_, _, _]) (c_X4_in (by omega) (by omega) (by omega)) mfX4_in rfl wst_X4_in wm_X4_108 dX4_ofCell_15 (Nat.le_of_ble_eq_true rfl) rfl (fun _ => Nat.le_of_ble_eq_true rfl) (Nat.le_of_ble_eq_true rfl) (Nat.le_of_ble_eq_true rfl) rfl rfl ?_
      refine g_top (y := 1) (by first | (rw [decide_eq_true hs15]; rfl) | (rw [inB, decide_eq_true hs15]; rfl)) ?_
      refine g_if_eq (tgt := 25) (by omega) dX4_ofCell_18 (by decide) (fun h18_2 => absurd h18_2 (by omega)) (fun h18_2 => ?_)
      refine g_iconst dX4_ofCell_21 ?_
      refine g_goto (tgt := 26) dX4_ofCell_22 (by decide) ?_
      refine g_putfi cf_5 0 rfl (by decide) (by decide) rfl (by decide) wf_X4_104 (Or.inl rfl) rfl dX4_ofCell_26 (n2 (hM 20 rfl)) (by omega) ?_
      refine g_aload_n 0 dX4_ofCell_29 rfl rfl ?_
      refine g_getfi cf_5 0 rfl (by decide) (by decide) rfl (by decide) wf_X4_104 dX4_ofCell_30 (n2 (hM 20 rfl)) (fun h30_3 => ?_)
      refine g_top (y := 0) (gup_at _ _ _ _) ?_
      refine g_if_le (tgt := 38) (by omega) dX4_ofCell_33 (by decide) (fun h33_4 => ?_) (fun h33_4 => absurd h33_4 (by omega))
      have r12 := congrFun (rl_st hR) x.toNat; have r14 := congrFun (rl_ca hR) x.toNat; have r15 := congrFun (rl_de hR) x.toNat; have r13 := rl_to hR x.toNat; have r16 := congrFun (rl_pr hR) x.toNat; have r17 := congrFun (rl_tr hR) x.toNat
      have g12 := hg.1 x.toNat; have g13 := hg.2.1 x.toNat; have g14 := hg.2.2.1 x.toNat; have g15 := hg.2.2.2.1 x.toNat; have g16 := hg.2.2.2.2.1 x.toNat; have g17 := hg.2.2.2.2.2 x.toNat
      have hR0 := rl_th hR 0; have s12 := congrFun (rl_st hR0) x.toNat; have s14 := congrFun (rl_ca hR0) x.toNat; have s15 := congrFun (rl_de hR0) x.toNat; have s13 := rl_to hR0 x.toNat; have s16 := congrFun (rl_pr hR0) x.toNat; have s17 := congrFun (rl_tr hR0) x.toNat
      refine g_iload_n 2 dX4_ofCell_38 rfl rfl ?_
      refine g_tsw (dt := 102) (by omega) dX4_ofCell_39 (by decide) (fun h39_5 => ?_) (fun h39_5a h39_5b => ?_)
      · skip
        refine g_aload_n 0 dX4_ofCell_102 rfl rfl ?_
        refine g_iload_n 1 dX4_ofCell_103 rfl rfl ?_
        refine g_cV_i (My := mX4_holder) (gs := [_]) (c_X4_holder hM hV (rl_th hR _) hs2) mfX4_holder cf_5 wi_X4_holder wsl_X4_holder wm_X4_175 dX4_ofCell_104 (Nat.le_of_ble_eq_true rfl) rfl (by decide) (n2 (hM 20 rfl)) rfl (fun _ => Nat.le_of_ble_eq_true rfl) (Nat.le_of_ble_eq_true rfl) (Nat.le_of_ble_eq_true rfl) rfl rfl ?_
        exact g_iret dX4_ofCell_107 rfl (Nat.le_of_ble_eq_true rfl) (Nat.le_of_ble_eq_true rfl) (pr_i (by first | (rw [show celE x w = 0 from by unfold celE; grind, if_pos rfl]; (try unfold celV); (first | done | (grind [b2]))) | (rw [show celE x w = 1 from by unfold celE; grind]; rfl) | (rw [show celE x w = 2 from by unfold celE; grind]; rfl)) (by first | (rw [show celE x w = 0 from by unfold celE; grind]; rfl) | (rw [show celE x w = 1 from by unfold celE; grind]; rfl) | (rw [show celE x w = 2 from by unfold celE; grind]; rfl)))
      · skip
        rcases (show w = 0 ∨ w = 1 ∨ w = 2 by omega) with hs39_ | hs39_ | hs39_
        · skip
          refine ⟨_, 64, by rw [hs39_]; rfl, by decide, ?_⟩
          refine g_aload_n 0 dX4_ofCell_64 rfl rfl ?_
          refine g_getfr2 (r := 23) cf_5 2 rfl (by decide) (by decide) rfl (by decide) wf_X4_7 dX4_ofCell_65 (hM 20 rfl) rfl ?_
          refine g_iload_n 1 dX4_ofCell_68 rfl rfl ?_
          refine g_iald (x.toNat) (by omega) (by omega) rfl (by decide) dX4_ofCell_69 (n2 (hM 23 rfl)) (fun h69_6 => ?_)
          exact g_iret dX4_ofCell_70 rfl (Nat.le_of_ble_eq_true rfl) (Nat.le_of_ble_eq_true rfl) (pr_i (by first | (rw [show celE x w = 0 from by unfold celE; grind, if_pos rfl]; (try unfold celV); (first | done | (grind [b2]))) | (rw [show celE x w = 1 from by unfold celE; grind]; rfl) | (rw [show celE x w = 2 from by unfold celE; grind]; rfl)) (by first | (rw [show celE x w = 0 from by unfold celE; grind]; rfl) | (rw [show celE x w = 1 from by unfold celE; grind]; rfl) | (rw [show celE x w = 2 from by unfold celE; grind]; rfl)))
        · skip
          refine ⟨_, 71, by rw [hs39_]; rfl, by decide, ?_⟩
          refine g_aload_n 0 dX4_ofCell_71 rfl rfl ?_
          refine g_getfr2 (r := 27) cf_5 6 rfl (by decide) (by decide) rfl (by decide) wf_X4_23 dX4_ofCell_72 (hM 20 rfl) rfl ?_
          refine g_iload_n 1 dX4_ofCell_75 rfl rfl ?_
          refine g_zald (x.toNat) (by omega) (by omega) rfl (by decide) dX4_ofCell_76 (n2 (hM 27 rfl)) (fun h76_7 => ?_)
          refine g_if_eq (tgt := 84) (by omega) dX4_ofCell_77 (by decide) (fun h77_8 => ?_) (fun h77_8 => ?_)
          · skip
            refine g_iconst dX4_ofCell_84 ?_
            exact g_iret dX4_ofCell_85 rfl (Nat.le_of_ble_eq_true rfl) (Nat.le_of_ble_eq_true rfl) (pr_i (by first | (rw [show celE x w = 0 from by unfold celE; grind, if_pos rfl]; (try unfold celV); (first | done | (grind [b2]))) | (rw [show celE x w = 1 from by unfold celE; grind]; rfl) | (rw [show celE x w = 2 from by unfold celE; grind]; rfl)) (by first | (rw [show celE x w = 0 from by unfold celE; grind]; rfl) | (rw [show celE x w = 1 from by unfold celE; grind]; rfl) | (rw [show celE x w = 2 from by unfold celE; grind]; rfl)))
          · skip
            refine g_iconst dX4_ofCell_80 ?_
            refine g_goto (tgt := 85) dX4_ofCell_81 (by decide) ?_
            exact g_iret dX4_ofCell_85 rfl (Nat.le_of_ble_eq_true rfl) (Nat.le_of_ble_eq_true rfl) (pr_i (by first | (rw [show celE x w = 0 from by unfold celE; grind, if_pos rfl]; (try unfold celV); (first | done | (grind [b2]))) | (rw [show celE x w = 1 from by unfold celE; grind]; rfl) | (rw [show celE x w = 2 from by unfold celE; grind]; rfl)) (by first | (rw [show celE x w = 0 from by unfold celE; grind]; rfl) | (rw [show celE x w = 1 from by unfold celE; grind]; rfl) | (rw [show celE x w = 2 from by unfold celE; grind]; rfl)))
        · skip
          refine ⟨_, 86, by rw [hs39_]; rfl, by decide, ?_⟩
          refine g_aload_n 0 dX4_ofCell_86 rfl rfl ?_
          refine g_getfr2 (r := 28) cf_5 7 rfl (by decide) (by decide) rfl (by decide) wf_X4_26 dX4_ofCell_87 (hM 20 rfl) rfl ?_
          refine g_iload_n 1 dX4_ofCell_90 rfl rfl ?_
          refine g_iald (x.toNat) (by omega) (by omega) rfl (by decide) dX4_ofCell_91 (n2 (hM 28 rfl)) (fun h91_9 => ?_)
          refine g_iconst dX4_ofCell_92 ?_
          refine g_icmp_ne (tgt := 100) (by omega) (by omega) dX4_ofCell_93 (by decide) (fun h93_10 => ?_) (fun h93_10 => ?_)
          · skip
            refine g_iconst dX4_ofCell_100 ?_
            exact g_iret dX4_ofCell_101 rfl (Nat.le_of_ble_eq_true rfl) (Nat.le_of_ble_eq_true rfl) (pr_i (by first | (rw [show celE x w = 0 from by unfold celE; grind, if_pos rfl]; (try unfold celV); (first | done | (grind [b2]))) | (rw [show celE x w = 1 from by unfold celE; grind]; rfl) | (rw [show celE x w = 2 from by unfold celE; grind]; rfl)) (by first | (rw [show celE x w = 0 from by unfold celE; grind]; rfl) | (rw [show celE x w = 1 from by unfold celE; grind]; rfl) | (rw [show celE x w = 2 from by unfold celE; grind]; rfl)))
          · skip
            refine g_iconst dX4_ofCell_96 ?_
            refine g_goto (tgt := 101) dX4_ofCell_97 (by decide) ?_
            exact g_iret dX4_ofCell_101 rfl (Nat.le_of_ble_eq_true rfl) (Nat.le_of_ble_eq_true rfl) (pr_i (by first | (rw [show celE x w = 0 from by unfold celE; grind, if_pos rfl]; (try unfold celV); (first | done | (grind [b2]))) | (rw [show celE x w = 1 from by unfold celE; grind]; rfl) | (rw [show celE x w = 2 from by unfold celE; grind]; rfl)) (by first | (rw [show celE x w = 0 from by unfold celE; grind]; rfl) | (rw [show celE x w = 1 from by unfold celE; grind]; rfl) | (rw [show celE x w = 2 from by unfold celE; grind]; rfl)))
    · skip
      refine g_cS_i (My := mX4_in) (gs := [_, _, _]) (c_X4_in (by omega) (by omega) (by omega)) mfX4_in rfl wst_X4_in wm_X4_108 dX4_ofCell_15 (Nat.le_of_ble_eq_true rfl) rfl (fun _ => Nat.le_of_ble_eq_true rfl) (Nat.le_of_ble_eq_true rfl) (Nat.le_of_ble_eq_true rfl) rfl rfl ?_
      refine g_top (y := 0) (by first | (rw [decide_eq_false hs15]; rfl) | (rw [inB, decide_eq_false hs15]; rfl)) ?_
      refine g_if_eq (tgt := 25) (by omega) dX4_ofCell_18 (by decide) (fun h18_11 => ?_) (fun h18_11 => absurd h18_11 (by omega))
      refine g_iconst dX4_ofCell_25 ?_
      refine g_putfi cf_5 0 rfl (by decide) (by decide) rfl (by decide) wf_X4_104 (Or.inl rfl) rfl dX4_ofCell_26 (n2 (hM 20 rfl)) (by omega) ?_
      refine g_aload_n 0 dX4_ofCell_29 rfl rfl ?_
      refine g_getfi cf_5 0 rfl (by decide) (by decide) rfl (by decide) wf_X4_104 dX4_ofCell_30 (n2 (hM 20 rfl)) (fun h30_12 => ?_)
      refine g_top (y := 2) (gup_at _ _ _ _) ?_
      refine g_if_le (tgt := 38) (by omega) dX4_ofCell_33 (by decide) (fun h33_13 => absurd h33_13 (by omega)) (fun h33_13 => ?_)
      refine g_iconst dX4_ofCell_36 ?_
      exact g_iret dX4_ofCell_37 rfl (Nat.le_of_ble_eq_true rfl) (Nat.le_of_ble_eq_true rfl) (pr_i (by first | (rw [show celE x w = 0 from by unfold celE; grind, if_pos rfl]; (try unfold celV); (first | done | (grind [b2]))) | (rw [show celE x w = 1 from by unfold celE; grind]; rfl) | (rw [show celE x w = 2 from by unfold celE; grind]; rfl)) (by first | (rw [show celE x w = 0 from by unfold celE; grind]; rfl) | (rw [show celE x w = 1 from by unfold celE; grind]; rfl) | (rw [show celE x w = 2 from by unfold celE; grind]; rfl)))
  · skip
    refine g_cS_i (My := mX4_isCell) (gs := [_]) (c_X4_isCell (by omega)) mfX4_isCell rfl wst_X4_isCell wm_X4_121 dX4_ofCell_2 (Nat.le_of_ble_eq_true rfl) rfl (fun _ => Nat.le_of_ble_eq_true rfl) (Nat.le_of_ble_eq_true rfl) (Nat.le_of_ble_eq_true rfl) rfl rfl ?_
    refine g_top (y := 0) (by first | (rw [decide_eq_false hs2]; rfl) | (rw [cellB, decide_eq_false hs2]; rfl)) ?_
    refine g_if_ne (tgt := 12) (by omega) dX4_ofCell_5 (by decide) (fun h5_14 => absurd h5_14 (by omega)) (fun h5_14 => ?_)
    refine g_iconst dX4_ofCell_8 ?_
    refine g_goto (tgt := 26) dX4_ofCell_9 (by decide) ?_
    refine g_putfi cf_5 0 rfl (by decide) (by decide) rfl (by decide) wf_X4_104 (Or.inl rfl) rfl dX4_ofCell_26 (n2 (hM 20 rfl)) (by omega) ?_
    refine g_aload_n 0 dX4_ofCell_29 rfl rfl ?_
    refine g_getfi cf_5 0 rfl (by decide) (by decide) rfl (by decide) wf_X4_104 dX4_ofCell_30 (n2 (hM 20 rfl)) (fun h30_15 => ?_)
    refine g_top (y := 1) (gup_at _ _ _ _) ?_
    refine g_if_le (tgt := 38) (by omega) dX4_ofCell_33 (by decide) (fun h33_16 => absurd h33_16 (by omega)) (fun h33_16 => ?_)
    refine g_iconst dX4_ofCell_36 ?_
    exact g_iret dX4_ofCell_37 rfl (Nat.le_of_ble_eq_true rfl) (Nat.le_of_ble_eq_true rfl) (pr_i (by first | (rw [show celE x w = 0 from by unfold celE; grind, if_pos rfl]; (try unfold celV); (first | done | (grind [b2]))) | (rw [show celE x w = 1 from by unfold celE; grind]; rfl) | (rw [show celE x w = 2 from by unfold celE; grind]; rfl)) (by first | (rw [show celE x w = 0 from by unfold celE; grind]; rfl) | (rw [show celE x w = 1 from by unfold celE; grind]; rfl) | (rw [show celE x w = 2 from by unfold celE; grind]; rfl)))

theorem hldF_cov {cov live : Nat → Bool} {hr : Nat → Int} {n k : Nat} (h : hldF cov live hr n = k) : cov k = true := by
  induction n with
  | zero => simp only [hldF] at h; omega
  | succ n ih =>
    simp only [hldF] at h
    split at h
    · rw [show k = n by omega]; grind
    · exact ih h
theorem cntF_cg {f g : Nat → Bool} {n : Nat} (h : ∀ i, i < n → f i = g i) : cntF f n = cntF g n := by
  induction n with
  | zero => rfl
  | succ n ih => simp only [cntF]; rw [ih (fun i hi => h i (by omega)), h n (by omega)]
theorem sumF_cg {f g : Nat → Int} {n : Nat} (h : ∀ i, i < n → f i = g i) : sumF f n = sumF g n := by
  induction n with
  | zero => rfl
  | succ n ih => simp only [sumF]; rw [ih (fun i hi => h i (by omega)), h n (by omega)]
theorem hldN_eq (B : Mem) (k : Nat) : hldN B k = cntF (fun c => decide (hldC B c = k)) 100 := by
  unfold hldN
  refine cntF_cg (fun i hi => ?_)
  by_cases h : hldC B i = k
  · have := hldF_cov (show hldF (covC B i) (livC B) (fun k => B (100 + 3 * k) 5) (B 2 2).toNat = k from h)
    simp [h, this]
  · simp [h]

set_option maxRecDepth 20000 in
theorem c_X4_held {L : Nat → Nat} {A B : Mem} (hM : LM L) (hV : VC L B) (hR : Rel B A) {k : Nat} (hk : (k : Int) < B 2 2) : Ct mX4_held [gr 20, gi (k : Int)] L A (pr (some (gi (hldN B k))) L A) := by
  have hnc := vc_nc hV; have hns := vc_ns hV; have hp0 := (vc_p hV).1
  have rnow := rl_now hR; have rnc := rl_nc hR; have rns := rl_ns hR
  refine Ct_of (ls := [(0, _), (1, _)]) rfl (by decide) (fun _ => rfl) (fun _ => Nat.le_of_ble_eq_true rfl) ?_
  refine g_iconst dX4_held_0 ?_
  refine g_st (ls2 := [(2, _), (0, _), (1, _)]) dX4_held_1 rfl (by decide) (c1_cr (c1_ci c1_0)) rfl ?_
  refine g_iconst dX4_held_2 ?_
  refine g_st (ls2 := [(3, _), (2, _), (0, _), (1, _)]) dX4_held_3 rfl (by decide) (c1_ci (c1_cr (c1_ci c1_0))) rfl ?_
  refine g_sub [2, 3, 1, 0] (ls2 := [(0, _), (1, _), (2, _), (3, _)]) rfl ?_
  have hQ4 : (fun i : Nat => GW mX4_held (pr (some (gi (hldN B k))) L A) 0 0 4 [(0, gr (20)), (1, gi ((k : Int))), (2, gi (cntF (fun c => decide (hldC B c = k)) i)), (3, gi ((i : Int)))] [] L (A)) 0 := by
    refine lp_up (Q := (fun i : Nat => GW mX4_held (pr (some (gi (hldN B k))) L A) 0 0 4 [(0, gr (20)), (1, gi ((k : Int))), (2, gi (cntF (fun c => decide (hldC B c = k)) i)), (3, gi ((i : Int)))] [] L (A))) (n := 100) ?_ (fun i hi4 ih4 => ?_)
    · skip
      refine g_iload_n 3 dX4_held_4 rfl rfl ?_
      refine g_bipush dX4_held_5 (by decide) ?_
      refine g_icmp_ge (tgt := 33) (by omega) (by omega) dX4_held_7 (by decide) (fun h7_1 => ?_) (fun h7_1 => absurd h7_1 (by omega))
      refine g_iload_n 2 dX4_held_33 rfl rfl ?_
      exact g_iret dX4_held_34 rfl (Nat.le_of_ble_eq_true rfl) (Nat.le_of_ble_eq_true rfl) (pr_i (by rw [hldN_eq]) (rfl))
    · skip
      refine g_iload_n 3 dX4_held_4 rfl rfl ?_
      refine g_bipush dX4_held_5 (by decide) ?_
      refine g_icmp_ge (tgt := 33) (by omega) (by omega) dX4_held_7 (by decide) (fun h7_2 => absurd h7_2 (by omega)) (fun h7_2 => ?_)
      refine g_iload_n 2 dX4_held_10 rfl rfl ?_
      refine g_aload_n 0 dX4_held_11 rfl rfl ?_
      refine g_iload_n 3 dX4_held_12 rfl rfl ?_
      refine g_cV_i (My := mX4_holder) (gs := [_]) (c_X4_holder hM hV hR (x := (i : Int)) (by omega)) mfX4_holder cf_5 wi_X4_holder wsl_X4_holder wm_X4_175 dX4_held_13 (Nat.le_of_ble_eq_true rfl) rfl (by decide) (n2 (hM 20 rfl)) rfl (fun _ => Nat.le_of_ble_eq_true rfl) (Nat.le_of_ble_eq_true rfl) (Nat.le_of_ble_eq_true rfl) rfl rfl ?_
      have hhr := hldC_rg hV (i : Int)
      refine g_iload_n 1 dX4_held_16 rfl rfl ?_
      refine g_icmp_ne (tgt := 24) (by omega) (by omega) dX4_held_17 (by decide) (fun h17_3 => ?_) (fun h17_3 => ?_)
      · skip
        refine g_iconst dX4_held_24 ?_
        refine g_iadd dX4_held_25 ?_
        refine g_st (ls2 := [(2, _), (0, _), (1, _), (3, _)]) dX4_held_26 rfl (by decide) (c1_cr (c1_ci (c1_ci (c1_ci c1_0)))) rfl ?_
        refine g_inc (ls2 := [(3, _), (2, _), (0, _), (1, _)]) 3 dX4_held_27 rfl (by decide) (c1_ci (c1_cr (c1_ci (c1_ci c1_0)))) rfl ?_
        refine g_goto (tgt := 4) dX4_held_30 (by decide) ?_
        refine g_sub [2, 3, 1, 0] (ls2 := [(0, _), (1, _), (2, _), (3, _)]) rfl ?_
        exact g_ls (by simp only [cntF]; simp [*, b2]) rfl rfl ih4
      · skip
        refine g_iconst dX4_held_20 ?_
        refine g_goto (tgt := 25) dX4_held_21 (by decide) ?_
        refine g_iadd dX4_held_25 ?_
        refine g_st (ls2 := [(2, _), (0, _), (1, _), (3, _)]) dX4_held_26 rfl (by decide) (c1_cr (c1_ci (c1_ci (c1_ci c1_0)))) rfl ?_
        refine g_inc (ls2 := [(3, _), (2, _), (0, _), (1, _)]) 3 dX4_held_27 rfl (by decide) (c1_ci (c1_cr (c1_ci (c1_ci c1_0)))) rfl ?_
        refine g_goto (tgt := 4) dX4_held_30 (by decide) ?_
        refine g_sub [2, 3, 1, 0] (ls2 := [(0, _), (1, _), (2, _), (3, _)]) rfl ?_
        exact g_ls (by simp only [cntF]; simp [*, b2]) rfl rfl ih4
  exact g_ls (by rfl) rfl rfl hQ4

set_option maxHeartbeats 1000000 in
set_option maxRecDepth 20000 in
theorem c_X4_ofClaim {L : Nat → Nat} {A B : Mem} (hM : LM L) (hV : VC L B) (hR : Rel B A) (hI : IV B) {x w : Int} (hx : -2147483648 ≤ x ∧ x < 2147483648) (hw : -2147483648 ≤ w ∧ w < 2147483648) : Ct mX4_ofClaim [gr 20, gi x, gi w] L A (pr (some (gi (if claE B x w = 0 then claV B x w else 0))) L (if claE B x w = 0 then gup A 20 0 0 else gup A 20 0 (claE B x w : Nat))) := by
  have hnc := vc_nc hV; have hns := vc_ns hV; have hp0 := (vc_p hV).1
  have rnow := rl_now hR; have rnc := rl_nc hR; have rns := rl_ns hR
  refine Ct_of (ls := [(0, _), (1, _), (2, _)]) rfl (by decide) (fun _ => rfl) (fun _ => Nat.le_of_ble_eq_true rfl) ?_
  refine g_aload_n 0 dX4_ofClaim_0 rfl rfl ?_
  refine g_aload_n 0 dX4_ofClaim_1 rfl rfl ?_
  refine g_iload_n 1 dX4_ofClaim_2 rfl rfl ?_
  by_cases hs3 : 0 ≤ x ∧ x < B 2 2
  · skip
    obtain ⟨k, rfl⟩ : ∃ k : Nat, x = k := ⟨x.toNat, by omega⟩
    have hk : (k : Int) < B 2 2 := by omega
    have rk := rl_k hR hk; have hcv := vc_cv hV hk; have hk12 := vc_k hV hk
    refine g_cV_i (My := mX4_isClaim) (gs := [_]) (c_X4_isClaim hM hV hR (by omega)) mfX4_isClaim cf_5 wi_X4_isClaim wsl_X4_isClaim wm_X4_142 dX4_ofClaim_3 (Nat.le_of_ble_eq_true rfl) rfl (by decide) (n2 (hM 20 rfl)) rfl (fun _ => Nat.le_of_ble_eq_true rfl) (Nat.le_of_ble_eq_true rfl) (Nat.le_of_ble_eq_true rfl) rfl rfl ?_
    refine g_top (y := 1) (by rw [decide_eq_true hs3]; rfl) ?_
    refine g_if_ne (tgt := 13) (by omega) dX4_ofClaim_6 (by decide) (fun h6_1 => ?_) (fun h6_1 => absurd h6_1 (by omega))
    refine g_iload_n 2 dX4_ofClaim_13 rfl rfl ?_
    refine g_iconst dX4_ofClaim_14 ?_
    refine g_bipush dX4_ofClaim_15 (by decide) ?_
    by_cases hs17 : 0 ≤ w ∧ w ≤ 6
    · skip
      refine g_cS_i (My := mX4_in) (gs := [_, _, _]) (c_X4_in (by omega) (by omega) (by omega)) mfX4_in rfl wst_X4_in wm_X4_108 dX4_ofClaim_17 (Nat.le_of_ble_eq_true rfl) rfl (fun _ => Nat.le_of_ble_eq_true rfl) (Nat.le_of_ble_eq_true rfl) (Nat.le_of_ble_eq_true rfl) rfl rfl ?_
      refine g_top (y := 1) (by first | (rw [decide_eq_true hs17]; rfl) | (rw [inB, decide_eq_true hs17]; rfl)) ?_
      refine g_if_eq (tgt := 27) (by omega) dX4_ofClaim_20 (by decide) (fun h20_2 => absurd h20_2 (by omega)) (fun h20_2 => ?_)
      refine g_iconst dX4_ofClaim_23 ?_
      refine g_goto (tgt := 28) dX4_ofClaim_24 (by decide) ?_
      refine g_putfi cf_5 0 rfl (by decide) (by decide) rfl (by decide) wf_X4_104 (Or.inl rfl) rfl dX4_ofClaim_28 (n2 (hM 20 rfl)) (by omega) ?_
      refine g_aload_n 0 dX4_ofClaim_31 rfl rfl ?_
      refine g_getfi cf_5 0 rfl (by decide) (by decide) rfl (by decide) wf_X4_104 dX4_ofClaim_32 (n2 (hM 20 rfl)) (fun h32_3 => ?_)
      refine g_top (y := 0) (gup_at _ _ _ _) ?_
      refine g_if_le (tgt := 40) (by omega) dX4_ofClaim_35 (by decide) (fun h35_4 => ?_) (fun h35_4 => absurd h35_4 (by omega))
      have rk0 := rl_k (rl_th hR 0) hk; have e1 := rk0.1; have e2 := rk0.2.2.2.2.1; have e3 := rk0.2.2.2.2.2.1; have e4 := hcv.2.2.2.1; have e5 := rl_now (rl_th hR 0)
      refine g_iload_n 2 dX4_ofClaim_40 rfl rfl ?_
      refine g_tsw (dt := 126) (by omega) dX4_ofClaim_41 (by decide) (fun h41_5 => ?_) (fun h41_5a h41_5b => ?_)
      · skip
        refine g_aload_n 0 dX4_ofClaim_126 rfl rfl ?_
        refine g_iload_n 1 dX4_ofClaim_127 rfl rfl ?_
        refine g_cV_i (My := mX4_isLive) (gs := [_]) (c_X4_isLive hM hV (rl_th hR _) hk) mfX4_isLive cf_5 wi_X4_isLive wsl_X4_isLive wm_X4_151 dX4_ofClaim_128 (Nat.le_of_ble_eq_true rfl) rfl (by decide) (n2 (hM 20 rfl)) rfl (fun _ => Nat.le_of_ble_eq_true rfl) (Nat.le_of_ble_eq_true rfl) (Nat.le_of_ble_eq_true rfl) rfl rfl ?_
        refine g_ifb_eq (tgt := 151) dX4_ofClaim_131 (by decide) (fun h131_6 => ?_) (fun h131_6 => ?_)
        · skip
          refine g_iconst dX4_ofClaim_151 ?_
          exact g_iret dX4_ofClaim_152 rfl (Nat.le_of_ble_eq_true rfl) (Nat.le_of_ble_eq_true rfl) (pr_i (by first | (rw [show claE B x w = 0 from by unfold claE; grind, if_pos rfl]; (try unfold claV); (first | done | (simp only [prcN, lapC, livC, livB] at *; grind [b2]))) | (rw [show claE B x w = 1 from by unfold claE; grind]; rfl) | (rw [show claE B x w = 2 from by unfold claE; grind]; rfl) | (rw [show claE B (k : Int) w = 0 from by unfold claE; grind, if_pos rfl]; (try unfold claV); (first | done | (simp only [prcN, lapC, livC, livB] at *; grind [b2]))) | (rw [show claE B (k : Int) w = 1 from by unfold claE; grind]; rfl) | (rw [show claE B (k : Int) w = 2 from by unfold claE; grind]; rfl)) (by first | (rw [show claE B x w = 0 from by unfold claE; grind]; rfl) | (rw [show claE B x w = 1 from by unfold claE; grind]; rfl) | (rw [show claE B x w = 2 from by unfold claE; grind]; rfl) | (rw [show claE B (k : Int) w = 0 from by unfold claE; grind]; rfl) | (rw [show claE B (k : Int) w = 1 from by unfold claE; grind]; rfl) | (rw [show claE B (k : Int) w = 2 from by unfold claE; grind]; rfl)))
        · skip
          refine g_bipush dX4_ofClaim_134 (by decide) ?_
          refine g_aload_n 0 dX4_ofClaim_136 rfl rfl ?_
          refine g_getfi cf_5 1 rfl (by decide) (by decide) rfl (by decide) wf_X4_118 dX4_ofClaim_137 (n2 (hM 20 rfl)) (fun h137_7 => ?_)
          refine g_aload_n 0 dX4_ofClaim_140 rfl rfl ?_
          refine g_getfr2 (r := 36) cf_5 15 rfl (by decide) (by decide) rfl (by decide) wf_X4_47 dX4_ofClaim_141 (hM 20 rfl) rfl ?_
          refine g_iload_n 1 dX4_ofClaim_144 rfl rfl ?_
          refine g_iald (k) (by omega) (by omega) rfl (by decide) dX4_ofClaim_145 (n2 (hM 36 rfl)) (fun h145_8 => ?_)
          refine g_isub dX4_ofClaim_146 ?_
          refine g_isub dX4_ofClaim_147 ?_
          refine g_goto (tgt := 152) dX4_ofClaim_148 (by decide) ?_
          exact g_iret dX4_ofClaim_152 rfl (Nat.le_of_ble_eq_true rfl) (Nat.le_of_ble_eq_true rfl) (pr_i (by first | (rw [show claE B x w = 0 from by unfold claE; grind, if_pos rfl]; (try unfold claV); (first | done | (simp only [prcN, lapC, livC, livB] at *; grind [b2]))) | (rw [show claE B x w = 1 from by unfold claE; grind]; rfl) | (rw [show claE B x w = 2 from by unfold claE; grind]; rfl) | (rw [show claE B (k : Int) w = 0 from by unfold claE; grind, if_pos rfl]; (try unfold claV); (first | done | (simp only [prcN, lapC, livC, livB] at *; grind [b2]))) | (rw [show claE B (k : Int) w = 1 from by unfold claE; grind]; rfl) | (rw [show claE B (k : Int) w = 2 from by unfold claE; grind]; rfl)) (by first | (rw [show claE B x w = 0 from by unfold claE; grind]; rfl) | (rw [show claE B x w = 1 from by unfold claE; grind]; rfl) | (rw [show claE B x w = 2 from by unfold claE; grind]; rfl) | (rw [show claE B (k : Int) w = 0 from by unfold claE; grind]; rfl) | (rw [show claE B (k : Int) w = 1 from by unfold claE; grind]; rfl) | (rw [show claE B (k : Int) w = 2 from by unfold claE; grind]; rfl)))
      · skip
        rcases (show w = 0 ∨ w = 1 ∨ w = 2 ∨ w = 3 ∨ w = 4 ∨ w = 5 by omega) with hs41_ | hs41_ | hs41_ | hs41_ | hs41_ | hs41_
        · skip
          refine ⟨_, 80, by rw [hs41_]; rfl, by decide, ?_⟩
          refine g_aload_n 0 dX4_ofClaim_80 rfl rfl ?_
          refine g_getfr2 (r := 31) cf_5 10 rfl (by decide) (by decide) rfl (by decide) wf_X4_32 dX4_ofClaim_81 (hM 20 rfl) rfl ?_
          refine g_iload_n 1 dX4_ofClaim_84 rfl rfl ?_
          refine g_iald (k) (by omega) (by omega) rfl (by decide) dX4_ofClaim_85 (n2 (hM 31 rfl)) (fun h85_9 => ?_)
          exact g_iret dX4_ofClaim_86 rfl (Nat.le_of_ble_eq_true rfl) (Nat.le_of_ble_eq_true rfl) (pr_i (by first | (rw [show claE B x w = 0 from by unfold claE; grind, if_pos rfl]; (try unfold claV); (first | done | (simp only [prcN, lapC, livC, livB] at *; grind [b2]))) | (rw [show claE B x w = 1 from by unfold claE; grind]; rfl) | (rw [show claE B x w = 2 from by unfold claE; grind]; rfl) | (rw [show claE B (k : Int) w = 0 from by unfold claE; grind, if_pos rfl]; (try unfold claV); (first | done | (simp only [prcN, lapC, livC, livB] at *; grind [b2]))) | (rw [show claE B (k : Int) w = 1 from by unfold claE; grind]; rfl) | (rw [show claE B (k : Int) w = 2 from by unfold claE; grind]; rfl)) (by first | (rw [show claE B x w = 0 from by unfold claE; grind]; rfl) | (rw [show claE B x w = 1 from by unfold claE; grind]; rfl) | (rw [show claE B x w = 2 from by unfold claE; grind]; rfl) | (rw [show claE B (k : Int) w = 0 from by unfold claE; grind]; rfl) | (rw [show claE B (k : Int) w = 1 from by unfold claE; grind]; rfl) | (rw [show claE B (k : Int) w = 2 from by unfold claE; grind]; rfl)))
        · skip
          refine ⟨_, 87, by rw [hs41_]; rfl, by decide, ?_⟩
          refine g_aload_n 0 dX4_ofClaim_87 rfl rfl ?_
          refine g_iload_n 1 dX4_ofClaim_88 rfl rfl ?_
          refine g_cV_i (My := mX4_hourOf) (gs := [_]) (c_X4_hourOf hM hV (rl_th hR _) hk) mfX4_hourOf cf_5 wi_X4_hourOf wsl_X4_hourOf wm_X4_148 dX4_ofClaim_89 (Nat.le_of_ble_eq_true rfl) rfl (by decide) (n2 (hM 20 rfl)) rfl (fun _ => Nat.le_of_ble_eq_true rfl) (Nat.le_of_ble_eq_true rfl) (Nat.le_of_ble_eq_true rfl) rfl rfl ?_
          exact g_iret dX4_ofClaim_92 rfl (Nat.le_of_ble_eq_true rfl) (Nat.le_of_ble_eq_true rfl) (pr_i (by first | (rw [show claE B x w = 0 from by unfold claE; grind, if_pos rfl]; (try unfold claV); (first | done | (simp only [prcN, lapC, livC, livB] at *; grind [b2]))) | (rw [show claE B x w = 1 from by unfold claE; grind]; rfl) | (rw [show claE B x w = 2 from by unfold claE; grind]; rfl) | (rw [show claE B (k : Int) w = 0 from by unfold claE; grind, if_pos rfl]; (try unfold claV); (first | done | (simp only [prcN, lapC, livC, livB] at *; grind [b2]))) | (rw [show claE B (k : Int) w = 1 from by unfold claE; grind]; rfl) | (rw [show claE B (k : Int) w = 2 from by unfold claE; grind]; rfl)) (by first | (rw [show claE B x w = 0 from by unfold claE; grind]; rfl) | (rw [show claE B x w = 1 from by unfold claE; grind]; rfl) | (rw [show claE B x w = 2 from by unfold claE; grind]; rfl) | (rw [show claE B (k : Int) w = 0 from by unfold claE; grind]; rfl) | (rw [show claE B (k : Int) w = 1 from by unfold claE; grind]; rfl) | (rw [show claE B (k : Int) w = 2 from by unfold claE; grind]; rfl)))
        · skip
          refine ⟨_, 93, by rw [hs41_]; rfl, by decide, ?_⟩
          refine g_aload_n 0 dX4_ofClaim_93 rfl rfl ?_
          refine g_iload_n 1 dX4_ofClaim_94 rfl rfl ?_
          refine g_cV_i (My := mX4_isLive) (gs := [_]) (c_X4_isLive hM hV (rl_th hR _) hk) mfX4_isLive cf_5 wi_X4_isLive wsl_X4_isLive wm_X4_151 dX4_ofClaim_95 (Nat.le_of_ble_eq_true rfl) rfl (by decide) (n2 (hM 20 rfl)) rfl (fun _ => Nat.le_of_ble_eq_true rfl) (Nat.le_of_ble_eq_true rfl) (Nat.le_of_ble_eq_true rfl) rfl rfl ?_
          refine g_ifb_eq (tgt := 105) dX4_ofClaim_98 (by decide) (fun h98_10 => ?_) (fun h98_10 => ?_)
          · skip
            refine g_iconst dX4_ofClaim_105 ?_
            exact g_iret dX4_ofClaim_106 rfl (Nat.le_of_ble_eq_true rfl) (Nat.le_of_ble_eq_true rfl) (pr_i (by first | (rw [show claE B x w = 0 from by unfold claE; grind, if_pos rfl]; (try unfold claV); (first | done | (simp only [prcN, lapC, livC, livB] at *; grind [b2]))) | (rw [show claE B x w = 1 from by unfold claE; grind]; rfl) | (rw [show claE B x w = 2 from by unfold claE; grind]; rfl) | (rw [show claE B (k : Int) w = 0 from by unfold claE; grind, if_pos rfl]; (try unfold claV); (first | done | (simp only [prcN, lapC, livC, livB] at *; grind [b2]))) | (rw [show claE B (k : Int) w = 1 from by unfold claE; grind]; rfl) | (rw [show claE B (k : Int) w = 2 from by unfold claE; grind]; rfl)) (by first | (rw [show claE B x w = 0 from by unfold claE; grind]; rfl) | (rw [show claE B x w = 1 from by unfold claE; grind]; rfl) | (rw [show claE B x w = 2 from by unfold claE; grind]; rfl) | (rw [show claE B (k : Int) w = 0 from by unfold claE; grind]; rfl) | (rw [show claE B (k : Int) w = 1 from by unfold claE; grind]; rfl) | (rw [show claE B (k : Int) w = 2 from by unfold claE; grind]; rfl)))
          · skip
            refine g_iconst dX4_ofClaim_101 ?_
            refine g_goto (tgt := 106) dX4_ofClaim_102 (by decide) ?_
            exact g_iret dX4_ofClaim_106 rfl (Nat.le_of_ble_eq_true rfl) (Nat.le_of_ble_eq_true rfl) (pr_i (by first | (rw [show claE B x w = 0 from by unfold claE; grind, if_pos rfl]; (try unfold claV); (first | done | (simp only [prcN, lapC, livC, livB] at *; grind [b2]))) | (rw [show claE B x w = 1 from by unfold claE; grind]; rfl) | (rw [show claE B x w = 2 from by unfold claE; grind]; rfl) | (rw [show claE B (k : Int) w = 0 from by unfold claE; grind, if_pos rfl]; (try unfold claV); (first | done | (simp only [prcN, lapC, livC, livB] at *; grind [b2]))) | (rw [show claE B (k : Int) w = 1 from by unfold claE; grind]; rfl) | (rw [show claE B (k : Int) w = 2 from by unfold claE; grind]; rfl)) (by first | (rw [show claE B x w = 0 from by unfold claE; grind]; rfl) | (rw [show claE B x w = 1 from by unfold claE; grind]; rfl) | (rw [show claE B x w = 2 from by unfold claE; grind]; rfl) | (rw [show claE B (k : Int) w = 0 from by unfold claE; grind]; rfl) | (rw [show claE B (k : Int) w = 1 from by unfold claE; grind]; rfl) | (rw [show claE B (k : Int) w = 2 from by unfold claE; grind]; rfl)))
        · skip
          refine ⟨_, 107, by rw [hs41_]; rfl, by decide, ?_⟩
          refine g_aload_n 0 dX4_ofClaim_107 rfl rfl ?_
          refine g_iload_n 1 dX4_ofClaim_108 rfl rfl ?_
          refine g_cV_i (My := mX4_held) (gs := [_]) (c_X4_held hM hV (rl_th hR _) hk) mfX4_held cf_5 wi_X4_held wsl_X4_held wm_X4_230 dX4_ofClaim_109 (Nat.le_of_ble_eq_true rfl) rfl (by decide) (n2 (hM 20 rfl)) rfl (fun _ => Nat.le_of_ble_eq_true rfl) (Nat.le_of_ble_eq_true rfl) (Nat.le_of_ble_eq_true rfl) rfl rfl ?_
          exact g_iret dX4_ofClaim_112 rfl (Nat.le_of_ble_eq_true rfl) (Nat.le_of_ble_eq_true rfl) (pr_i (by first | (rw [show claE B x w = 0 from by unfold claE; grind, if_pos rfl]; (try unfold claV); (first | done | (simp only [prcN, lapC, livC, livB] at *; grind [b2]))) | (rw [show claE B x w = 1 from by unfold claE; grind]; rfl) | (rw [show claE B x w = 2 from by unfold claE; grind]; rfl) | (rw [show claE B (k : Int) w = 0 from by unfold claE; grind, if_pos rfl]; (try unfold claV); (first | done | (simp only [prcN, lapC, livC, livB] at *; grind [b2]))) | (rw [show claE B (k : Int) w = 1 from by unfold claE; grind]; rfl) | (rw [show claE B (k : Int) w = 2 from by unfold claE; grind]; rfl)) (by first | (rw [show claE B x w = 0 from by unfold claE; grind]; rfl) | (rw [show claE B x w = 1 from by unfold claE; grind]; rfl) | (rw [show claE B x w = 2 from by unfold claE; grind]; rfl) | (rw [show claE B (k : Int) w = 0 from by unfold claE; grind]; rfl) | (rw [show claE B (k : Int) w = 1 from by unfold claE; grind]; rfl) | (rw [show claE B (k : Int) w = 2 from by unfold claE; grind]; rfl)))
        · skip
          refine ⟨_, 113, by rw [hs41_]; rfl, by decide, ?_⟩
          refine g_aload_n 0 dX4_ofClaim_113 rfl rfl ?_
          refine g_getfr2 (r := 37) cf_5 16 rfl (by decide) (by decide) rfl (by decide) wf_X4_50 dX4_ofClaim_114 (hM 20 rfl) rfl ?_
          refine g_iload_n 1 dX4_ofClaim_117 rfl rfl ?_
          refine g_iald (k) (by omega) (by omega) rfl (by decide) dX4_ofClaim_118 (n2 (hM 37 rfl)) (fun h118_11 => ?_)
          exact g_iret dX4_ofClaim_119 rfl (Nat.le_of_ble_eq_true rfl) (Nat.le_of_ble_eq_true rfl) (pr_i (by first | (rw [show claE B x w = 0 from by unfold claE; grind, if_pos rfl]; (try unfold claV); (first | done | (simp only [prcN, lapC, livC, livB] at *; grind [b2]))) | (rw [show claE B x w = 1 from by unfold claE; grind]; rfl) | (rw [show claE B x w = 2 from by unfold claE; grind]; rfl) | (rw [show claE B (k : Int) w = 0 from by unfold claE; grind, if_pos rfl]; (try unfold claV); (first | done | (simp only [prcN, lapC, livC, livB] at *; grind [b2]))) | (rw [show claE B (k : Int) w = 1 from by unfold claE; grind]; rfl) | (rw [show claE B (k : Int) w = 2 from by unfold claE; grind]; rfl)) (by first | (rw [show claE B x w = 0 from by unfold claE; grind]; rfl) | (rw [show claE B x w = 1 from by unfold claE; grind]; rfl) | (rw [show claE B x w = 2 from by unfold claE; grind]; rfl) | (rw [show claE B (k : Int) w = 0 from by unfold claE; grind]; rfl) | (rw [show claE B (k : Int) w = 1 from by unfold claE; grind]; rfl) | (rw [show claE B (k : Int) w = 2 from by unfold claE; grind]; rfl)))
        · skip
          refine ⟨_, 120, by rw [hs41_]; rfl, by decide, ?_⟩
          refine g_aload_n 0 dX4_ofClaim_120 rfl rfl ?_
          refine g_iload_n 1 dX4_ofClaim_121 rfl rfl ?_
          refine g_cV_i (My := mX4_parcel) (gs := [_]) (c_X4_parcel hM hV (rl_th hR _) hI (k := (k : Int)) (by omega)) mfX4_parcel cf_5 wi_X4_parcel wsl_X4_parcel wm_X4_202 dX4_ofClaim_122 (Nat.le_of_ble_eq_true rfl) rfl (by decide) (n2 (hM 20 rfl)) rfl (fun _ => Nat.le_of_ble_eq_true rfl) (Nat.le_of_ble_eq_true rfl) (Nat.le_of_ble_eq_true rfl) rfl rfl ?_
          exact g_iret dX4_ofClaim_125 rfl (Nat.le_of_ble_eq_true rfl) (Nat.le_of_ble_eq_true rfl) (pr_i (by first | (rw [show claE B x w = 0 from by unfold claE; grind, if_pos rfl]; (try unfold claV); (first | done | (simp only [prcN, lapC, livC, livB] at *; grind [b2]))) | (rw [show claE B x w = 1 from by unfold claE; grind]; rfl) | (rw [show claE B x w = 2 from by unfold claE; grind]; rfl) | (rw [show claE B (k : Int) w = 0 from by unfold claE; grind, if_pos rfl]; (try unfold claV); (first | done | (simp only [prcN, lapC, livC, livB] at *; grind [b2]))) | (rw [show claE B (k : Int) w = 1 from by unfold claE; grind]; rfl) | (rw [show claE B (k : Int) w = 2 from by unfold claE; grind]; rfl)) (by first | (rw [show claE B x w = 0 from by unfold claE; grind]; rfl) | (rw [show claE B x w = 1 from by unfold claE; grind]; rfl) | (rw [show claE B x w = 2 from by unfold claE; grind]; rfl) | (rw [show claE B (k : Int) w = 0 from by unfold claE; grind]; rfl) | (rw [show claE B (k : Int) w = 1 from by unfold claE; grind]; rfl) | (rw [show claE B (k : Int) w = 2 from by unfold claE; grind]; rfl)))
    · skip
      refine g_cS_i (My := mX4_in) (gs := [_, _, _]) (c_X4_in (by omega) (by omega) (by omega)) mfX4_in rfl wst_X4_in wm_X4_108 dX4_ofClaim_17 (Nat.le_of_ble_eq_true rfl) rfl (fun _ => Nat.le_of_ble_eq_true rfl) (Nat.le_of_ble_eq_true rfl) (Nat.le_of_ble_eq_true rfl) rfl rfl ?_
      refine g_top (y := 0) (by first | (rw [decide_eq_false hs17]; rfl) | (rw [inB, decide_eq_false hs17]; rfl)) ?_
      refine g_if_eq (tgt := 27) (by omega) dX4_ofClaim_20 (by decide) (fun h20_12 => ?_) (fun h20_12 => absurd h20_12 (by omega))
      refine g_iconst dX4_ofClaim_27 ?_
      refine g_putfi cf_5 0 rfl (by decide) (by decide) rfl (by decide) wf_X4_104 (Or.inl rfl) rfl dX4_ofClaim_28 (n2 (hM 20 rfl)) (by omega) ?_
      refine g_aload_n 0 dX4_ofClaim_31 rfl rfl ?_
      refine g_getfi cf_5 0 rfl (by decide) (by decide) rfl (by decide) wf_X4_104 dX4_ofClaim_32 (n2 (hM 20 rfl)) (fun h32_13 => ?_)
      refine g_top (y := 2) (gup_at _ _ _ _) ?_
      refine g_if_le (tgt := 40) (by omega) dX4_ofClaim_35 (by decide) (fun h35_14 => absurd h35_14 (by omega)) (fun h35_14 => ?_)
      refine g_iconst dX4_ofClaim_38 ?_
      exact g_iret dX4_ofClaim_39 rfl (Nat.le_of_ble_eq_true rfl) (Nat.le_of_ble_eq_true rfl) (pr_i (by first | (rw [show claE B x w = 0 from by unfold claE; grind, if_pos rfl]; (try unfold claV); (first | done | (simp only [prcN, lapC, livC, livB] at *; grind [b2]))) | (rw [show claE B x w = 1 from by unfold claE; grind]; rfl) | (rw [show claE B x w = 2 from by unfold claE; grind]; rfl) | (rw [show claE B (k : Int) w = 0 from by unfold claE; grind, if_pos rfl]; (try unfold claV); (first | done | (simp only [prcN, lapC, livC, livB] at *; grind [b2]))) | (rw [show claE B (k : Int) w = 1 from by unfold claE; grind]; rfl) | (rw [show claE B (k : Int) w = 2 from by unfold claE; grind]; rfl)) (by first | (rw [show claE B x w = 0 from by unfold claE; grind]; rfl) | (rw [show claE B x w = 1 from by unfold claE; grind]; rfl) | (rw [show claE B x w = 2 from by unfold claE; grind]; rfl) | (rw [show claE B (k : Int) w = 0 from by unfold claE; grind]; rfl) | (rw [show claE B (k : Int) w = 1 from by unfold claE; grind]; rfl) | (rw [show claE B (k : Int) w = 2 from by unfold claE; grind]; rfl)))
  · skip
    refine g_cV_i (My := mX4_isClaim) (gs := [_]) (c_X4_isClaim hM hV hR (by omega)) mfX4_isClaim cf_5 wi_X4_isClaim wsl_X4_isClaim wm_X4_142 dX4_ofClaim_3 (Nat.le_of_ble_eq_true rfl) rfl (by decide) (n2 (hM 20 rfl)) rfl (fun _ => Nat.le_of_ble_eq_true rfl) (Nat.le_of_ble_eq_true rfl) (Nat.le_of_ble_eq_true rfl) rfl rfl ?_
    refine g_top (y := 0) (by rw [decide_eq_false hs3]; rfl) ?_
    refine g_if_ne (tgt := 13) (by omega) dX4_ofClaim_6 (by decide) (fun h6_15 => absurd h6_15 (by omega)) (fun h6_15 => ?_)
    refine g_iconst dX4_ofClaim_9 ?_
    refine g_goto (tgt := 28) dX4_ofClaim_10 (by decide) ?_
    refine g_putfi cf_5 0 rfl (by decide) (by decide) rfl (by decide) wf_X4_104 (Or.inl rfl) rfl dX4_ofClaim_28 (n2 (hM 20 rfl)) (by omega) ?_
    refine g_aload_n 0 dX4_ofClaim_31 rfl rfl ?_
    refine g_getfi cf_5 0 rfl (by decide) (by decide) rfl (by decide) wf_X4_104 dX4_ofClaim_32 (n2 (hM 20 rfl)) (fun h32_16 => ?_)
    refine g_top (y := 1) (gup_at _ _ _ _) ?_
    refine g_if_le (tgt := 40) (by omega) dX4_ofClaim_35 (by decide) (fun h35_17 => absurd h35_17 (by omega)) (fun h35_17 => ?_)
    refine g_iconst dX4_ofClaim_38 ?_
    exact g_iret dX4_ofClaim_39 rfl (Nat.le_of_ble_eq_true rfl) (Nat.le_of_ble_eq_true rfl) (pr_i (by first | (rw [show claE B x w = 0 from by unfold claE; grind, if_pos rfl]; (try unfold claV); (first | done | (simp only [prcN, lapC, livC, livB] at *; grind [b2]))) | (rw [show claE B x w = 1 from by unfold claE; grind]; rfl) | (rw [show claE B x w = 2 from by unfold claE; grind]; rfl) | (rw [show claE B (k : Int) w = 0 from by unfold claE; grind, if_pos rfl]; (try unfold claV); (first | done | (simp only [prcN, lapC, livC, livB] at *; grind [b2]))) | (rw [show claE B (k : Int) w = 1 from by unfold claE; grind]; rfl) | (rw [show claE B (k : Int) w = 2 from by unfold claE; grind]; rfl)) (by first | (rw [show claE B x w = 0 from by unfold claE; grind]; rfl) | (rw [show claE B x w = 1 from by unfold claE; grind]; rfl) | (rw [show claE B x w = 2 from by unfold claE; grind]; rfl) | (rw [show claE B (k : Int) w = 0 from by unfold claE; grind]; rfl) | (rw [show claE B (k : Int) w = 1 from by unfold claE; grind]; rfl) | (rw [show claE B (k : Int) w = 2 from by unfold claE; grind]; rfl)))

set_option maxRecDepth 20000 in
theorem c_X4_share {L : Nat → Nat} {A B : Mem} (hM : LM L) (hV : VC L B) (hR : Rel B A) {x p : Int} (hx : -2147483648 ≤ x ∧ x < 2147483648) (hp : -2147483648 ≤ p ∧ p < 2147483648) : Ct mX4_share [gr 20, gi x, gi p] L A (pr (some (gi (if shaE B x p = 0 then B (101 + 3 * x.toNat) p.toNat else 0))) L (if shaE B x p = 0 then gup A 20 0 0 else gup A 20 0 (shaE B x p : Nat))) := by
  have hnc := vc_nc hV; have hns := vc_ns hV; have hp0 := (vc_p hV).1
  have rnow := rl_now hR; have rnc := rl_nc hR; have rns := rl_ns hR
  refine Ct_of (ls := [(0, _), (1, _), (2, _)]) rfl (by decide) (fun _ => rfl) (fun _ => Nat.le_of_ble_eq_true rfl) ?_
  refine g_aload_n 0 dX4_share_0 rfl rfl ?_
  refine g_aload_n 0 dX4_share_1 rfl rfl ?_
  refine g_iload_n 1 dX4_share_2 rfl rfl ?_
  by_cases hs3 : 0 ≤ x ∧ x < B 2 2
  · skip
    obtain ⟨k, rfl⟩ : ∃ k : Nat, x = k := ⟨x.toNat, by omega⟩
    have hk : (k : Int) < B 2 2 := by omega
    have rk := rl_k hR hk; have hcv := vc_cv hV hk; have hk12 := vc_k hV hk
    refine g_cV_i (My := mX4_isClaim) (gs := [_]) (c_X4_isClaim hM hV hR (by omega)) mfX4_isClaim cf_5 wi_X4_isClaim wsl_X4_isClaim wm_X4_142 dX4_share_3 (Nat.le_of_ble_eq_true rfl) rfl (by decide) (n2 (hM 20 rfl)) rfl (fun _ => Nat.le_of_ble_eq_true rfl) (Nat.le_of_ble_eq_true rfl) (Nat.le_of_ble_eq_true rfl) rfl rfl ?_
    refine g_top (y := 1) (by rw [decide_eq_true hs3]; rfl) ?_
    refine g_if_eq (tgt := 20) (by omega) dX4_share_6 (by decide) (fun h6_1 => absurd h6_1 (by omega)) (fun h6_1 => ?_)
    refine g_iload_n 2 dX4_share_9 rfl rfl ?_
    by_cases hs10 : 0 ≤ p ∧ p < 8
    · skip
      refine g_cS_i (My := mX4_isPerson) (gs := [_]) (c_X4_isPerson (by omega)) mfX4_isPerson rfl wst_X4_isPerson wm_X4_128 dX4_share_10 (Nat.le_of_ble_eq_true rfl) rfl (fun _ => Nat.le_of_ble_eq_true rfl) (Nat.le_of_ble_eq_true rfl) (Nat.le_of_ble_eq_true rfl) rfl rfl ?_
      refine g_top (y := 1) (by first | (rw [decide_eq_true hs10]; rfl) | (rw [cellB, decide_eq_true hs10]; rfl)) ?_
      refine g_if_eq (tgt := 20) (by omega) dX4_share_13 (by decide) (fun h13_2 => absurd h13_2 (by omega)) (fun h13_2 => ?_)
      refine g_iconst dX4_share_16 ?_
      refine g_goto (tgt := 21) dX4_share_17 (by decide) ?_
      refine g_putfi cf_5 0 rfl (by decide) (by decide) rfl (by decide) wf_X4_104 (Or.inl rfl) rfl dX4_share_21 (n2 (hM 20 rfl)) (by omega) ?_
      refine g_aload_n 0 dX4_share_24 rfl rfl ?_
      refine g_getfi cf_5 0 rfl (by decide) (by decide) rfl (by decide) wf_X4_104 dX4_share_25 (n2 (hM 20 rfl)) (fun h25_3 => ?_)
      refine g_top (y := 0) (gup_at _ _ _ _) ?_
      refine g_if_le (tgt := 35) (by omega) dX4_share_28 (by decide) (fun h28_4 => ?_) (fun h28_4 => absurd h28_4 (by omega))
      refine g_aload_n 0 dX4_share_35 rfl rfl ?_
      refine g_iload_n 1 dX4_share_36 rfl rfl ?_
      refine g_iload_n 2 dX4_share_37 rfl rfl ?_
      refine g_cV_i (My := mX4_shareOf) (gs := [_, _]) (c_X4_shareOf hM hV (rl_th hR _) hk hs10) mfX4_shareOf cf_5 wi_X4_shareOf wsl_X4_shareOf wm_X4_145 dX4_share_38 (Nat.le_of_ble_eq_true rfl) rfl (by decide) (n2 (hM 20 rfl)) rfl (fun _ => Nat.le_of_ble_eq_true rfl) (Nat.le_of_ble_eq_true rfl) (Nat.le_of_ble_eq_true rfl) rfl rfl ?_
      exact g_iret dX4_share_41 rfl (Nat.le_of_ble_eq_true rfl) (Nat.le_of_ble_eq_true rfl) (pr_i (by first | (rw [show shaE B x p = 0 from by unfold shaE; grind, if_pos rfl]; (try unfold id); (first | done | (rfl))) | (rw [show shaE B x p = 1 from by unfold shaE; grind]; rfl) | (rw [show shaE B x p = 2 from by unfold shaE; grind]; rfl) | (rw [show shaE B (k : Int) p = 0 from by unfold shaE; grind, if_pos rfl]; (try unfold id); (first | done | (rfl))) | (rw [show shaE B (k : Int) p = 1 from by unfold shaE; grind]; rfl) | (rw [show shaE B (k : Int) p = 2 from by unfold shaE; grind]; rfl)) (by first | (rw [show shaE B x p = 0 from by unfold shaE; grind]; rfl) | (rw [show shaE B x p = 1 from by unfold shaE; grind]; rfl) | (rw [show shaE B x p = 2 from by unfold shaE; grind]; rfl) | (rw [show shaE B (k : Int) p = 0 from by unfold shaE; grind]; rfl) | (rw [show shaE B (k : Int) p = 1 from by unfold shaE; grind]; rfl) | (rw [show shaE B (k : Int) p = 2 from by unfold shaE; grind]; rfl)))
    · skip
      refine g_cS_i (My := mX4_isPerson) (gs := [_]) (c_X4_isPerson (by omega)) mfX4_isPerson rfl wst_X4_isPerson wm_X4_128 dX4_share_10 (Nat.le_of_ble_eq_true rfl) rfl (fun _ => Nat.le_of_ble_eq_true rfl) (Nat.le_of_ble_eq_true rfl) (Nat.le_of_ble_eq_true rfl) rfl rfl ?_
      refine g_top (y := 0) (by first | (rw [decide_eq_false hs10]; rfl) | (rw [cellB, decide_eq_false hs10]; rfl)) ?_
      refine g_if_eq (tgt := 20) (by omega) dX4_share_13 (by decide) (fun h13_5 => ?_) (fun h13_5 => absurd h13_5 (by omega))
      refine g_iconst dX4_share_20 ?_
      refine g_putfi cf_5 0 rfl (by decide) (by decide) rfl (by decide) wf_X4_104 (Or.inl rfl) rfl dX4_share_21 (n2 (hM 20 rfl)) (by omega) ?_
      refine g_aload_n 0 dX4_share_24 rfl rfl ?_
      refine g_getfi cf_5 0 rfl (by decide) (by decide) rfl (by decide) wf_X4_104 dX4_share_25 (n2 (hM 20 rfl)) (fun h25_6 => ?_)
      refine g_top (y := 1) (gup_at _ _ _ _) ?_
      refine g_if_le (tgt := 35) (by omega) dX4_share_28 (by decide) (fun h28_7 => absurd h28_7 (by omega)) (fun h28_7 => ?_)
      refine g_iconst dX4_share_31 ?_
      refine g_goto (tgt := 41) dX4_share_32 (by decide) ?_
      exact g_iret dX4_share_41 rfl (Nat.le_of_ble_eq_true rfl) (Nat.le_of_ble_eq_true rfl) (pr_i (by first | (rw [show shaE B x p = 0 from by unfold shaE; grind, if_pos rfl]; (try unfold id); (first | done | (rfl))) | (rw [show shaE B x p = 1 from by unfold shaE; grind]; rfl) | (rw [show shaE B x p = 2 from by unfold shaE; grind]; rfl) | (rw [show shaE B (k : Int) p = 0 from by unfold shaE; grind, if_pos rfl]; (try unfold id); (first | done | (rfl))) | (rw [show shaE B (k : Int) p = 1 from by unfold shaE; grind]; rfl) | (rw [show shaE B (k : Int) p = 2 from by unfold shaE; grind]; rfl)) (by first | (rw [show shaE B x p = 0 from by unfold shaE; grind]; rfl) | (rw [show shaE B x p = 1 from by unfold shaE; grind]; rfl) | (rw [show shaE B x p = 2 from by unfold shaE; grind]; rfl) | (rw [show shaE B (k : Int) p = 0 from by unfold shaE; grind]; rfl) | (rw [show shaE B (k : Int) p = 1 from by unfold shaE; grind]; rfl) | (rw [show shaE B (k : Int) p = 2 from by unfold shaE; grind]; rfl)))
  · skip
    refine g_cV_i (My := mX4_isClaim) (gs := [_]) (c_X4_isClaim hM hV hR (by omega)) mfX4_isClaim cf_5 wi_X4_isClaim wsl_X4_isClaim wm_X4_142 dX4_share_3 (Nat.le_of_ble_eq_true rfl) rfl (by decide) (n2 (hM 20 rfl)) rfl (fun _ => Nat.le_of_ble_eq_true rfl) (Nat.le_of_ble_eq_true rfl) (Nat.le_of_ble_eq_true rfl) rfl rfl ?_
    refine g_top (y := 0) (by rw [decide_eq_false hs3]; rfl) ?_
    refine g_if_eq (tgt := 20) (by omega) dX4_share_6 (by decide) (fun h6_8 => ?_) (fun h6_8 => absurd h6_8 (by omega))
    refine g_iconst dX4_share_20 ?_
    refine g_putfi cf_5 0 rfl (by decide) (by decide) rfl (by decide) wf_X4_104 (Or.inl rfl) rfl dX4_share_21 (n2 (hM 20 rfl)) (by omega) ?_
    refine g_aload_n 0 dX4_share_24 rfl rfl ?_
    refine g_getfi cf_5 0 rfl (by decide) (by decide) rfl (by decide) wf_X4_104 dX4_share_25 (n2 (hM 20 rfl)) (fun h25_9 => ?_)
    refine g_top (y := 1) (gup_at _ _ _ _) ?_
    refine g_if_le (tgt := 35) (by omega) dX4_share_28 (by decide) (fun h28_10 => absurd h28_10 (by omega)) (fun h28_10 => ?_)
    refine g_iconst dX4_share_31 ?_
    refine g_goto (tgt := 41) dX4_share_32 (by decide) ?_
    exact g_iret dX4_share_41 rfl (Nat.le_of_ble_eq_true rfl) (Nat.le_of_ble_eq_true rfl) (pr_i (by first | (rw [show shaE B x p = 0 from by unfold shaE; grind, if_pos rfl]; (try unfold id); (first | done | (rfl))) | (rw [show shaE B x p = 1 from by unfold shaE; grind]; rfl) | (rw [show shaE B x p = 2 from by unfold shaE; grind]; rfl) | (rw [show shaE B (k : Int) p = 0 from by unfold shaE; grind, if_pos rfl]; (try unfold id); (first | done | (rfl))) | (rw [show shaE B (k : Int) p = 1 from by unfold shaE; grind]; rfl) | (rw [show shaE B (k : Int) p = 2 from by unfold shaE; grind]; rfl)) (by first | (rw [show shaE B x p = 0 from by unfold shaE; grind]; rfl) | (rw [show shaE B x p = 1 from by unfold shaE; grind]; rfl) | (rw [show shaE B x p = 2 from by unfold shaE; grind]; rfl) | (rw [show shaE B (k : Int) p = 0 from by unfold shaE; grind]; rfl) | (rw [show shaE B (k : Int) p = 1 from by unfold shaE; grind]; rfl) | (rw [show shaE B (k : Int) p = 2 from by unfold shaE; grind]; rfl)))

/-- whether two claims meet in one of the first n cells -/
def mtF (f g : Nat → Bool) : Nat → Bool
  | 0 => false
  | n + 1 => mtF f g n || f n && g n
theorem mtF_t {f g : Nat → Bool} {n : Nat} : mtF f g n = true ↔ ∃ c, c < n ∧ f c = true ∧ g c = true := by
  induction n with
  | zero => simp [mtF]
  | succ n ih =>
    simp only [mtF, Bool.or_eq_true, Bool.and_eq_true, ih]
    constructor
    · rintro (⟨c, h1, h2⟩ | h)
      · exact ⟨c, by omega, h2⟩
      · exact ⟨n, by omega, h⟩
    · rintro ⟨c, h1, h2⟩
      rcases Nat.lt_or_ge c n with h | h
      · exact Or.inl ⟨c, h, h2⟩
      · rw [show c = n by omega] at h2; exact Or.inr h2
theorem mtF_ov {L : Nat → Nat} {B : Mem} (hV : VC L B) (hI : IV B) {k j : Nat} (hk : (k : Int) < B 2 2) (hj : (j : Int) < B 2 2) : mtF (fun c => covC B c k) (fun c => covC B c j) 100 = ovC B k j := by
  have h1 := (vc_cv hV hk).2.1; have h2 := (vc_cv hV hj).2.1; have h3 := (iv_k hI hk).2.1; have h4 := (iv_k hI hj).2.1
  rw [Bool.eq_iff_iff, mtF_t]
  unfold ovC ovB covC covB
  simp only [decide_eq_true_eq]
  constructor
  · rintro ⟨c, h5, h6, h7⟩; omega
  · intro h5
    refine ⟨(10 * max (B (100 + 3 * k) 1) (B (100 + 3 * j) 1) + max (B (100 + 3 * k) 2) (B (100 + 3 * j) 2)).toNat, ?_, ?_, ?_⟩ <;> omega

set_option maxHeartbeats 1000000 in
set_option maxRecDepth 20000 in
theorem c_X4_meet {L : Nat → Nat} {A B : Mem} (hM : LM L) (hV : VC L B) (hR : Rel B A) (hI : IV B) {k : Nat} (hk : (k : Int) < B 2 2) {j : Nat} (hj : (j : Int) < B 2 2) : Ct mX4_meet [gr 20, gi (k : Int), gi (j : Int)] L A (pr (some (gi (b2 (ovC B k j)))) L A) := by
  have hnc := vc_nc hV; have hns := vc_ns hV; have hp0 := (vc_p hV).1
  have rnow := rl_now hR; have rnc := rl_nc hR; have rns := rl_ns hR
  refine Ct_of (ls := [(0, _), (1, _), (2, _)]) rfl (by decide) (fun _ => rfl) (fun _ => Nat.le_of_ble_eq_true rfl) ?_
  refine g_iconst dX4_meet_0 ?_
  refine g_st (ls2 := [(3, _), (0, _), (1, _), (2, _)]) dX4_meet_1 rfl (by decide) (c1_cr (c1_ci (c1_ci c1_0))) rfl ?_
  refine g_iconst dX4_meet_2 ?_
  refine g_st2 (ls2 := [(4, _), (3, _), (0, _), (1, _), (2, _)]) dX4_meet_3 (by decide) (c1_ci (c1_cr (c1_ci (c1_ci c1_0)))) rfl ?_
  refine g_sub [2, 3, 4, 1, 0] (ls2 := [(0, _), (1, _), (2, _), (3, _), (4, _)]) rfl ?_
  have hQ5 : (fun i : Nat => GW mX4_meet (pr (some (gi (b2 (ovC B k j)))) L A) 0 0 5 [(0, gr (20)), (1, gi ((k : Int))), (2, gi ((j : Int))), (3, gi (b2 (mtF (fun c => covC B c k) (fun c => covC B c j) i))), (4, gi ((i : Int)))] [] L (A)) 0 := by
    refine lp_up (Q := (fun i : Nat => GW mX4_meet (pr (some (gi (b2 (ovC B k j)))) L A) 0 0 5 [(0, gr (20)), (1, gi ((k : Int))), (2, gi ((j : Int))), (3, gi (b2 (mtF (fun c => covC B c k) (fun c => covC B c j) i))), (4, gi ((i : Int)))] [] L (A))) (n := 100) ?_ (fun i hi5 ih5 => ?_)
    · skip
      refine g_iload 4 dX4_meet_5 rfl ?_
      refine g_bipush dX4_meet_7 (by decide) ?_
      refine g_icmp_ge (tgt := 48) (by omega) (by omega) dX4_meet_9 (by decide) (fun h9_1 => ?_) (fun h9_1 => absurd h9_1 (by omega))
      refine g_iload_n 3 dX4_meet_48 rfl rfl ?_
      exact g_zret dX4_meet_49 rfl (b2_01 _) (Nat.le_of_ble_eq_true rfl) (Nat.le_of_ble_eq_true rfl) (pr_i (by rw [mtF_ov hV hI hk hj]) (rfl))
    · skip
      refine g_iload 4 dX4_meet_5 rfl ?_
      refine g_bipush dX4_meet_7 (by decide) ?_
      refine g_icmp_ge (tgt := 48) (by omega) (by omega) dX4_meet_9 (by decide) (fun h9_2 => absurd h9_2 (by omega)) (fun h9_2 => ?_)
      refine g_iload_n 3 dX4_meet_12 rfl rfl ?_
      refine g_ifb_ne (tgt := 36) dX4_meet_13 (by decide) (fun h13_3 => ?_) (fun h13_3 => ?_)
      · skip
        refine g_iconst dX4_meet_36 ?_
        refine g_goto (tgt := 41) dX4_meet_37 (by decide) ?_
        refine g_top (y := b2 (mtF (fun c => covC B c k) (fun c => covC B c j) (i + 1))) (by simp only [mtF]; simp [*, b2]) ?_
        refine g_st (ls2 := [(3, _), (0, _), (1, _), (2, _), (4, _)]) dX4_meet_41 rfl (by decide) (c1_cr (c1_ci (c1_ci (c1_ci (c1_ci c1_0))))) rfl ?_
        refine g_inc (ls2 := [(4, _), (3, _), (0, _), (1, _), (2, _)]) 4 dX4_meet_42 rfl (by decide) (c1_ci (c1_cr (c1_ci (c1_ci (c1_ci c1_0))))) rfl ?_
        refine g_goto (tgt := 5) dX4_meet_45 (by decide) ?_
        refine g_sub [2, 3, 4, 1, 0] (ls2 := [(0, _), (1, _), (2, _), (3, _), (4, _)]) rfl ?_
        exact g_ls (by rfl) rfl rfl ih5
      · skip
        refine g_aload_n 0 dX4_meet_16 rfl rfl ?_
        refine g_iload_n 1 dX4_meet_17 rfl rfl ?_
        refine g_iload 4 dX4_meet_18 rfl ?_
        refine g_cV_i (My := mX4_covers) (gs := [_, _]) (c_X4_covers hM hV hR hk (x := (i : Int)) (by omega)) mfX4_covers cf_5 wi_X4_covers wsl_X4_covers wm_X4_154 dX4_meet_20 (Nat.le_of_ble_eq_true rfl) rfl (by decide) (n2 (hM 20 rfl)) rfl (fun _ => Nat.le_of_ble_eq_true rfl) (Nat.le_of_ble_eq_true rfl) (Nat.le_of_ble_eq_true rfl) rfl rfl ?_
        refine g_ifb_eq (tgt := 40) dX4_meet_23 (by decide) (fun h23_4 => ?_) (fun h23_4 => ?_)
        · skip
          refine g_iconst dX4_meet_40 ?_
          refine g_top (y := b2 (mtF (fun c => covC B c k) (fun c => covC B c j) (i + 1))) (by simp only [mtF]; simp [*, b2]) ?_
          refine g_st (ls2 := [(3, _), (0, _), (1, _), (2, _), (4, _)]) dX4_meet_41 rfl (by decide) (c1_cr (c1_ci (c1_ci (c1_ci (c1_ci c1_0))))) rfl ?_
          refine g_inc (ls2 := [(4, _), (3, _), (0, _), (1, _), (2, _)]) 4 dX4_meet_42 rfl (by decide) (c1_ci (c1_cr (c1_ci (c1_ci (c1_ci c1_0))))) rfl ?_
          refine g_goto (tgt := 5) dX4_meet_45 (by decide) ?_
          refine g_sub [2, 3, 4, 1, 0] (ls2 := [(0, _), (1, _), (2, _), (3, _), (4, _)]) rfl ?_
          exact g_ls (by rfl) rfl rfl ih5
        · skip
          refine g_aload_n 0 dX4_meet_26 rfl rfl ?_
          refine g_iload_n 2 dX4_meet_27 rfl rfl ?_
          refine g_iload 4 dX4_meet_28 rfl ?_
          refine g_cV_i (My := mX4_covers) (gs := [_, _]) (c_X4_covers hM hV hR hj (x := (i : Int)) (by omega)) mfX4_covers cf_5 wi_X4_covers wsl_X4_covers wm_X4_154 dX4_meet_30 (Nat.le_of_ble_eq_true rfl) rfl (by decide) (n2 (hM 20 rfl)) rfl (fun _ => Nat.le_of_ble_eq_true rfl) (Nat.le_of_ble_eq_true rfl) (Nat.le_of_ble_eq_true rfl) rfl rfl ?_
          refine g_ifb_eq (tgt := 40) dX4_meet_33 (by decide) (fun h33_5 => ?_) (fun h33_5 => ?_)
          · skip
            refine g_iconst dX4_meet_40 ?_
            refine g_top (y := b2 (mtF (fun c => covC B c k) (fun c => covC B c j) (i + 1))) (by simp only [mtF]; simp [*, b2]) ?_
            refine g_st (ls2 := [(3, _), (0, _), (1, _), (2, _), (4, _)]) dX4_meet_41 rfl (by decide) (c1_cr (c1_ci (c1_ci (c1_ci (c1_ci c1_0))))) rfl ?_
            refine g_inc (ls2 := [(4, _), (3, _), (0, _), (1, _), (2, _)]) 4 dX4_meet_42 rfl (by decide) (c1_ci (c1_cr (c1_ci (c1_ci (c1_ci c1_0))))) rfl ?_
            refine g_goto (tgt := 5) dX4_meet_45 (by decide) ?_
            refine g_sub [2, 3, 4, 1, 0] (ls2 := [(0, _), (1, _), (2, _), (3, _), (4, _)]) rfl ?_
            exact g_ls (by rfl) rfl rfl ih5
          · skip
            refine g_iconst dX4_meet_36 ?_
            refine g_goto (tgt := 41) dX4_meet_37 (by decide) ?_
            refine g_top (y := b2 (mtF (fun c => covC B c k) (fun c => covC B c j) (i + 1))) (by simp only [mtF]; simp [*, b2]) ?_
            refine g_st (ls2 := [(3, _), (0, _), (1, _), (2, _), (4, _)]) dX4_meet_41 rfl (by decide) (c1_cr (c1_ci (c1_ci (c1_ci (c1_ci c1_0))))) rfl ?_
            refine g_inc (ls2 := [(4, _), (3, _), (0, _), (1, _), (2, _)]) 4 dX4_meet_42 rfl (by decide) (c1_ci (c1_cr (c1_ci (c1_ci (c1_ci c1_0))))) rfl ?_
            refine g_goto (tgt := 5) dX4_meet_45 (by decide) ?_
            refine g_sub [2, 3, 4, 1, 0] (ls2 := [(0, _), (1, _), (2, _), (3, _), (4, _)]) rfl ?_
            exact g_ls (by rfl) rfl rfl ih5
  exact g_ls (by rfl) rfl rfl hQ5

set_option maxRecDepth 20000 in
theorem c_X4_stonesOf {L : Nat → Nat} {A B : Mem} (hM : LM L) (hV : VC L B) (hR : Rel B A) {p : Int} (hp : 0 ≤ p ∧ p < 8) : Ct mX4_stonesOf [gr 20, gi p] L A (pr (some (gi (perN B p))) L A) := by
  have hnc := vc_nc hV; have hns := vc_ns hV; have hp0 := (vc_p hV).1
  have rnow := rl_now hR; have rnc := rl_nc hR; have rns := rl_ns hR
  refine Ct_of (ls := [(0, _), (1, _)]) rfl (by decide) (fun _ => rfl) (fun _ => Nat.le_of_ble_eq_true rfl) ?_
  refine g_iconst dX4_stonesOf_0 ?_
  refine g_st (ls2 := [(2, _), (0, _), (1, _)]) dX4_stonesOf_1 rfl (by decide) (c1_cr (c1_ci c1_0)) rfl ?_
  refine g_iconst dX4_stonesOf_2 ?_
  refine g_st (ls2 := [(3, _), (2, _), (0, _), (1, _)]) dX4_stonesOf_3 rfl (by decide) (c1_ci (c1_cr (c1_ci c1_0))) rfl ?_
  refine g_sub [2, 3, 1, 0] (ls2 := [(0, _), (1, _), (2, _), (3, _)]) rfl ?_
  have hQ4 : (fun i : Nat => GW mX4_stonesOf (pr (some (gi (perN B p))) L A) 0 0 4 [(0, gr (20)), (1, gi (p)), (2, gi (cntF (fun s => decide (plC B s = 1 ∧ B (200 + 3 * s) 6 = p)) i)), (3, gi ((i : Int)))] [] L (A)) 0 := by
    refine lp_up (Q := (fun i : Nat => GW mX4_stonesOf (pr (some (gi (perN B p))) L A) 0 0 4 [(0, gr (20)), (1, gi (p)), (2, gi (cntF (fun s => decide (plC B s = 1 ∧ B (200 + 3 * s) 6 = p)) i)), (3, gi ((i : Int)))] [] L (A))) (n := (B 3 2).toNat) ?_ (fun i hi4 ih4 => ?_)
    · skip
      refine g_iload_n 3 dX4_stonesOf_4 rfl rfl ?_
      refine g_aload_n 0 dX4_stonesOf_5 rfl rfl ?_
      refine g_getfi cf_5 23 rfl (by decide) (by decide) rfl (by decide) wf_X4_115 dX4_stonesOf_6 (n2 (hM 20 rfl)) (fun h6_1 => ?_)
      refine g_icmp_ge (tgt := 46) (by omega) (by omega) dX4_stonesOf_9 (by decide) (fun h9_2 => ?_) (fun h9_2 => absurd h9_2 (by omega))
      refine g_iload_n 2 dX4_stonesOf_46 rfl rfl ?_
      exact g_iret dX4_stonesOf_47 rfl (Nat.le_of_ble_eq_true rfl) (Nat.le_of_ble_eq_true rfl) (pr_i (rfl) (rfl))
    · skip
      have hs : (i : Int) < B 3 2 := by omega
      have rs := rl_s hR hs; have hsv := vc_sv hV hs
      have e1 := rs.2.2.2.1; have e2 := rs.2.2.2.2.2.2.1
      refine g_iload_n 3 dX4_stonesOf_4 rfl rfl ?_
      refine g_aload_n 0 dX4_stonesOf_5 rfl rfl ?_
      refine g_getfi cf_5 23 rfl (by decide) (by decide) rfl (by decide) wf_X4_115 dX4_stonesOf_6 (n2 (hM 20 rfl)) (fun h6_3 => ?_)
      refine g_icmp_ge (tgt := 46) (by omega) (by omega) dX4_stonesOf_9 (by decide) (fun h9_4 => absurd h9_4 (by omega)) (fun h9_4 => ?_)
      refine g_iload_n 2 dX4_stonesOf_12 rfl rfl ?_
      refine g_aload_n 0 dX4_stonesOf_13 rfl rfl ?_
      refine g_getfr2 (r := 48) cf_5 27 rfl (by decide) (by decide) rfl (by decide) wf_X4_80 dX4_stonesOf_14 (hM 20 rfl) rfl ?_
      refine g_iload_n 3 dX4_stonesOf_17 rfl rfl ?_
      refine g_iald (i) (by omega) (by omega) rfl (by decide) dX4_stonesOf_18 (n2 (hM 48 rfl)) (fun h18_5 => ?_)
      refine g_iload_n 1 dX4_stonesOf_19 rfl rfl ?_
      refine g_icmp_ne (tgt := 37) (by omega) (by omega) dX4_stonesOf_20 (by decide) (fun h20_6 => ?_) (fun h20_6 => ?_)
      · skip
        refine g_iconst dX4_stonesOf_37 ?_
        refine g_iadd dX4_stonesOf_38 ?_
        refine g_st (ls2 := [(2, _), (0, _), (1, _), (3, _)]) dX4_stonesOf_39 rfl (by decide) (c1_cr (c1_ci (c1_ci (c1_ci c1_0)))) rfl ?_
        refine g_inc (ls2 := [(3, _), (2, _), (0, _), (1, _)]) 3 dX4_stonesOf_40 rfl (by decide) (c1_ci (c1_cr (c1_ci (c1_ci c1_0)))) rfl ?_
        refine g_goto (tgt := 4) dX4_stonesOf_43 (by decide) ?_
        refine g_sub [2, 3, 1, 0] (ls2 := [(0, _), (1, _), (2, _), (3, _)]) rfl ?_
        first | exact g_ls (by simp only [cntF]; rw [decide_eq_true (by unfold plC plcC; grind)]; rfl) rfl rfl ih4 | exact g_ls (by simp only [cntF]; rw [decide_eq_false (by unfold plC plcC; grind)]; rfl) rfl rfl ih4
      · skip
        refine g_aload_n 0 dX4_stonesOf_23 rfl rfl ?_
        refine g_getfr2 (r := 51) cf_5 30 rfl (by decide) (by decide) rfl (by decide) wf_X4_89 dX4_stonesOf_24 (hM 20 rfl) rfl ?_
        refine g_iload_n 3 dX4_stonesOf_27 rfl rfl ?_
        refine g_iald (i) (by omega) (by omega) rfl (by decide) dX4_stonesOf_28 (n2 (hM 51 rfl)) (fun h28_7 => ?_)
        refine g_iconst dX4_stonesOf_29 ?_
        refine g_icmp_ne (tgt := 37) (by omega) (by omega) dX4_stonesOf_30 (by decide) (fun h30_8 => ?_) (fun h30_8 => ?_)
        · skip
          refine g_iconst dX4_stonesOf_37 ?_
          refine g_iadd dX4_stonesOf_38 ?_
          refine g_st (ls2 := [(2, _), (0, _), (1, _), (3, _)]) dX4_stonesOf_39 rfl (by decide) (c1_cr (c1_ci (c1_ci (c1_ci c1_0)))) rfl ?_
          refine g_inc (ls2 := [(3, _), (2, _), (0, _), (1, _)]) 3 dX4_stonesOf_40 rfl (by decide) (c1_ci (c1_cr (c1_ci (c1_ci c1_0)))) rfl ?_
          refine g_goto (tgt := 4) dX4_stonesOf_43 (by decide) ?_
          refine g_sub [2, 3, 1, 0] (ls2 := [(0, _), (1, _), (2, _), (3, _)]) rfl ?_
          first | exact g_ls (by simp only [cntF]; rw [decide_eq_true (by unfold plC plcC; grind)]; rfl) rfl rfl ih4 | exact g_ls (by simp only [cntF]; rw [decide_eq_false (by unfold plC plcC; grind)]; rfl) rfl rfl ih4
        · skip
          refine g_iconst dX4_stonesOf_33 ?_
          refine g_goto (tgt := 38) dX4_stonesOf_34 (by decide) ?_
          refine g_iadd dX4_stonesOf_38 ?_
          refine g_st (ls2 := [(2, _), (0, _), (1, _), (3, _)]) dX4_stonesOf_39 rfl (by decide) (c1_cr (c1_ci (c1_ci (c1_ci c1_0)))) rfl ?_
          refine g_inc (ls2 := [(3, _), (2, _), (0, _), (1, _)]) 3 dX4_stonesOf_40 rfl (by decide) (c1_ci (c1_cr (c1_ci (c1_ci c1_0)))) rfl ?_
          refine g_goto (tgt := 4) dX4_stonesOf_43 (by decide) ?_
          refine g_sub [2, 3, 1, 0] (ls2 := [(0, _), (1, _), (2, _), (3, _)]) rfl ?_
          first | exact g_ls (by simp only [cntF]; rw [decide_eq_true (by unfold plC plcC; grind)]; rfl) rfl rfl ih4 | exact g_ls (by simp only [cntF]; rw [decide_eq_false (by unfold plC plcC; grind)]; rfl) rfl rfl ih4
  exact g_ls (by rfl) rfl rfl hQ4

set_option maxHeartbeats 1000000 in
set_option maxRecDepth 20000 in
theorem c_X4_ofPerson {L : Nat → Nat} {A B : Mem} (hM : LM L) (hV : VC L B) (hR : Rel B A) {p w : Int} (hp : -2147483648 ≤ p ∧ p < 2147483648) (hw : -2147483648 ≤ w ∧ w < 2147483648) : Ct mX4_ofPerson [gr 20, gi p, gi w] L A (pr (some (gi (if perE p w = 0 then perV B p w else 0))) L (if perE p w = 0 then gup A 20 0 0 else gup A 20 0 (perE p w : Nat))) := by
  have hnc := vc_nc hV; have hns := vc_ns hV; have hp0 := (vc_p hV).1
  have rnow := rl_now hR; have rnc := rl_nc hR; have rns := rl_ns hR
  have hg := vc_g hV; have hpv := vc_p hV
  refine Ct_of (ls := [(0, _), (1, _), (2, _)]) rfl (by decide) (fun _ => rfl) (fun _ => Nat.le_of_ble_eq_true rfl) ?_
  refine g_aload_n 0 dX4_ofPerson_0 rfl rfl ?_
  refine g_iload_n 1 dX4_ofPerson_1 rfl rfl ?_
  by_cases hs2 : 0 ≤ p ∧ p < 8
  · skip
    refine g_cS_i (My := mX4_isPerson) (gs := [_]) (c_X4_isPerson (by omega)) mfX4_isPerson rfl wst_X4_isPerson wm_X4_128 dX4_ofPerson_2 (Nat.le_of_ble_eq_true rfl) rfl (fun _ => Nat.le_of_ble_eq_true rfl) (Nat.le_of_ble_eq_true rfl) (Nat.le_of_ble_eq_true rfl) rfl rfl ?_
    refine g_top (y := 1) (by first | (rw [decide_eq_true hs2]; rfl) | (rw [cellB, decide_eq_true hs2]; rfl)) ?_
    refine g_if_ne (tgt := 12) (by omega) dX4_ofPerson_5 (by decide) (fun h5_1 => ?_) (fun h5_1 => absurd h5_1 (by omega))
    refine g_iload_n 2 dX4_ofPerson_12 rfl rfl ?_
    refine g_iconst dX4_ofPerson_13 ?_
    refine g_iconst dX4_ofPerson_14 ?_
    by_cases hs15 : 0 ≤ w ∧ w ≤ 3
    · skip
      refine g_cS_i (My := mX4_in) (gs := [_, _, _]) (c_X4_in (by omega) (by omega) (by omega)) mfX4_in rfl wst_X4_in wm_X4_108 dX4_ofPerson_15 (Nat.le_of_ble_eq_true rfl) rfl (fun _ => Nat.le_of_ble_eq_true rfl) (Nat.le_of_ble_eq_true rfl) (Nat.le_of_ble_eq_true rfl) rfl rfl ?_
      refine g_top (y := 1) (by first | (rw [decide_eq_true hs15]; rfl) | (rw [inB, decide_eq_true hs15]; rfl)) ?_
      refine g_if_eq (tgt := 25) (by omega) dX4_ofPerson_18 (by decide) (fun h18_2 => absurd h18_2 (by omega)) (fun h18_2 => ?_)
      refine g_iconst dX4_ofPerson_21 ?_
      refine g_goto (tgt := 26) dX4_ofPerson_22 (by decide) ?_
      refine g_putfi cf_5 0 rfl (by decide) (by decide) rfl (by decide) wf_X4_104 (Or.inl rfl) rfl dX4_ofPerson_26 (n2 (hM 20 rfl)) (by omega) ?_
      refine g_aload_n 0 dX4_ofPerson_29 rfl rfl ?_
      refine g_getfi cf_5 0 rfl (by decide) (by decide) rfl (by decide) wf_X4_104 dX4_ofPerson_30 (n2 (hM 20 rfl)) (fun h30_3 => ?_)
      refine g_top (y := 0) (gup_at _ _ _ _) ?_
      refine g_if_le (tgt := 38) (by omega) dX4_ofPerson_33 (by decide) (fun h33_4 => ?_) (fun h33_4 => absurd h33_4 (by omega))
      have hR0 := rl_th hR 0; have e1 := congrFun (rl_mo hR0) p.toNat; have e2 := congrFun (rl_ba hR0) p.toNat; have e3 := congrFun (rl_cg hR0) p.toNat; have e4 := rl_now hR0; have e5 := hpv.2.2.1 p.toNat
      refine g_iload_n 2 dX4_ofPerson_38 rfl rfl ?_
      refine g_tsw (dt := 101) (by omega) dX4_ofPerson_39 (by decide) (fun h39_5 => ?_) (fun h39_5a h39_5b => ?_)
      · skip
        refine g_aload_n 0 dX4_ofPerson_101 rfl rfl ?_
        refine g_getfr2 (r := 42) cf_5 21 rfl (by decide) (by decide) rfl (by decide) wf_X4_65 dX4_ofPerson_102 (hM 20 rfl) rfl ?_
        refine g_iload_n 1 dX4_ofPerson_105 rfl rfl ?_
        refine g_iald (p.toNat) (by omega) (by omega) rfl (by decide) dX4_ofPerson_106 (n2 (hM 42 rfl)) (fun h106_6 => ?_)
        exact g_iret dX4_ofPerson_107 rfl (Nat.le_of_ble_eq_true rfl) (Nat.le_of_ble_eq_true rfl) (pr_i (by first | (rw [show perE p w = 0 from by unfold perE; grind, if_pos rfl]; (try unfold perV); (first | done | (simp only [brdC, decide_eq_true_eq, decide_eq_false_iff_not] at *; grind [b2]))) | (rw [show perE p w = 1 from by unfold perE; grind]; rfl) | (rw [show perE p w = 2 from by unfold perE; grind]; rfl)) (by first | (rw [show perE p w = 0 from by unfold perE; grind]; rfl) | (rw [show perE p w = 1 from by unfold perE; grind]; rfl) | (rw [show perE p w = 2 from by unfold perE; grind]; rfl)))
      · skip
        rcases (show w = 0 ∨ w = 1 ∨ w = 2 by omega) with hs39_ | hs39_ | hs39_
        · skip
          refine ⟨_, 64, by rw [hs39_]; rfl, by decide, ?_⟩
          refine g_aload_n 0 dX4_ofPerson_64 rfl rfl ?_
          refine g_getfr2 (r := 41) cf_5 20 rfl (by decide) (by decide) rfl (by decide) wf_X4_62 dX4_ofPerson_65 (hM 20 rfl) rfl ?_
          refine g_iload_n 1 dX4_ofPerson_68 rfl rfl ?_
          refine g_iald (p.toNat) (by omega) (by omega) rfl (by decide) dX4_ofPerson_69 (n2 (hM 41 rfl)) (fun h69_7 => ?_)
          exact g_iret dX4_ofPerson_70 rfl (Nat.le_of_ble_eq_true rfl) (Nat.le_of_ble_eq_true rfl) (pr_i (by first | (rw [show perE p w = 0 from by unfold perE; grind, if_pos rfl]; (try unfold perV); (first | done | (simp only [brdC, decide_eq_true_eq, decide_eq_false_iff_not] at *; grind [b2]))) | (rw [show perE p w = 1 from by unfold perE; grind]; rfl) | (rw [show perE p w = 2 from by unfold perE; grind]; rfl)) (by first | (rw [show perE p w = 0 from by unfold perE; grind]; rfl) | (rw [show perE p w = 1 from by unfold perE; grind]; rfl) | (rw [show perE p w = 2 from by unfold perE; grind]; rfl)))
        · skip
          refine ⟨_, 71, by rw [hs39_]; rfl, by decide, ?_⟩
          refine g_aload_n 0 dX4_ofPerson_71 rfl rfl ?_
          refine g_iload_n 1 dX4_ofPerson_72 rfl rfl ?_
          refine g_cV_i (My := mX4_isBarred) (gs := [_]) (c_X4_isBarred hM hV (rl_th hR _) hs2) mfX4_isBarred cf_5 wi_X4_isBarred wsl_X4_isBarred wm_X4_131 dX4_ofPerson_73 (Nat.le_of_ble_eq_true rfl) rfl (by decide) (n2 (hM 20 rfl)) rfl (fun _ => Nat.le_of_ble_eq_true rfl) (Nat.le_of_ble_eq_true rfl) (Nat.le_of_ble_eq_true rfl) rfl rfl ?_
          refine g_ifb_eq (tgt := 93) dX4_ofPerson_76 (by decide) (fun h76_8 => ?_) (fun h76_8 => ?_)
          · skip
            refine g_iconst dX4_ofPerson_93 ?_
            exact g_iret dX4_ofPerson_94 rfl (Nat.le_of_ble_eq_true rfl) (Nat.le_of_ble_eq_true rfl) (pr_i (by first | (rw [show perE p w = 0 from by unfold perE; grind, if_pos rfl]; (try unfold perV); (first | done | (simp only [brdC, decide_eq_true_eq, decide_eq_false_iff_not] at *; grind [b2]))) | (rw [show perE p w = 1 from by unfold perE; grind]; rfl) | (rw [show perE p w = 2 from by unfold perE; grind]; rfl)) (by first | (rw [show perE p w = 0 from by unfold perE; grind]; rfl) | (rw [show perE p w = 1 from by unfold perE; grind]; rfl) | (rw [show perE p w = 2 from by unfold perE; grind]; rfl)))
          · skip
            refine g_aload_n 0 dX4_ofPerson_79 rfl rfl ?_
            refine g_getfr2 (r := 40) cf_5 19 rfl (by decide) (by decide) rfl (by decide) wf_X4_59 dX4_ofPerson_80 (hM 20 rfl) rfl ?_
            refine g_iload_n 1 dX4_ofPerson_83 rfl rfl ?_
            refine g_iald (p.toNat) (by omega) (by omega) rfl (by decide) dX4_ofPerson_84 (n2 (hM 40 rfl)) (fun h84_9 => ?_)
            refine g_aload_n 0 dX4_ofPerson_85 rfl rfl ?_
            refine g_getfi cf_5 1 rfl (by decide) (by decide) rfl (by decide) wf_X4_118 dX4_ofPerson_86 (n2 (hM 20 rfl)) (fun h86_10 => ?_)
            refine g_isub dX4_ofPerson_89 ?_
            refine g_goto (tgt := 94) dX4_ofPerson_90 (by decide) ?_
            exact g_iret dX4_ofPerson_94 rfl (Nat.le_of_ble_eq_true rfl) (Nat.le_of_ble_eq_true rfl) (pr_i (by first | (rw [show perE p w = 0 from by unfold perE; grind, if_pos rfl]; (try unfold perV); (first | done | (simp only [brdC, decide_eq_true_eq, decide_eq_false_iff_not] at *; grind [b2]))) | (rw [show perE p w = 1 from by unfold perE; grind]; rfl) | (rw [show perE p w = 2 from by unfold perE; grind]; rfl)) (by first | (rw [show perE p w = 0 from by unfold perE; grind]; rfl) | (rw [show perE p w = 1 from by unfold perE; grind]; rfl) | (rw [show perE p w = 2 from by unfold perE; grind]; rfl)))
        · skip
          refine ⟨_, 95, by rw [hs39_]; rfl, by decide, ?_⟩
          refine g_aload_n 0 dX4_ofPerson_95 rfl rfl ?_
          refine g_iload_n 1 dX4_ofPerson_96 rfl rfl ?_
          refine g_cV_i (My := mX4_stonesOf) (gs := [_]) (c_X4_stonesOf hM hV (rl_th hR _) hs2) mfX4_stonesOf cf_5 wi_X4_stonesOf wsl_X4_stonesOf wm_X4_236 dX4_ofPerson_97 (Nat.le_of_ble_eq_true rfl) rfl (by decide) (n2 (hM 20 rfl)) rfl (fun _ => Nat.le_of_ble_eq_true rfl) (Nat.le_of_ble_eq_true rfl) (Nat.le_of_ble_eq_true rfl) rfl rfl ?_
          exact g_iret dX4_ofPerson_100 rfl (Nat.le_of_ble_eq_true rfl) (Nat.le_of_ble_eq_true rfl) (pr_i (by first | (rw [show perE p w = 0 from by unfold perE; grind, if_pos rfl]; (try unfold perV); (first | done | (simp only [brdC, decide_eq_true_eq, decide_eq_false_iff_not] at *; grind [b2]))) | (rw [show perE p w = 1 from by unfold perE; grind]; rfl) | (rw [show perE p w = 2 from by unfold perE; grind]; rfl)) (by first | (rw [show perE p w = 0 from by unfold perE; grind]; rfl) | (rw [show perE p w = 1 from by unfold perE; grind]; rfl) | (rw [show perE p w = 2 from by unfold perE; grind]; rfl)))
    · skip
      refine g_cS_i (My := mX4_in) (gs := [_, _, _]) (c_X4_in (by omega) (by omega) (by omega)) mfX4_in rfl wst_X4_in wm_X4_108 dX4_ofPerson_15 (Nat.le_of_ble_eq_true rfl) rfl (fun _ => Nat.le_of_ble_eq_true rfl) (Nat.le_of_ble_eq_true rfl) (Nat.le_of_ble_eq_true rfl) rfl rfl ?_
      refine g_top (y := 0) (by first | (rw [decide_eq_false hs15]; rfl) | (rw [inB, decide_eq_false hs15]; rfl)) ?_
      refine g_if_eq (tgt := 25) (by omega) dX4_ofPerson_18 (by decide) (fun h18_11 => ?_) (fun h18_11 => absurd h18_11 (by omega))
      refine g_iconst dX4_ofPerson_25 ?_
      refine g_putfi cf_5 0 rfl (by decide) (by decide) rfl (by decide) wf_X4_104 (Or.inl rfl) rfl dX4_ofPerson_26 (n2 (hM 20 rfl)) (by omega) ?_
      refine g_aload_n 0 dX4_ofPerson_29 rfl rfl ?_
      refine g_getfi cf_5 0 rfl (by decide) (by decide) rfl (by decide) wf_X4_104 dX4_ofPerson_30 (n2 (hM 20 rfl)) (fun h30_12 => ?_)
      refine g_top (y := 2) (gup_at _ _ _ _) ?_
      refine g_if_le (tgt := 38) (by omega) dX4_ofPerson_33 (by decide) (fun h33_13 => absurd h33_13 (by omega)) (fun h33_13 => ?_)
      refine g_iconst dX4_ofPerson_36 ?_
      exact g_iret dX4_ofPerson_37 rfl (Nat.le_of_ble_eq_true rfl) (Nat.le_of_ble_eq_true rfl) (pr_i (by first | (rw [show perE p w = 0 from by unfold perE; grind, if_pos rfl]; (try unfold perV); (first | done | (simp only [brdC, decide_eq_true_eq, decide_eq_false_iff_not] at *; grind [b2]))) | (rw [show perE p w = 1 from by unfold perE; grind]; rfl) | (rw [show perE p w = 2 from by unfold perE; grind]; rfl)) (by first | (rw [show perE p w = 0 from by unfold perE; grind]; rfl) | (rw [show perE p w = 1 from by unfold perE; grind]; rfl) | (rw [show perE p w = 2 from by unfold perE; grind]; rfl)))
  · skip
    refine g_cS_i (My := mX4_isPerson) (gs := [_]) (c_X4_isPerson (by omega)) mfX4_isPerson rfl wst_X4_isPerson wm_X4_128 dX4_ofPerson_2 (Nat.le_of_ble_eq_true rfl) rfl (fun _ => Nat.le_of_ble_eq_true rfl) (Nat.le_of_ble_eq_true rfl) (Nat.le_of_ble_eq_true rfl) rfl rfl ?_
    refine g_top (y := 0) (by first | (rw [decide_eq_false hs2]; rfl) | (rw [cellB, decide_eq_false hs2]; rfl)) ?_
    refine g_if_ne (tgt := 12) (by omega) dX4_ofPerson_5 (by decide) (fun h5_14 => absurd h5_14 (by omega)) (fun h5_14 => ?_)
    refine g_iconst dX4_ofPerson_8 ?_
    refine g_goto (tgt := 26) dX4_ofPerson_9 (by decide) ?_
    refine g_putfi cf_5 0 rfl (by decide) (by decide) rfl (by decide) wf_X4_104 (Or.inl rfl) rfl dX4_ofPerson_26 (n2 (hM 20 rfl)) (by omega) ?_
    refine g_aload_n 0 dX4_ofPerson_29 rfl rfl ?_
    refine g_getfi cf_5 0 rfl (by decide) (by decide) rfl (by decide) wf_X4_104 dX4_ofPerson_30 (n2 (hM 20 rfl)) (fun h30_15 => ?_)
    refine g_top (y := 1) (gup_at _ _ _ _) ?_
    refine g_if_le (tgt := 38) (by omega) dX4_ofPerson_33 (by decide) (fun h33_16 => absurd h33_16 (by omega)) (fun h33_16 => ?_)
    refine g_iconst dX4_ofPerson_36 ?_
    exact g_iret dX4_ofPerson_37 rfl (Nat.le_of_ble_eq_true rfl) (Nat.le_of_ble_eq_true rfl) (pr_i (by first | (rw [show perE p w = 0 from by unfold perE; grind, if_pos rfl]; (try unfold perV); (first | done | (simp only [brdC, decide_eq_true_eq, decide_eq_false_iff_not] at *; grind [b2]))) | (rw [show perE p w = 1 from by unfold perE; grind]; rfl) | (rw [show perE p w = 2 from by unfold perE; grind]; rfl)) (by first | (rw [show perE p w = 0 from by unfold perE; grind]; rfl) | (rw [show perE p w = 1 from by unfold perE; grind]; rfl) | (rw [show perE p w = 2 from by unfold perE; grind]; rfl)))

set_option maxRecDepth 20000 in
theorem c_X4_value {L : Nat → Nat} {A B : Mem} (hM : LM L) (hV : VC L B) (hR : Rel B A) {s : Nat} (hs : (s : Int) < B 3 2) : Ct mX4_value [gr 20, gi (s : Int)] L A (pr (some (gi (valC (B (200 + 3 * s) 5) (B (200 + 3 * s) 1) (B (200 + 3 * s) 3)))) L A) := by
  have hnc := vc_nc hV; have hns := vc_ns hV; have hp0 := (vc_p hV).1
  have rnow := rl_now hR; have rnc := rl_nc hR; have rns := rl_ns hR
  have rs := rl_s hR hs; have hsv := vc_sv hV hs
  have e1 := rs.1; have e2 := hsv.2.2.2.1
  have hlr : 0 ≤ lusC (B (200 + 3 * s) 5) (B (200 + 3 * s) 1) ∧ lusC (B (200 + 3 * s) 5) (B (200 + 3 * s) 1) ≤ 2 := by unfold lusC; split <;> (try split) <;> omega
  refine Ct_of (ls := [(0, _), (1, _)]) rfl (by decide) (fun _ => rfl) (fun _ => Nat.le_of_ble_eq_true rfl) ?_
  refine g_aload_n 0 dX4_value_0 rfl rfl ?_
  refine g_iload_n 1 dX4_value_1 rfl rfl ?_
  refine g_cV_i (My := mX4_looks) (gs := [_]) (c_X4_looks hM hV hR hs) mfX4_looks cf_5 wi_X4_looks wsl_X4_looks wm_X4_217 dX4_value_2 (Nat.le_of_ble_eq_true rfl) rfl (by decide) (n2 (hM 20 rfl)) rfl (fun _ => Nat.le_of_ble_eq_true rfl) (Nat.le_of_ble_eq_true rfl) (Nat.le_of_ble_eq_true rfl) rfl rfl ?_
  refine g_if_ne (tgt := 19) (by omega) dX4_value_5 (by decide) (fun h5_1 => ?_) (fun h5_1 => ?_)
  · skip
    refine g_aload_n 0 dX4_value_19 rfl rfl ?_
    refine g_iload_n 1 dX4_value_20 rfl rfl ?_
    refine g_cV_i (My := mX4_looks) (gs := [_]) (c_X4_looks hM hV hR hs) mfX4_looks cf_5 wi_X4_looks wsl_X4_looks wm_X4_217 dX4_value_21 (Nat.le_of_ble_eq_true rfl) rfl (by decide) (n2 (hM 20 rfl)) rfl (fun _ => Nat.le_of_ble_eq_true rfl) (Nat.le_of_ble_eq_true rfl) (Nat.le_of_ble_eq_true rfl) rfl rfl ?_
    refine g_iconst dX4_value_24 ?_
    refine g_icmp_ne (tgt := 40) (by omega) (by omega) dX4_value_25 (by decide) (fun h25_2 => ?_) (fun h25_2 => ?_)
    · skip
      refine g_iconst dX4_value_40 ?_
      exact g_iret dX4_value_41 rfl (Nat.le_of_ble_eq_true rfl) (Nat.le_of_ble_eq_true rfl) (pr_i (by unfold valC; grind) (rfl))
    · skip
      refine g_bipush dX4_value_28 (by decide) ?_
      refine g_aload_n 0 dX4_value_30 rfl rfl ?_
      refine g_getfr2 (r := 45) cf_5 24 rfl (by decide) (by decide) rfl (by decide) wf_X4_71 dX4_value_31 (hM 20 rfl) rfl ?_
      refine g_iload_n 1 dX4_value_34 rfl rfl ?_
      refine g_iald (s) (by omega) (by omega) rfl (by decide) dX4_value_35 (n2 (hM 45 rfl)) (fun h35_3 => ?_)
      refine g_imul dX4_value_36 ?_
      refine g_goto (tgt := 41) dX4_value_37 (by decide) ?_
      exact g_iret dX4_value_41 rfl (Nat.le_of_ble_eq_true rfl) (Nat.le_of_ble_eq_true rfl) (pr_i (by unfold valC; grind) (rfl))
  · skip
    refine g_iconst dX4_value_8 ?_
    refine g_aload_n 0 dX4_value_9 rfl rfl ?_
    refine g_getfr2 (r := 45) cf_5 24 rfl (by decide) (by decide) rfl (by decide) wf_X4_71 dX4_value_10 (hM 20 rfl) rfl ?_
    refine g_iload_n 1 dX4_value_13 rfl rfl ?_
    refine g_iald (s) (by omega) (by omega) rfl (by decide) dX4_value_14 (n2 (hM 45 rfl)) (fun h14_4 => ?_)
    refine g_imul dX4_value_15 ?_
    refine g_goto (tgt := 41) dX4_value_16 (by decide) ?_
    exact g_iret dX4_value_41 rfl (Nat.le_of_ble_eq_true rfl) (Nat.le_of_ble_eq_true rfl) (pr_i (by unfold valC; grind) (rfl))

set_option maxHeartbeats 1000000 in
set_option maxRecDepth 20000 in
theorem c_X4_ofStone {L : Nat → Nat} {A B : Mem} (hM : LM L) (hV : VC L B) (hR : Rel B A) {x w : Int} (hx : -2147483648 ≤ x ∧ x < 2147483648) (hw : -2147483648 ≤ w ∧ w < 2147483648) : Ct mX4_ofStone [gr 20, gi x, gi w] L A (pr (some (gi (if stoE B x w = 0 then stoV B x w else 0))) L (if stoE B x w = 0 then gup A 20 0 0 else gup A 20 0 (stoE B x w : Nat))) := by
  have hnc := vc_nc hV; have hns := vc_ns hV; have hp0 := (vc_p hV).1
  have rnow := rl_now hR; have rnc := rl_nc hR; have rns := rl_ns hR
  refine Ct_of (ls := [(0, _), (1, _), (2, _)]) rfl (by decide) (fun _ => rfl) (fun _ => Nat.le_of_ble_eq_true rfl) ?_
  refine g_aload_n 0 dX4_ofStone_0 rfl rfl ?_
  refine g_aload_n 0 dX4_ofStone_1 rfl rfl ?_
  refine g_iload_n 1 dX4_ofStone_2 rfl rfl ?_
  by_cases hs3 : 0 ≤ x ∧ x < B 3 2
  · skip
    obtain ⟨s, rfl⟩ : ∃ s : Nat, x = s := ⟨x.toNat, by omega⟩
    have hs : (s : Int) < B 3 2 := by omega
    have rs := rl_s hR hs; have hsv := vc_sv hV hs
    refine g_cV_i (My := mX4_isStone) (gs := [_]) (c_X4_isStone hM hV hR (by omega)) mfX4_isStone cf_5 wi_X4_isStone wsl_X4_isStone wm_X4_211 dX4_ofStone_3 (Nat.le_of_ble_eq_true rfl) rfl (by decide) (n2 (hM 20 rfl)) rfl (fun _ => Nat.le_of_ble_eq_true rfl) (Nat.le_of_ble_eq_true rfl) (Nat.le_of_ble_eq_true rfl) rfl rfl ?_
    refine g_top (y := 1) (by rw [decide_eq_true hs3]; rfl) ?_
    refine g_if_ne (tgt := 13) (by omega) dX4_ofStone_6 (by decide) (fun h6_1 => ?_) (fun h6_1 => absurd h6_1 (by omega))
    refine g_iload_n 2 dX4_ofStone_13 rfl rfl ?_
    refine g_iconst dX4_ofStone_14 ?_
    refine g_bipush dX4_ofStone_15 (by decide) ?_
    by_cases hs17 : 0 ≤ w ∧ w ≤ 7
    · skip
      refine g_cS_i (My := mX4_in) (gs := [_, _, _]) (c_X4_in (by omega) (by omega) (by omega)) mfX4_in rfl wst_X4_in wm_X4_108 dX4_ofStone_17 (Nat.le_of_ble_eq_true rfl) rfl (fun _ => Nat.le_of_ble_eq_true rfl) (Nat.le_of_ble_eq_true rfl) (Nat.le_of_ble_eq_true rfl) rfl rfl ?_
      refine g_top (y := 1) (by first | (rw [decide_eq_true hs17]; rfl) | (rw [inB, decide_eq_true hs17]; rfl)) ?_
      refine g_if_eq (tgt := 27) (by omega) dX4_ofStone_20 (by decide) (fun h20_2 => absurd h20_2 (by omega)) (fun h20_2 => ?_)
      refine g_iconst dX4_ofStone_23 ?_
      refine g_goto (tgt := 28) dX4_ofStone_24 (by decide) ?_
      refine g_putfi cf_5 0 rfl (by decide) (by decide) rfl (by decide) wf_X4_104 (Or.inl rfl) rfl dX4_ofStone_28 (n2 (hM 20 rfl)) (by omega) ?_
      refine g_aload_n 0 dX4_ofStone_31 rfl rfl ?_
      refine g_getfi cf_5 0 rfl (by decide) (by decide) rfl (by decide) wf_X4_104 dX4_ofStone_32 (n2 (hM 20 rfl)) (fun h32_3 => ?_)
      refine g_top (y := 0) (gup_at _ _ _ _) ?_
      refine g_if_le (tgt := 40) (by omega) dX4_ofStone_35 (by decide) (fun h35_4 => ?_) (fun h35_4 => absurd h35_4 (by omega))
      have rs0 := rl_s (rl_th hR 0) hs; have e1 := rs0.1; have e2 := rs0.2.2.1; have e3 := rs0.2.2.2.1; have e4 := rs0.2.2.2.2.1; have e5 := rs0.2.2.2.2.2.1; have e6 := rs0.2.2.2.2.2.2.1
      refine g_iload_n 2 dX4_ofStone_40 rfl rfl ?_
      refine g_tsw (dt := 131) (by omega) dX4_ofStone_41 (by decide) (fun h41_5 => ?_) (fun h41_5a h41_5b => ?_)
      · skip
        refine g_aload_n 0 dX4_ofStone_131 rfl rfl ?_
        refine g_getfr2 (r := 50) cf_5 29 rfl (by decide) (by decide) rfl (by decide) wf_X4_86 dX4_ofStone_132 (hM 20 rfl) rfl ?_
        refine g_iload_n 1 dX4_ofStone_135 rfl rfl ?_
        refine g_iald (s) (by omega) (by omega) rfl (by decide) dX4_ofStone_136 (n2 (hM 50 rfl)) (fun h136_6 => ?_)
        exact g_iret dX4_ofStone_137 rfl (Nat.le_of_ble_eq_true rfl) (Nat.le_of_ble_eq_true rfl) (pr_i (by first | (rw [show stoE B x w = 0 from by unfold stoE; grind, if_pos rfl]; (try unfold stoV); (first | done | (grind [b2]))) | (rw [show stoE B x w = 1 from by unfold stoE; grind]; rfl) | (rw [show stoE B x w = 2 from by unfold stoE; grind]; rfl) | (rw [show stoE B (s : Int) w = 0 from by unfold stoE; grind, if_pos rfl]; (try unfold stoV); (first | done | (grind [b2]))) | (rw [show stoE B (s : Int) w = 1 from by unfold stoE; grind]; rfl) | (rw [show stoE B (s : Int) w = 2 from by unfold stoE; grind]; rfl)) (by first | (rw [show stoE B x w = 0 from by unfold stoE; grind]; rfl) | (rw [show stoE B x w = 1 from by unfold stoE; grind]; rfl) | (rw [show stoE B x w = 2 from by unfold stoE; grind]; rfl) | (rw [show stoE B (s : Int) w = 0 from by unfold stoE; grind]; rfl) | (rw [show stoE B (s : Int) w = 1 from by unfold stoE; grind]; rfl) | (rw [show stoE B (s : Int) w = 2 from by unfold stoE; grind]; rfl)))
      · skip
        rcases (show w = 0 ∨ w = 1 ∨ w = 2 ∨ w = 3 ∨ w = 4 ∨ w = 5 ∨ w = 6 by omega) with hs41_ | hs41_ | hs41_ | hs41_ | hs41_ | hs41_ | hs41_
        · skip
          refine ⟨_, 84, by rw [hs41_]; rfl, by decide, ?_⟩
          refine g_aload_n 0 dX4_ofStone_84 rfl rfl ?_
          refine g_getfr2 (r := 45) cf_5 24 rfl (by decide) (by decide) rfl (by decide) wf_X4_71 dX4_ofStone_85 (hM 20 rfl) rfl ?_
          refine g_iload_n 1 dX4_ofStone_88 rfl rfl ?_
          refine g_iald (s) (by omega) (by omega) rfl (by decide) dX4_ofStone_89 (n2 (hM 45 rfl)) (fun h89_7 => ?_)
          exact g_iret dX4_ofStone_90 rfl (Nat.le_of_ble_eq_true rfl) (Nat.le_of_ble_eq_true rfl) (pr_i (by first | (rw [show stoE B x w = 0 from by unfold stoE; grind, if_pos rfl]; (try unfold stoV); (first | done | (grind [b2]))) | (rw [show stoE B x w = 1 from by unfold stoE; grind]; rfl) | (rw [show stoE B x w = 2 from by unfold stoE; grind]; rfl) | (rw [show stoE B (s : Int) w = 0 from by unfold stoE; grind, if_pos rfl]; (try unfold stoV); (first | done | (grind [b2]))) | (rw [show stoE B (s : Int) w = 1 from by unfold stoE; grind]; rfl) | (rw [show stoE B (s : Int) w = 2 from by unfold stoE; grind]; rfl)) (by first | (rw [show stoE B x w = 0 from by unfold stoE; grind]; rfl) | (rw [show stoE B x w = 1 from by unfold stoE; grind]; rfl) | (rw [show stoE B x w = 2 from by unfold stoE; grind]; rfl) | (rw [show stoE B (s : Int) w = 0 from by unfold stoE; grind]; rfl) | (rw [show stoE B (s : Int) w = 1 from by unfold stoE; grind]; rfl) | (rw [show stoE B (s : Int) w = 2 from by unfold stoE; grind]; rfl)))
        · skip
          refine ⟨_, 91, by rw [hs41_]; rfl, by decide, ?_⟩
          refine g_aload_n 0 dX4_ofStone_91 rfl rfl ?_
          refine g_iload_n 1 dX4_ofStone_92 rfl rfl ?_
          refine g_cV_i (My := mX4_looks) (gs := [_]) (c_X4_looks hM hV (rl_th hR _) hs) mfX4_looks cf_5 wi_X4_looks wsl_X4_looks wm_X4_217 dX4_ofStone_93 (Nat.le_of_ble_eq_true rfl) rfl (by decide) (n2 (hM 20 rfl)) rfl (fun _ => Nat.le_of_ble_eq_true rfl) (Nat.le_of_ble_eq_true rfl) (Nat.le_of_ble_eq_true rfl) rfl rfl ?_
          exact g_iret dX4_ofStone_96 rfl (Nat.le_of_ble_eq_true rfl) (Nat.le_of_ble_eq_true rfl) (pr_i (by first | (rw [show stoE B x w = 0 from by unfold stoE; grind, if_pos rfl]; (try unfold stoV); (first | done | (grind [b2]))) | (rw [show stoE B x w = 1 from by unfold stoE; grind]; rfl) | (rw [show stoE B x w = 2 from by unfold stoE; grind]; rfl) | (rw [show stoE B (s : Int) w = 0 from by unfold stoE; grind, if_pos rfl]; (try unfold stoV); (first | done | (grind [b2]))) | (rw [show stoE B (s : Int) w = 1 from by unfold stoE; grind]; rfl) | (rw [show stoE B (s : Int) w = 2 from by unfold stoE; grind]; rfl)) (by first | (rw [show stoE B x w = 0 from by unfold stoE; grind]; rfl) | (rw [show stoE B x w = 1 from by unfold stoE; grind]; rfl) | (rw [show stoE B x w = 2 from by unfold stoE; grind]; rfl) | (rw [show stoE B (s : Int) w = 0 from by unfold stoE; grind]; rfl) | (rw [show stoE B (s : Int) w = 1 from by unfold stoE; grind]; rfl) | (rw [show stoE B (s : Int) w = 2 from by unfold stoE; grind]; rfl)))
        · skip
          refine ⟨_, 97, by rw [hs41_]; rfl, by decide, ?_⟩
          refine g_aload_n 0 dX4_ofStone_97 rfl rfl ?_
          refine g_getfr2 (r := 48) cf_5 27 rfl (by decide) (by decide) rfl (by decide) wf_X4_80 dX4_ofStone_98 (hM 20 rfl) rfl ?_
          refine g_iload_n 1 dX4_ofStone_101 rfl rfl ?_
          refine g_iald (s) (by omega) (by omega) rfl (by decide) dX4_ofStone_102 (n2 (hM 48 rfl)) (fun h102_8 => ?_)
          exact g_iret dX4_ofStone_103 rfl (Nat.le_of_ble_eq_true rfl) (Nat.le_of_ble_eq_true rfl) (pr_i (by first | (rw [show stoE B x w = 0 from by unfold stoE; grind, if_pos rfl]; (try unfold stoV); (first | done | (grind [b2]))) | (rw [show stoE B x w = 1 from by unfold stoE; grind]; rfl) | (rw [show stoE B x w = 2 from by unfold stoE; grind]; rfl) | (rw [show stoE B (s : Int) w = 0 from by unfold stoE; grind, if_pos rfl]; (try unfold stoV); (first | done | (grind [b2]))) | (rw [show stoE B (s : Int) w = 1 from by unfold stoE; grind]; rfl) | (rw [show stoE B (s : Int) w = 2 from by unfold stoE; grind]; rfl)) (by first | (rw [show stoE B x w = 0 from by unfold stoE; grind]; rfl) | (rw [show stoE B x w = 1 from by unfold stoE; grind]; rfl) | (rw [show stoE B x w = 2 from by unfold stoE; grind]; rfl) | (rw [show stoE B (s : Int) w = 0 from by unfold stoE; grind]; rfl) | (rw [show stoE B (s : Int) w = 1 from by unfold stoE; grind]; rfl) | (rw [show stoE B (s : Int) w = 2 from by unfold stoE; grind]; rfl)))
        · skip
          refine ⟨_, 104, by rw [hs41_]; rfl, by decide, ?_⟩
          refine g_aload_n 0 dX4_ofStone_104 rfl rfl ?_
          refine g_getfr2 (r := 49) cf_5 28 rfl (by decide) (by decide) rfl (by decide) wf_X4_83 dX4_ofStone_105 (hM 20 rfl) rfl ?_
          refine g_iload_n 1 dX4_ofStone_108 rfl rfl ?_
          refine g_iald (s) (by omega) (by omega) rfl (by decide) dX4_ofStone_109 (n2 (hM 49 rfl)) (fun h109_9 => ?_)
          exact g_iret dX4_ofStone_110 rfl (Nat.le_of_ble_eq_true rfl) (Nat.le_of_ble_eq_true rfl) (pr_i (by first | (rw [show stoE B x w = 0 from by unfold stoE; grind, if_pos rfl]; (try unfold stoV); (first | done | (grind [b2]))) | (rw [show stoE B x w = 1 from by unfold stoE; grind]; rfl) | (rw [show stoE B x w = 2 from by unfold stoE; grind]; rfl) | (rw [show stoE B (s : Int) w = 0 from by unfold stoE; grind, if_pos rfl]; (try unfold stoV); (first | done | (grind [b2]))) | (rw [show stoE B (s : Int) w = 1 from by unfold stoE; grind]; rfl) | (rw [show stoE B (s : Int) w = 2 from by unfold stoE; grind]; rfl)) (by first | (rw [show stoE B x w = 0 from by unfold stoE; grind]; rfl) | (rw [show stoE B x w = 1 from by unfold stoE; grind]; rfl) | (rw [show stoE B x w = 2 from by unfold stoE; grind]; rfl) | (rw [show stoE B (s : Int) w = 0 from by unfold stoE; grind]; rfl) | (rw [show stoE B (s : Int) w = 1 from by unfold stoE; grind]; rfl) | (rw [show stoE B (s : Int) w = 2 from by unfold stoE; grind]; rfl)))
        · skip
          refine ⟨_, 111, by rw [hs41_]; rfl, by decide, ?_⟩
          refine g_aload_n 0 dX4_ofStone_111 rfl rfl ?_
          refine g_iload_n 1 dX4_ofStone_112 rfl rfl ?_
          refine g_cV_i (My := mX4_value) (gs := [_]) (c_X4_value hM hV (rl_th hR _) hs) mfX4_value cf_5 wi_X4_value wsl_X4_value wm_X4_239 dX4_ofStone_113 (Nat.le_of_ble_eq_true rfl) rfl (by decide) (n2 (hM 20 rfl)) rfl (fun _ => Nat.le_of_ble_eq_true rfl) (Nat.le_of_ble_eq_true rfl) (Nat.le_of_ble_eq_true rfl) rfl rfl ?_
          exact g_iret dX4_ofStone_116 rfl (Nat.le_of_ble_eq_true rfl) (Nat.le_of_ble_eq_true rfl) (pr_i (by first | (rw [show stoE B x w = 0 from by unfold stoE; grind, if_pos rfl]; (try unfold stoV); (first | done | (grind [b2]))) | (rw [show stoE B x w = 1 from by unfold stoE; grind]; rfl) | (rw [show stoE B x w = 2 from by unfold stoE; grind]; rfl) | (rw [show stoE B (s : Int) w = 0 from by unfold stoE; grind, if_pos rfl]; (try unfold stoV); (first | done | (grind [b2]))) | (rw [show stoE B (s : Int) w = 1 from by unfold stoE; grind]; rfl) | (rw [show stoE B (s : Int) w = 2 from by unfold stoE; grind]; rfl)) (by first | (rw [show stoE B x w = 0 from by unfold stoE; grind]; rfl) | (rw [show stoE B x w = 1 from by unfold stoE; grind]; rfl) | (rw [show stoE B x w = 2 from by unfold stoE; grind]; rfl) | (rw [show stoE B (s : Int) w = 0 from by unfold stoE; grind]; rfl) | (rw [show stoE B (s : Int) w = 1 from by unfold stoE; grind]; rfl) | (rw [show stoE B (s : Int) w = 2 from by unfold stoE; grind]; rfl)))
        · skip
          refine ⟨_, 117, by rw [hs41_]; rfl, by decide, ?_⟩
          refine g_aload_n 0 dX4_ofStone_117 rfl rfl ?_
          refine g_getfr2 (r := 51) cf_5 30 rfl (by decide) (by decide) rfl (by decide) wf_X4_89 dX4_ofStone_118 (hM 20 rfl) rfl ?_
          refine g_iload_n 1 dX4_ofStone_121 rfl rfl ?_
          refine g_iald (s) (by omega) (by omega) rfl (by decide) dX4_ofStone_122 (n2 (hM 51 rfl)) (fun h122_10 => ?_)
          exact g_iret dX4_ofStone_123 rfl (Nat.le_of_ble_eq_true rfl) (Nat.le_of_ble_eq_true rfl) (pr_i (by first | (rw [show stoE B x w = 0 from by unfold stoE; grind, if_pos rfl]; (try unfold stoV); (first | done | (grind [b2]))) | (rw [show stoE B x w = 1 from by unfold stoE; grind]; rfl) | (rw [show stoE B x w = 2 from by unfold stoE; grind]; rfl) | (rw [show stoE B (s : Int) w = 0 from by unfold stoE; grind, if_pos rfl]; (try unfold stoV); (first | done | (grind [b2]))) | (rw [show stoE B (s : Int) w = 1 from by unfold stoE; grind]; rfl) | (rw [show stoE B (s : Int) w = 2 from by unfold stoE; grind]; rfl)) (by first | (rw [show stoE B x w = 0 from by unfold stoE; grind]; rfl) | (rw [show stoE B x w = 1 from by unfold stoE; grind]; rfl) | (rw [show stoE B x w = 2 from by unfold stoE; grind]; rfl) | (rw [show stoE B (s : Int) w = 0 from by unfold stoE; grind]; rfl) | (rw [show stoE B (s : Int) w = 1 from by unfold stoE; grind]; rfl) | (rw [show stoE B (s : Int) w = 2 from by unfold stoE; grind]; rfl)))
        · skip
          refine ⟨_, 124, by rw [hs41_]; rfl, by decide, ?_⟩
          refine g_aload_n 0 dX4_ofStone_124 rfl rfl ?_
          refine g_getfr2 (r := 47) cf_5 26 rfl (by decide) (by decide) rfl (by decide) wf_X4_77 dX4_ofStone_125 (hM 20 rfl) rfl ?_
          refine g_iload_n 1 dX4_ofStone_128 rfl rfl ?_
          refine g_iald (s) (by omega) (by omega) rfl (by decide) dX4_ofStone_129 (n2 (hM 47 rfl)) (fun h129_11 => ?_)
          exact g_iret dX4_ofStone_130 rfl (Nat.le_of_ble_eq_true rfl) (Nat.le_of_ble_eq_true rfl) (pr_i (by first | (rw [show stoE B x w = 0 from by unfold stoE; grind, if_pos rfl]; (try unfold stoV); (first | done | (grind [b2]))) | (rw [show stoE B x w = 1 from by unfold stoE; grind]; rfl) | (rw [show stoE B x w = 2 from by unfold stoE; grind]; rfl) | (rw [show stoE B (s : Int) w = 0 from by unfold stoE; grind, if_pos rfl]; (try unfold stoV); (first | done | (grind [b2]))) | (rw [show stoE B (s : Int) w = 1 from by unfold stoE; grind]; rfl) | (rw [show stoE B (s : Int) w = 2 from by unfold stoE; grind]; rfl)) (by first | (rw [show stoE B x w = 0 from by unfold stoE; grind]; rfl) | (rw [show stoE B x w = 1 from by unfold stoE; grind]; rfl) | (rw [show stoE B x w = 2 from by unfold stoE; grind]; rfl) | (rw [show stoE B (s : Int) w = 0 from by unfold stoE; grind]; rfl) | (rw [show stoE B (s : Int) w = 1 from by unfold stoE; grind]; rfl) | (rw [show stoE B (s : Int) w = 2 from by unfold stoE; grind]; rfl)))
    · skip
      refine g_cS_i (My := mX4_in) (gs := [_, _, _]) (c_X4_in (by omega) (by omega) (by omega)) mfX4_in rfl wst_X4_in wm_X4_108 dX4_ofStone_17 (Nat.le_of_ble_eq_true rfl) rfl (fun _ => Nat.le_of_ble_eq_true rfl) (Nat.le_of_ble_eq_true rfl) (Nat.le_of_ble_eq_true rfl) rfl rfl ?_
      refine g_top (y := 0) (by first | (rw [decide_eq_false hs17]; rfl) | (rw [inB, decide_eq_false hs17]; rfl)) ?_
      refine g_if_eq (tgt := 27) (by omega) dX4_ofStone_20 (by decide) (fun h20_12 => ?_) (fun h20_12 => absurd h20_12 (by omega))
      refine g_iconst dX4_ofStone_27 ?_
      refine g_putfi cf_5 0 rfl (by decide) (by decide) rfl (by decide) wf_X4_104 (Or.inl rfl) rfl dX4_ofStone_28 (n2 (hM 20 rfl)) (by omega) ?_
      refine g_aload_n 0 dX4_ofStone_31 rfl rfl ?_
      refine g_getfi cf_5 0 rfl (by decide) (by decide) rfl (by decide) wf_X4_104 dX4_ofStone_32 (n2 (hM 20 rfl)) (fun h32_13 => ?_)
      refine g_top (y := 2) (gup_at _ _ _ _) ?_
      refine g_if_le (tgt := 40) (by omega) dX4_ofStone_35 (by decide) (fun h35_14 => absurd h35_14 (by omega)) (fun h35_14 => ?_)
      refine g_iconst dX4_ofStone_38 ?_
      exact g_iret dX4_ofStone_39 rfl (Nat.le_of_ble_eq_true rfl) (Nat.le_of_ble_eq_true rfl) (pr_i (by first | (rw [show stoE B x w = 0 from by unfold stoE; grind, if_pos rfl]; (try unfold stoV); (first | done | (grind [b2]))) | (rw [show stoE B x w = 1 from by unfold stoE; grind]; rfl) | (rw [show stoE B x w = 2 from by unfold stoE; grind]; rfl) | (rw [show stoE B (s : Int) w = 0 from by unfold stoE; grind, if_pos rfl]; (try unfold stoV); (first | done | (grind [b2]))) | (rw [show stoE B (s : Int) w = 1 from by unfold stoE; grind]; rfl) | (rw [show stoE B (s : Int) w = 2 from by unfold stoE; grind]; rfl)) (by first | (rw [show stoE B x w = 0 from by unfold stoE; grind]; rfl) | (rw [show stoE B x w = 1 from by unfold stoE; grind]; rfl) | (rw [show stoE B x w = 2 from by unfold stoE; grind]; rfl) | (rw [show stoE B (s : Int) w = 0 from by unfold stoE; grind]; rfl) | (rw [show stoE B (s : Int) w = 1 from by unfold stoE; grind]; rfl) | (rw [show stoE B (s : Int) w = 2 from by unfold stoE; grind]; rfl)))
  · skip
    refine g_cV_i (My := mX4_isStone) (gs := [_]) (c_X4_isStone hM hV hR (by omega)) mfX4_isStone cf_5 wi_X4_isStone wsl_X4_isStone wm_X4_211 dX4_ofStone_3 (Nat.le_of_ble_eq_true rfl) rfl (by decide) (n2 (hM 20 rfl)) rfl (fun _ => Nat.le_of_ble_eq_true rfl) (Nat.le_of_ble_eq_true rfl) (Nat.le_of_ble_eq_true rfl) rfl rfl ?_
    refine g_top (y := 0) (by rw [decide_eq_false hs3]; rfl) ?_
    refine g_if_ne (tgt := 13) (by omega) dX4_ofStone_6 (by decide) (fun h6_15 => absurd h6_15 (by omega)) (fun h6_15 => ?_)
    refine g_iconst dX4_ofStone_9 ?_
    refine g_goto (tgt := 28) dX4_ofStone_10 (by decide) ?_
    refine g_putfi cf_5 0 rfl (by decide) (by decide) rfl (by decide) wf_X4_104 (Or.inl rfl) rfl dX4_ofStone_28 (n2 (hM 20 rfl)) (by omega) ?_
    refine g_aload_n 0 dX4_ofStone_31 rfl rfl ?_
    refine g_getfi cf_5 0 rfl (by decide) (by decide) rfl (by decide) wf_X4_104 dX4_ofStone_32 (n2 (hM 20 rfl)) (fun h32_16 => ?_)
    refine g_top (y := 1) (gup_at _ _ _ _) ?_
    refine g_if_le (tgt := 40) (by omega) dX4_ofStone_35 (by decide) (fun h35_17 => absurd h35_17 (by omega)) (fun h35_17 => ?_)
    refine g_iconst dX4_ofStone_38 ?_
    exact g_iret dX4_ofStone_39 rfl (Nat.le_of_ble_eq_true rfl) (Nat.le_of_ble_eq_true rfl) (pr_i (by first | (rw [show stoE B x w = 0 from by unfold stoE; grind, if_pos rfl]; (try unfold stoV); (first | done | (grind [b2]))) | (rw [show stoE B x w = 1 from by unfold stoE; grind]; rfl) | (rw [show stoE B x w = 2 from by unfold stoE; grind]; rfl) | (rw [show stoE B (s : Int) w = 0 from by unfold stoE; grind, if_pos rfl]; (try unfold stoV); (first | done | (grind [b2]))) | (rw [show stoE B (s : Int) w = 1 from by unfold stoE; grind]; rfl) | (rw [show stoE B (s : Int) w = 2 from by unfold stoE; grind]; rfl)) (by first | (rw [show stoE B x w = 0 from by unfold stoE; grind]; rfl) | (rw [show stoE B x w = 1 from by unfold stoE; grind]; rfl) | (rw [show stoE B x w = 2 from by unfold stoE; grind]; rfl) | (rw [show stoE B (s : Int) w = 0 from by unfold stoE; grind]; rfl) | (rw [show stoE B (s : Int) w = 1 from by unfold stoE; grind]; rfl) | (rw [show stoE B (s : Int) w = 2 from by unfold stoE; grind]; rfl)))

set_option maxRecDepth 20000 in
theorem c_X4_purse {L : Nat → Nat} {A B : Mem} (hM : LM L) (hV : VC L B) (hR : Rel B A) {b : Int} (hb : -2147483648 ≤ b ∧ b < 2147483648) : Ct mX4_purse [gr 20, gi b] L A (pr (some (gi (if purE b = 0 then B 9 b.toNat else 0))) L (if purE b = 0 then gup A 20 0 0 else gup A 20 0 (purE b : Nat))) := by
  have hnc := vc_nc hV; have hns := vc_ns hV; have hp0 := (vc_p hV).1
  have rnow := rl_now hR; have rnc := rl_nc hR; have rns := rl_ns hR
  refine Ct_of (ls := [(0, _), (1, _)]) rfl (by decide) (fun _ => rfl) (fun _ => Nat.le_of_ble_eq_true rfl) ?_
  refine g_aload_n 0 dX4_purse_0 rfl rfl ?_
  refine g_iload_n 1 dX4_purse_1 rfl rfl ?_
  by_cases hs2 : 0 ≤ b ∧ b < 5
  · skip
    refine g_cS_i (My := mX4_isBuyer) (gs := [_]) (c_X4_isBuyer (by omega)) mfX4_isBuyer rfl wst_X4_isBuyer wm_X4_223 dX4_purse_2 (Nat.le_of_ble_eq_true rfl) rfl (fun _ => Nat.le_of_ble_eq_true rfl) (Nat.le_of_ble_eq_true rfl) (Nat.le_of_ble_eq_true rfl) rfl rfl ?_
    refine g_top (y := 1) (by first | (rw [decide_eq_true hs2]; rfl) | (rw [cellB, decide_eq_true hs2]; rfl)) ?_
    refine g_if_eq (tgt := 12) (by omega) dX4_purse_5 (by decide) (fun h5_1 => absurd h5_1 (by omega)) (fun h5_1 => ?_)
    refine g_iconst dX4_purse_8 ?_
    refine g_goto (tgt := 13) dX4_purse_9 (by decide) ?_
    refine g_putfi cf_5 0 rfl (by decide) (by decide) rfl (by decide) wf_X4_104 (Or.inl rfl) rfl dX4_purse_13 (n2 (hM 20 rfl)) (by omega) ?_
    refine g_aload_n 0 dX4_purse_16 rfl rfl ?_
    refine g_getfi cf_5 0 rfl (by decide) (by decide) rfl (by decide) wf_X4_104 dX4_purse_17 (n2 (hM 20 rfl)) (fun h17_2 => ?_)
    refine g_top (y := 0) (gup_at _ _ _ _) ?_
    refine g_if_le (tgt := 27) (by omega) dX4_purse_20 (by decide) (fun h20_3 => ?_) (fun h20_3 => absurd h20_3 (by omega))
    have e1 := congrFun (rl_pu (rl_th hR 0)) b.toNat
    refine g_aload_n 0 dX4_purse_27 rfl rfl ?_
    refine g_getfr2 (r := 55) cf_5 34 rfl (by decide) (by decide) rfl (by decide) wf_X4_101 dX4_purse_28 (hM 20 rfl) rfl ?_
    refine g_iload_n 1 dX4_purse_31 rfl rfl ?_
    refine g_iald (b.toNat) (by omega) (by omega) rfl (by decide) dX4_purse_32 (n2 (hM 55 rfl)) (fun h32_4 => ?_)
    exact g_iret dX4_purse_33 rfl (Nat.le_of_ble_eq_true rfl) (Nat.le_of_ble_eq_true rfl) (pr_i (by first | (rw [show purE b = 0 from by unfold purE; grind, if_pos rfl]; (try unfold id); (first | done | (first | exact e1 | rfl | grind))) | (rw [show purE b = 1 from by unfold purE; grind]; rfl) | (rw [show purE b = 2 from by unfold purE; grind]; rfl)) (by first | (rw [show purE b = 0 from by unfold purE; grind]; rfl) | (rw [show purE b = 1 from by unfold purE; grind]; rfl) | (rw [show purE b = 2 from by unfold purE; grind]; rfl)))
  · skip
    refine g_cS_i (My := mX4_isBuyer) (gs := [_]) (c_X4_isBuyer (by omega)) mfX4_isBuyer rfl wst_X4_isBuyer wm_X4_223 dX4_purse_2 (Nat.le_of_ble_eq_true rfl) rfl (fun _ => Nat.le_of_ble_eq_true rfl) (Nat.le_of_ble_eq_true rfl) (Nat.le_of_ble_eq_true rfl) rfl rfl ?_
    refine g_top (y := 0) (by first | (rw [decide_eq_false hs2]; rfl) | (rw [cellB, decide_eq_false hs2]; rfl)) ?_
    refine g_if_eq (tgt := 12) (by omega) dX4_purse_5 (by decide) (fun h5_5 => ?_) (fun h5_5 => absurd h5_5 (by omega))
    refine g_iconst dX4_purse_12 ?_
    refine g_putfi cf_5 0 rfl (by decide) (by decide) rfl (by decide) wf_X4_104 (Or.inl rfl) rfl dX4_purse_13 (n2 (hM 20 rfl)) (by omega) ?_
    refine g_aload_n 0 dX4_purse_16 rfl rfl ?_
    refine g_getfi cf_5 0 rfl (by decide) (by decide) rfl (by decide) wf_X4_104 dX4_purse_17 (n2 (hM 20 rfl)) (fun h17_6 => ?_)
    refine g_top (y := 1) (gup_at _ _ _ _) ?_
    refine g_if_le (tgt := 27) (by omega) dX4_purse_20 (by decide) (fun h20_7 => absurd h20_7 (by omega)) (fun h20_7 => ?_)
    refine g_iconst dX4_purse_23 ?_
    refine g_goto (tgt := 33) dX4_purse_24 (by decide) ?_
    exact g_iret dX4_purse_33 rfl (Nat.le_of_ble_eq_true rfl) (Nat.le_of_ble_eq_true rfl) (pr_i (by first | (rw [show purE b = 0 from by unfold purE; grind, if_pos rfl]; (try unfold id); (first | done | (first | exact e1 | rfl | grind))) | (rw [show purE b = 1 from by unfold purE; grind]; rfl) | (rw [show purE b = 2 from by unfold purE; grind]; rfl)) (by first | (rw [show purE b = 0 from by unfold purE; grind]; rfl) | (rw [show purE b = 1 from by unfold purE; grind]; rfl) | (rw [show purE b = 2 from by unfold purE; grind]; rfl)))

set_option maxHeartbeats 1000000 in
set_option maxRecDepth 20000 in
theorem c_X4_verdict {L : Nat → Nat} {A B : Mem} (hM : LM L) (hV : VC L B) (hR : Rel B A) (hI : IV B) {x y : Int} (hx : -2147483648 ≤ x ∧ x < 2147483648) (hy : -2147483648 ≤ y ∧ y < 2147483648) : Ct mX4_verdict [gr 20, gi x, gi y] L A (pr (some (gi (if verE B x y = 0 then verV B x y else 0))) L (if verE B x y = 0 then gup A 20 0 0 else gup A 20 0 (verE B x y : Nat))) := by
  have hnc := vc_nc hV; have hns := vc_ns hV; have hp0 := (vc_p hV).1
  have rnow := rl_now hR; have rnc := rl_nc hR; have rns := rl_ns hR
  refine Ct_of (ls := [(0, _), (1, _), (2, _)]) rfl (by decide) (fun _ => rfl) (fun _ => Nat.le_of_ble_eq_true rfl) ?_
  refine g_aload_n 0 dX4_verdict_0 rfl rfl ?_
  refine g_aload_n 0 dX4_verdict_1 rfl rfl ?_
  refine g_iload_n 1 dX4_verdict_2 rfl rfl ?_
  by_cases hs3 : 0 ≤ x ∧ x < B 2 2
  · skip
    obtain ⟨k, rfl⟩ : ∃ k : Nat, x = k := ⟨x.toNat, by omega⟩
    have hk : (k : Int) < B 2 2 := by omega
    have rk := rl_k hR hk; have hcv := vc_cv hV hk; have hk12 := vc_k hV hk
    refine g_cV_i (My := mX4_isClaim) (gs := [_]) (c_X4_isClaim hM hV hR (by omega)) mfX4_isClaim cf_5 wi_X4_isClaim wsl_X4_isClaim wm_X4_142 dX4_verdict_3 (Nat.le_of_ble_eq_true rfl) rfl (by decide) (n2 (hM 20 rfl)) rfl (fun _ => Nat.le_of_ble_eq_true rfl) (Nat.le_of_ble_eq_true rfl) (Nat.le_of_ble_eq_true rfl) rfl rfl ?_
    refine g_top (y := 1) (by rw [decide_eq_true hs3]; rfl) ?_
    refine g_if_eq (tgt := 17) (by omega) dX4_verdict_6 (by decide) (fun h6_1 => absurd h6_1 (by omega)) (fun h6_1 => ?_)
    refine g_aload_n 0 dX4_verdict_9 rfl rfl ?_
    refine g_iload_n 2 dX4_verdict_10 rfl rfl ?_
    by_cases hs11 : 0 ≤ y ∧ y < B 2 2
    · skip
      obtain ⟨j, rfl⟩ : ∃ j : Nat, y = j := ⟨y.toNat, by omega⟩
      have hj : (j : Int) < B 2 2 := by omega
      refine g_cV_i (My := mX4_isClaim) (gs := [_]) (c_X4_isClaim hM hV hR (by omega)) mfX4_isClaim cf_5 wi_X4_isClaim wsl_X4_isClaim wm_X4_142 dX4_verdict_11 (Nat.le_of_ble_eq_true rfl) rfl (by decide) (n2 (hM 20 rfl)) rfl (fun _ => Nat.le_of_ble_eq_true rfl) (Nat.le_of_ble_eq_true rfl) (Nat.le_of_ble_eq_true rfl) rfl rfl ?_
      refine g_top (y := 1) (by rw [decide_eq_true hs11]; rfl) ?_
      refine g_if_ne (tgt := 21) (by omega) dX4_verdict_14 (by decide) (fun h14_2 => ?_) (fun h14_2 => absurd h14_2 (by omega))
      refine g_iload_n 1 dX4_verdict_21 rfl rfl ?_
      refine g_iload_n 2 dX4_verdict_22 rfl rfl ?_
      refine g_icmp_ne (tgt := 30) (by omega) (by omega) dX4_verdict_23 (by decide) (fun h23_3 => ?_) (fun h23_3 => ?_)
      · skip
        refine g_iconst dX4_verdict_30 ?_
        refine g_putfi cf_5 0 rfl (by decide) (by decide) rfl (by decide) wf_X4_104 (Or.inl rfl) rfl dX4_verdict_31 (n2 (hM 20 rfl)) (by omega) ?_
        refine g_aload_n 0 dX4_verdict_34 rfl rfl ?_
        refine g_getfi cf_5 0 rfl (by decide) (by decide) rfl (by decide) wf_X4_104 dX4_verdict_35 (n2 (hM 20 rfl)) (fun h35_4 => ?_)
        refine g_top (y := 0) (gup_at _ _ _ _) ?_
        refine g_if_le (tgt := 43) (by omega) dX4_verdict_38 (by decide) (fun h38_5 => ?_) (fun h38_5 => absurd h38_5 (by omega))
        refine g_aload_n 0 dX4_verdict_43 rfl rfl ?_
        refine g_iload_n 1 dX4_verdict_44 rfl rfl ?_
        refine g_cV_i (My := mX4_isLive) (gs := [_]) (c_X4_isLive hM hV (rl_th hR _) hk) mfX4_isLive cf_5 wi_X4_isLive wsl_X4_isLive wm_X4_151 dX4_verdict_45 (Nat.le_of_ble_eq_true rfl) rfl (by decide) (n2 (hM 20 rfl)) rfl (fun _ => Nat.le_of_ble_eq_true rfl) (Nat.le_of_ble_eq_true rfl) (Nat.le_of_ble_eq_true rfl) rfl rfl ?_
        refine g_ifb_eq (tgt := 68) dX4_verdict_48 (by decide) (fun h48_6 => ?_) (fun h48_6 => ?_)
        · skip
          refine g_iconst dX4_verdict_68 ?_
          exact g_iret dX4_verdict_69 rfl (Nat.le_of_ble_eq_true rfl) (Nat.le_of_ble_eq_true rfl) (pr_i (by first | (rw [show verE B x y = 0 from by unfold verE; grind, if_pos rfl]; (try unfold verV); (first | done | (grind [b2]))) | (rw [show verE B x y = 1 from by unfold verE; grind]; rfl) | (rw [show verE B x y = 2 from by unfold verE; grind]; rfl) | (rw [show verE B (k : Int) y = 0 from by unfold verE; grind, if_pos rfl]; (try unfold verV); (first | done | (grind [b2]))) | (rw [show verE B (k : Int) y = 1 from by unfold verE; grind]; rfl) | (rw [show verE B (k : Int) y = 2 from by unfold verE; grind]; rfl) | (rw [show verE B x (j : Int) = 0 from by unfold verE; grind, if_pos rfl]; (try unfold verV); (first | done | (grind [b2]))) | (rw [show verE B x (j : Int) = 1 from by unfold verE; grind]; rfl) | (rw [show verE B x (j : Int) = 2 from by unfold verE; grind]; rfl) | (rw [show verE B (k : Int) (j : Int) = 0 from by unfold verE; grind, if_pos rfl]; (try unfold verV); (first | done | (grind [b2]))) | (rw [show verE B (k : Int) (j : Int) = 1 from by unfold verE; grind]; rfl) | (rw [show verE B (k : Int) (j : Int) = 2 from by unfold verE; grind]; rfl)) (by first | (rw [show verE B x y = 0 from by unfold verE; grind]; rfl) | (rw [show verE B x y = 1 from by unfold verE; grind]; rfl) | (rw [show verE B x y = 2 from by unfold verE; grind]; rfl) | (rw [show verE B (k : Int) y = 0 from by unfold verE; grind]; rfl) | (rw [show verE B (k : Int) y = 1 from by unfold verE; grind]; rfl) | (rw [show verE B (k : Int) y = 2 from by unfold verE; grind]; rfl) | (rw [show verE B x (j : Int) = 0 from by unfold verE; grind]; rfl) | (rw [show verE B x (j : Int) = 1 from by unfold verE; grind]; rfl) | (rw [show verE B x (j : Int) = 2 from by unfold verE; grind]; rfl) | (rw [show verE B (k : Int) (j : Int) = 0 from by unfold verE; grind]; rfl) | (rw [show verE B (k : Int) (j : Int) = 1 from by unfold verE; grind]; rfl) | (rw [show verE B (k : Int) (j : Int) = 2 from by unfold verE; grind]; rfl)))
        · skip
          refine g_aload_n 0 dX4_verdict_51 rfl rfl ?_
          refine g_iload_n 2 dX4_verdict_52 rfl rfl ?_
          refine g_cV_i (My := mX4_isLive) (gs := [_]) (c_X4_isLive hM hV (rl_th hR _) hj) mfX4_isLive cf_5 wi_X4_isLive wsl_X4_isLive wm_X4_151 dX4_verdict_53 (Nat.le_of_ble_eq_true rfl) rfl (by decide) (n2 (hM 20 rfl)) rfl (fun _ => Nat.le_of_ble_eq_true rfl) (Nat.le_of_ble_eq_true rfl) (Nat.le_of_ble_eq_true rfl) rfl rfl ?_
          refine g_ifb_eq (tgt := 68) dX4_verdict_56 (by decide) (fun h56_7 => ?_) (fun h56_7 => ?_)
          · skip
            refine g_iconst dX4_verdict_68 ?_
            exact g_iret dX4_verdict_69 rfl (Nat.le_of_ble_eq_true rfl) (Nat.le_of_ble_eq_true rfl) (pr_i (by first | (rw [show verE B x y = 0 from by unfold verE; grind, if_pos rfl]; (try unfold verV); (first | done | (grind [b2]))) | (rw [show verE B x y = 1 from by unfold verE; grind]; rfl) | (rw [show verE B x y = 2 from by unfold verE; grind]; rfl) | (rw [show verE B (k : Int) y = 0 from by unfold verE; grind, if_pos rfl]; (try unfold verV); (first | done | (grind [b2]))) | (rw [show verE B (k : Int) y = 1 from by unfold verE; grind]; rfl) | (rw [show verE B (k : Int) y = 2 from by unfold verE; grind]; rfl) | (rw [show verE B x (j : Int) = 0 from by unfold verE; grind, if_pos rfl]; (try unfold verV); (first | done | (grind [b2]))) | (rw [show verE B x (j : Int) = 1 from by unfold verE; grind]; rfl) | (rw [show verE B x (j : Int) = 2 from by unfold verE; grind]; rfl) | (rw [show verE B (k : Int) (j : Int) = 0 from by unfold verE; grind, if_pos rfl]; (try unfold verV); (first | done | (grind [b2]))) | (rw [show verE B (k : Int) (j : Int) = 1 from by unfold verE; grind]; rfl) | (rw [show verE B (k : Int) (j : Int) = 2 from by unfold verE; grind]; rfl)) (by first | (rw [show verE B x y = 0 from by unfold verE; grind]; rfl) | (rw [show verE B x y = 1 from by unfold verE; grind]; rfl) | (rw [show verE B x y = 2 from by unfold verE; grind]; rfl) | (rw [show verE B (k : Int) y = 0 from by unfold verE; grind]; rfl) | (rw [show verE B (k : Int) y = 1 from by unfold verE; grind]; rfl) | (rw [show verE B (k : Int) y = 2 from by unfold verE; grind]; rfl) | (rw [show verE B x (j : Int) = 0 from by unfold verE; grind]; rfl) | (rw [show verE B x (j : Int) = 1 from by unfold verE; grind]; rfl) | (rw [show verE B x (j : Int) = 2 from by unfold verE; grind]; rfl) | (rw [show verE B (k : Int) (j : Int) = 0 from by unfold verE; grind]; rfl) | (rw [show verE B (k : Int) (j : Int) = 1 from by unfold verE; grind]; rfl) | (rw [show verE B (k : Int) (j : Int) = 2 from by unfold verE; grind]; rfl)))
          · skip
            refine g_aload_n 0 dX4_verdict_59 rfl rfl ?_
            refine g_iload_n 1 dX4_verdict_60 rfl rfl ?_
            refine g_iload_n 2 dX4_verdict_61 rfl rfl ?_
            refine g_cV_i (My := mX4_meet) (gs := [_, _]) (c_X4_meet hM hV (rl_th hR _) hI hk hj) mfX4_meet cf_5 wi_X4_meet wsl_X4_meet wm_X4_233 dX4_verdict_62 (Nat.le_of_ble_eq_true rfl) rfl (by decide) (n2 (hM 20 rfl)) rfl (fun _ => Nat.le_of_ble_eq_true rfl) (Nat.le_of_ble_eq_true rfl) (Nat.le_of_ble_eq_true rfl) rfl rfl ?_
            refine g_ifb_ne (tgt := 70) dX4_verdict_65 (by decide) (fun h65_8 => ?_) (fun h65_8 => ?_)
            · skip
              refine g_iload_n 1 dX4_verdict_70 rfl rfl ?_
              refine g_iload_n 2 dX4_verdict_71 rfl rfl ?_
              refine g_icmp_ge (tgt := 79) (by omega) (by omega) dX4_verdict_72 (by decide) (fun h72_9 => ?_) (fun h72_9 => ?_)
              · skip
                refine g_iload_n 2 dX4_verdict_79 rfl rfl ?_
                refine g_st (ls2 := [(3, _), (0, _), (1, _), (2, _)]) dX4_verdict_80 rfl (by decide) (c1_cr (c1_ci (c1_ci c1_0))) rfl ?_
                refine g_iload_n 2 dX4_verdict_81 rfl rfl ?_
                refine g_iload_n 3 dX4_verdict_82 rfl rfl ?_
                refine g_icmp_ge (tgt := 90) (by omega) (by omega) dX4_verdict_83 (by decide) (fun h83_10 => ?_) (fun h83_10 => ?_)
                · skip
                  refine g_iload_n 2 dX4_verdict_90 rfl rfl ?_
                  refine g_st2 (ls2 := [(4, _), (3, _), (0, _), (1, _), (2, _)]) dX4_verdict_91 (by decide) (c1_ci (c1_cr (c1_ci (c1_ci c1_0)))) rfl ?_
                  refine g_aload_n 2 dX4_verdict_93 rfl rfl ?_
                  refine g_iload 0 dX4_verdict_94 rfl ?_
                  refine g_cV_i (My := mX4_hourOf) (gs := [_]) (by first | exact c_X4_hourOf hM hV (rl_th hR _) hj | exact c_X4_hourOf hM hV (rl_th hR _) hk) mfX4_hourOf cf_5 wi_X4_hourOf wsl_X4_hourOf wm_X4_148 dX4_verdict_96 (Nat.le_of_ble_eq_true rfl) rfl (by decide) (n2 (hM 20 rfl)) rfl (fun _ => Nat.le_of_ble_eq_true rfl) (Nat.le_of_ble_eq_true rfl) (Nat.le_of_ble_eq_true rfl) rfl rfl ?_
                  refine g_aload_n 2 dX4_verdict_99 rfl rfl ?_
                  refine g_iload_n 1 dX4_verdict_100 rfl rfl ?_
                  refine g_cV_i (My := mX4_hourOf) (gs := [_]) (by first | exact c_X4_hourOf hM hV (rl_th hR _) hk | exact c_X4_hourOf hM hV (rl_th hR _) hj) mfX4_hourOf cf_5 wi_X4_hourOf wsl_X4_hourOf wm_X4_148 dX4_verdict_101 (Nat.le_of_ble_eq_true rfl) rfl (by decide) (n2 (hM 20 rfl)) rfl (fun _ => Nat.le_of_ble_eq_true rfl) (Nat.le_of_ble_eq_true rfl) (Nat.le_of_ble_eq_true rfl) rfl rfl ?_
                  have hh1 := (vc_cv hV hk).2.2.1; have hh2 := (vc_cv hV hj).2.2.1
                  refine g_icmp_ge (tgt := 112) (by omega) (by omega) dX4_verdict_104 (by decide) (fun h104_11 => ?_) (fun h104_11 => ?_)
                  · skip
                    refine g_iload_n 1 dX4_verdict_112 rfl rfl ?_
                    exact g_iret dX4_verdict_113 rfl (Nat.le_of_ble_eq_true rfl) (Nat.le_of_ble_eq_true rfl) (pr_i (by first | (rw [show verE B x y = 0 from by unfold verE; grind, if_pos rfl]; (try unfold verV); (first | done | (grind [b2]))) | (rw [show verE B x y = 1 from by unfold verE; grind]; rfl) | (rw [show verE B x y = 2 from by unfold verE; grind]; rfl) | (rw [show verE B (k : Int) y = 0 from by unfold verE; grind, if_pos rfl]; (try unfold verV); (first | done | (grind [b2]))) | (rw [show verE B (k : Int) y = 1 from by unfold verE; grind]; rfl) | (rw [show verE B (k : Int) y = 2 from by unfold verE; grind]; rfl) | (rw [show verE B x (j : Int) = 0 from by unfold verE; grind, if_pos rfl]; (try unfold verV); (first | done | (grind [b2]))) | (rw [show verE B x (j : Int) = 1 from by unfold verE; grind]; rfl) | (rw [show verE B x (j : Int) = 2 from by unfold verE; grind]; rfl) | (rw [show verE B (k : Int) (j : Int) = 0 from by unfold verE; grind, if_pos rfl]; (try unfold verV); (first | done | (grind [b2]))) | (rw [show verE B (k : Int) (j : Int) = 1 from by unfold verE; grind]; rfl) | (rw [show verE B (k : Int) (j : Int) = 2 from by unfold verE; grind]; rfl)) (by first | (rw [show verE B x y = 0 from by unfold verE; grind]; rfl) | (rw [show verE B x y = 1 from by unfold verE; grind]; rfl) | (rw [show verE B x y = 2 from by unfold verE; grind]; rfl) | (rw [show verE B (k : Int) y = 0 from by unfold verE; grind]; rfl) | (rw [show verE B (k : Int) y = 1 from by unfold verE; grind]; rfl) | (rw [show verE B (k : Int) y = 2 from by unfold verE; grind]; rfl) | (rw [show verE B x (j : Int) = 0 from by unfold verE; grind]; rfl) | (rw [show verE B x (j : Int) = 1 from by unfold verE; grind]; rfl) | (rw [show verE B x (j : Int) = 2 from by unfold verE; grind]; rfl) | (rw [show verE B (k : Int) (j : Int) = 0 from by unfold verE; grind]; rfl) | (rw [show verE B (k : Int) (j : Int) = 1 from by unfold verE; grind]; rfl) | (rw [show verE B (k : Int) (j : Int) = 2 from by unfold verE; grind]; rfl)))
                  · skip
                    refine g_iload 0 dX4_verdict_107 rfl ?_
                    refine g_goto (tgt := 113) dX4_verdict_109 (by decide) ?_
                    exact g_iret dX4_verdict_113 rfl (Nat.le_of_ble_eq_true rfl) (Nat.le_of_ble_eq_true rfl) (pr_i (by first | (rw [show verE B x y = 0 from by unfold verE; grind, if_pos rfl]; (try unfold verV); (first | done | (grind [b2]))) | (rw [show verE B x y = 1 from by unfold verE; grind]; rfl) | (rw [show verE B x y = 2 from by unfold verE; grind]; rfl) | (rw [show verE B (k : Int) y = 0 from by unfold verE; grind, if_pos rfl]; (try unfold verV); (first | done | (grind [b2]))) | (rw [show verE B (k : Int) y = 1 from by unfold verE; grind]; rfl) | (rw [show verE B (k : Int) y = 2 from by unfold verE; grind]; rfl) | (rw [show verE B x (j : Int) = 0 from by unfold verE; grind, if_pos rfl]; (try unfold verV); (first | done | (grind [b2]))) | (rw [show verE B x (j : Int) = 1 from by unfold verE; grind]; rfl) | (rw [show verE B x (j : Int) = 2 from by unfold verE; grind]; rfl) | (rw [show verE B (k : Int) (j : Int) = 0 from by unfold verE; grind, if_pos rfl]; (try unfold verV); (first | done | (grind [b2]))) | (rw [show verE B (k : Int) (j : Int) = 1 from by unfold verE; grind]; rfl) | (rw [show verE B (k : Int) (j : Int) = 2 from by unfold verE; grind]; rfl)) (by first | (rw [show verE B x y = 0 from by unfold verE; grind]; rfl) | (rw [show verE B x y = 1 from by unfold verE; grind]; rfl) | (rw [show verE B x y = 2 from by unfold verE; grind]; rfl) | (rw [show verE B (k : Int) y = 0 from by unfold verE; grind]; rfl) | (rw [show verE B (k : Int) y = 1 from by unfold verE; grind]; rfl) | (rw [show verE B (k : Int) y = 2 from by unfold verE; grind]; rfl) | (rw [show verE B x (j : Int) = 0 from by unfold verE; grind]; rfl) | (rw [show verE B x (j : Int) = 1 from by unfold verE; grind]; rfl) | (rw [show verE B x (j : Int) = 2 from by unfold verE; grind]; rfl) | (rw [show verE B (k : Int) (j : Int) = 0 from by unfold verE; grind]; rfl) | (rw [show verE B (k : Int) (j : Int) = 1 from by unfold verE; grind]; rfl) | (rw [show verE B (k : Int) (j : Int) = 2 from by unfold verE; grind]; rfl)))
                · skip
                  refine g_iload_n 3 dX4_verdict_86 rfl rfl ?_
                  refine g_goto (tgt := 91) dX4_verdict_87 (by decide) ?_
                  refine g_st2 (ls2 := [(4, _), (3, _), (0, _), (1, _), (2, _)]) dX4_verdict_91 (by decide) (c1_ci (c1_cr (c1_ci (c1_ci c1_0)))) rfl ?_
                  refine g_aload_n 2 dX4_verdict_93 rfl rfl ?_
                  refine g_iload 0 dX4_verdict_94 rfl ?_
                  refine g_cV_i (My := mX4_hourOf) (gs := [_]) (by first | exact c_X4_hourOf hM hV (rl_th hR _) hj | exact c_X4_hourOf hM hV (rl_th hR _) hk) mfX4_hourOf cf_5 wi_X4_hourOf wsl_X4_hourOf wm_X4_148 dX4_verdict_96 (Nat.le_of_ble_eq_true rfl) rfl (by decide) (n2 (hM 20 rfl)) rfl (fun _ => Nat.le_of_ble_eq_true rfl) (Nat.le_of_ble_eq_true rfl) (Nat.le_of_ble_eq_true rfl) rfl rfl ?_
                  refine g_aload_n 2 dX4_verdict_99 rfl rfl ?_
                  refine g_iload_n 1 dX4_verdict_100 rfl rfl ?_
                  refine g_cV_i (My := mX4_hourOf) (gs := [_]) (by first | exact c_X4_hourOf hM hV (rl_th hR _) hk | exact c_X4_hourOf hM hV (rl_th hR _) hj) mfX4_hourOf cf_5 wi_X4_hourOf wsl_X4_hourOf wm_X4_148 dX4_verdict_101 (Nat.le_of_ble_eq_true rfl) rfl (by decide) (n2 (hM 20 rfl)) rfl (fun _ => Nat.le_of_ble_eq_true rfl) (Nat.le_of_ble_eq_true rfl) (Nat.le_of_ble_eq_true rfl) rfl rfl ?_
                  have hh1 := (vc_cv hV hk).2.2.1; have hh2 := (vc_cv hV hj).2.2.1
                  refine g_icmp_ge (tgt := 112) (by omega) (by omega) dX4_verdict_104 (by decide) (fun h104_12 => ?_) (fun h104_12 => ?_)
                  · skip
                    refine g_iload_n 1 dX4_verdict_112 rfl rfl ?_
                    exact g_iret dX4_verdict_113 rfl (Nat.le_of_ble_eq_true rfl) (Nat.le_of_ble_eq_true rfl) (pr_i (by first | (rw [show verE B x y = 0 from by unfold verE; grind, if_pos rfl]; (try unfold verV); (first | done | (grind [b2]))) | (rw [show verE B x y = 1 from by unfold verE; grind]; rfl) | (rw [show verE B x y = 2 from by unfold verE; grind]; rfl) | (rw [show verE B (k : Int) y = 0 from by unfold verE; grind, if_pos rfl]; (try unfold verV); (first | done | (grind [b2]))) | (rw [show verE B (k : Int) y = 1 from by unfold verE; grind]; rfl) | (rw [show verE B (k : Int) y = 2 from by unfold verE; grind]; rfl) | (rw [show verE B x (j : Int) = 0 from by unfold verE; grind, if_pos rfl]; (try unfold verV); (first | done | (grind [b2]))) | (rw [show verE B x (j : Int) = 1 from by unfold verE; grind]; rfl) | (rw [show verE B x (j : Int) = 2 from by unfold verE; grind]; rfl) | (rw [show verE B (k : Int) (j : Int) = 0 from by unfold verE; grind, if_pos rfl]; (try unfold verV); (first | done | (grind [b2]))) | (rw [show verE B (k : Int) (j : Int) = 1 from by unfold verE; grind]; rfl) | (rw [show verE B (k : Int) (j : Int) = 2 from by unfold verE; grind]; rfl)) (by first | (rw [show verE B x y = 0 from by unfold verE; grind]; rfl) | (rw [show verE B x y = 1 from by unfold verE; grind]; rfl) | (rw [show verE B x y = 2 from by unfold verE; grind]; rfl) | (rw [show verE B (k : Int) y = 0 from by unfold verE; grind]; rfl) | (rw [show verE B (k : Int) y = 1 from by unfold verE; grind]; rfl) | (rw [show verE B (k : Int) y = 2 from by unfold verE; grind]; rfl) | (rw [show verE B x (j : Int) = 0 from by unfold verE; grind]; rfl) | (rw [show verE B x (j : Int) = 1 from by unfold verE; grind]; rfl) | (rw [show verE B x (j : Int) = 2 from by unfold verE; grind]; rfl) | (rw [show verE B (k : Int) (j : Int) = 0 from by unfold verE; grind]; rfl) | (rw [show verE B (k : Int) (j : Int) = 1 from by unfold verE; grind]; rfl) | (rw [show verE B (k : Int) (j : Int) = 2 from by unfold verE; grind]; rfl)))
                  · skip
                    refine g_iload 0 dX4_verdict_107 rfl ?_
                    refine g_goto (tgt := 113) dX4_verdict_109 (by decide) ?_
                    exact g_iret dX4_verdict_113 rfl (Nat.le_of_ble_eq_true rfl) (Nat.le_of_ble_eq_true rfl) (pr_i (by first | (rw [show verE B x y = 0 from by unfold verE; grind, if_pos rfl]; (try unfold verV); (first | done | (grind [b2]))) | (rw [show verE B x y = 1 from by unfold verE; grind]; rfl) | (rw [show verE B x y = 2 from by unfold verE; grind]; rfl) | (rw [show verE B (k : Int) y = 0 from by unfold verE; grind, if_pos rfl]; (try unfold verV); (first | done | (grind [b2]))) | (rw [show verE B (k : Int) y = 1 from by unfold verE; grind]; rfl) | (rw [show verE B (k : Int) y = 2 from by unfold verE; grind]; rfl) | (rw [show verE B x (j : Int) = 0 from by unfold verE; grind, if_pos rfl]; (try unfold verV); (first | done | (grind [b2]))) | (rw [show verE B x (j : Int) = 1 from by unfold verE; grind]; rfl) | (rw [show verE B x (j : Int) = 2 from by unfold verE; grind]; rfl) | (rw [show verE B (k : Int) (j : Int) = 0 from by unfold verE; grind, if_pos rfl]; (try unfold verV); (first | done | (grind [b2]))) | (rw [show verE B (k : Int) (j : Int) = 1 from by unfold verE; grind]; rfl) | (rw [show verE B (k : Int) (j : Int) = 2 from by unfold verE; grind]; rfl)) (by first | (rw [show verE B x y = 0 from by unfold verE; grind]; rfl) | (rw [show verE B x y = 1 from by unfold verE; grind]; rfl) | (rw [show verE B x y = 2 from by unfold verE; grind]; rfl) | (rw [show verE B (k : Int) y = 0 from by unfold verE; grind]; rfl) | (rw [show verE B (k : Int) y = 1 from by unfold verE; grind]; rfl) | (rw [show verE B (k : Int) y = 2 from by unfold verE; grind]; rfl) | (rw [show verE B x (j : Int) = 0 from by unfold verE; grind]; rfl) | (rw [show verE B x (j : Int) = 1 from by unfold verE; grind]; rfl) | (rw [show verE B x (j : Int) = 2 from by unfold verE; grind]; rfl) | (rw [show verE B (k : Int) (j : Int) = 0 from by unfold verE; grind]; rfl) | (rw [show verE B (k : Int) (j : Int) = 1 from by unfold verE; grind]; rfl) | (rw [show verE B (k : Int) (j : Int) = 2 from by unfold verE; grind]; rfl)))
              · skip
                refine g_iload_n 1 dX4_verdict_75 rfl rfl ?_
                refine g_goto (tgt := 80) dX4_verdict_76 (by decide) ?_
                refine g_st (ls2 := [(3, _), (0, _), (1, _), (2, _)]) dX4_verdict_80 rfl (by decide) (c1_cr (c1_ci (c1_ci c1_0))) rfl ?_
                refine g_iload_n 2 dX4_verdict_81 rfl rfl ?_
                refine g_iload_n 3 dX4_verdict_82 rfl rfl ?_
                refine g_icmp_ge (tgt := 90) (by omega) (by omega) dX4_verdict_83 (by decide) (fun h83_13 => ?_) (fun h83_13 => ?_)
                · skip
                  refine g_iload_n 2 dX4_verdict_90 rfl rfl ?_
                  refine g_st2 (ls2 := [(4, _), (3, _), (0, _), (1, _), (2, _)]) dX4_verdict_91 (by decide) (c1_ci (c1_cr (c1_ci (c1_ci c1_0)))) rfl ?_
                  refine g_aload_n 2 dX4_verdict_93 rfl rfl ?_
                  refine g_iload 0 dX4_verdict_94 rfl ?_
                  refine g_cV_i (My := mX4_hourOf) (gs := [_]) (by first | exact c_X4_hourOf hM hV (rl_th hR _) hj | exact c_X4_hourOf hM hV (rl_th hR _) hk) mfX4_hourOf cf_5 wi_X4_hourOf wsl_X4_hourOf wm_X4_148 dX4_verdict_96 (Nat.le_of_ble_eq_true rfl) rfl (by decide) (n2 (hM 20 rfl)) rfl (fun _ => Nat.le_of_ble_eq_true rfl) (Nat.le_of_ble_eq_true rfl) (Nat.le_of_ble_eq_true rfl) rfl rfl ?_
                  refine g_aload_n 2 dX4_verdict_99 rfl rfl ?_
                  refine g_iload_n 1 dX4_verdict_100 rfl rfl ?_
                  refine g_cV_i (My := mX4_hourOf) (gs := [_]) (by first | exact c_X4_hourOf hM hV (rl_th hR _) hk | exact c_X4_hourOf hM hV (rl_th hR _) hj) mfX4_hourOf cf_5 wi_X4_hourOf wsl_X4_hourOf wm_X4_148 dX4_verdict_101 (Nat.le_of_ble_eq_true rfl) rfl (by decide) (n2 (hM 20 rfl)) rfl (fun _ => Nat.le_of_ble_eq_true rfl) (Nat.le_of_ble_eq_true rfl) (Nat.le_of_ble_eq_true rfl) rfl rfl ?_
                  have hh1 := (vc_cv hV hk).2.2.1; have hh2 := (vc_cv hV hj).2.2.1
                  refine g_icmp_ge (tgt := 112) (by omega) (by omega) dX4_verdict_104 (by decide) (fun h104_14 => ?_) (fun h104_14 => ?_)
                  · skip
                    refine g_iload_n 1 dX4_verdict_112 rfl rfl ?_
                    exact g_iret dX4_verdict_113 rfl (Nat.le_of_ble_eq_true rfl) (Nat.le_of_ble_eq_true rfl) (pr_i (by first | (rw [show verE B x y = 0 from by unfold verE; grind, if_pos rfl]; (try unfold verV); (first | done | (grind [b2]))) | (rw [show verE B x y = 1 from by unfold verE; grind]; rfl) | (rw [show verE B x y = 2 from by unfold verE; grind]; rfl) | (rw [show verE B (k : Int) y = 0 from by unfold verE; grind, if_pos rfl]; (try unfold verV); (first | done | (grind [b2]))) | (rw [show verE B (k : Int) y = 1 from by unfold verE; grind]; rfl) | (rw [show verE B (k : Int) y = 2 from by unfold verE; grind]; rfl) | (rw [show verE B x (j : Int) = 0 from by unfold verE; grind, if_pos rfl]; (try unfold verV); (first | done | (grind [b2]))) | (rw [show verE B x (j : Int) = 1 from by unfold verE; grind]; rfl) | (rw [show verE B x (j : Int) = 2 from by unfold verE; grind]; rfl) | (rw [show verE B (k : Int) (j : Int) = 0 from by unfold verE; grind, if_pos rfl]; (try unfold verV); (first | done | (grind [b2]))) | (rw [show verE B (k : Int) (j : Int) = 1 from by unfold verE; grind]; rfl) | (rw [show verE B (k : Int) (j : Int) = 2 from by unfold verE; grind]; rfl)) (by first | (rw [show verE B x y = 0 from by unfold verE; grind]; rfl) | (rw [show verE B x y = 1 from by unfold verE; grind]; rfl) | (rw [show verE B x y = 2 from by unfold verE; grind]; rfl) | (rw [show verE B (k : Int) y = 0 from by unfold verE; grind]; rfl) | (rw [show verE B (k : Int) y = 1 from by unfold verE; grind]; rfl) | (rw [show verE B (k : Int) y = 2 from by unfold verE; grind]; rfl) | (rw [show verE B x (j : Int) = 0 from by unfold verE; grind]; rfl) | (rw [show verE B x (j : Int) = 1 from by unfold verE; grind]; rfl) | (rw [show verE B x (j : Int) = 2 from by unfold verE; grind]; rfl) | (rw [show verE B (k : Int) (j : Int) = 0 from by unfold verE; grind]; rfl) | (rw [show verE B (k : Int) (j : Int) = 1 from by unfold verE; grind]; rfl) | (rw [show verE B (k : Int) (j : Int) = 2 from by unfold verE; grind]; rfl)))
                  · skip
                    refine g_iload 0 dX4_verdict_107 rfl ?_
                    refine g_goto (tgt := 113) dX4_verdict_109 (by decide) ?_
                    exact g_iret dX4_verdict_113 rfl (Nat.le_of_ble_eq_true rfl) (Nat.le_of_ble_eq_true rfl) (pr_i (by first | (rw [show verE B x y = 0 from by unfold verE; grind, if_pos rfl]; (try unfold verV); (first | done | (grind [b2]))) | (rw [show verE B x y = 1 from by unfold verE; grind]; rfl) | (rw [show verE B x y = 2 from by unfold verE; grind]; rfl) | (rw [show verE B (k : Int) y = 0 from by unfold verE; grind, if_pos rfl]; (try unfold verV); (first | done | (grind [b2]))) | (rw [show verE B (k : Int) y = 1 from by unfold verE; grind]; rfl) | (rw [show verE B (k : Int) y = 2 from by unfold verE; grind]; rfl) | (rw [show verE B x (j : Int) = 0 from by unfold verE; grind, if_pos rfl]; (try unfold verV); (first | done | (grind [b2]))) | (rw [show verE B x (j : Int) = 1 from by unfold verE; grind]; rfl) | (rw [show verE B x (j : Int) = 2 from by unfold verE; grind]; rfl) | (rw [show verE B (k : Int) (j : Int) = 0 from by unfold verE; grind, if_pos rfl]; (try unfold verV); (first | done | (grind [b2]))) | (rw [show verE B (k : Int) (j : Int) = 1 from by unfold verE; grind]; rfl) | (rw [show verE B (k : Int) (j : Int) = 2 from by unfold verE; grind]; rfl)) (by first | (rw [show verE B x y = 0 from by unfold verE; grind]; rfl) | (rw [show verE B x y = 1 from by unfold verE; grind]; rfl) | (rw [show verE B x y = 2 from by unfold verE; grind]; rfl) | (rw [show verE B (k : Int) y = 0 from by unfold verE; grind]; rfl) | (rw [show verE B (k : Int) y = 1 from by unfold verE; grind]; rfl) | (rw [show verE B (k : Int) y = 2 from by unfold verE; grind]; rfl) | (rw [show verE B x (j : Int) = 0 from by unfold verE; grind]; rfl) | (rw [show verE B x (j : Int) = 1 from by unfold verE; grind]; rfl) | (rw [show verE B x (j : Int) = 2 from by unfold verE; grind]; rfl) | (rw [show verE B (k : Int) (j : Int) = 0 from by unfold verE; grind]; rfl) | (rw [show verE B (k : Int) (j : Int) = 1 from by unfold verE; grind]; rfl) | (rw [show verE B (k : Int) (j : Int) = 2 from by unfold verE; grind]; rfl)))
                · skip
                  refine g_iload_n 3 dX4_verdict_86 rfl rfl ?_
                  refine g_goto (tgt := 91) dX4_verdict_87 (by decide) ?_
                  refine g_st2 (ls2 := [(4, _), (3, _), (0, _), (1, _), (2, _)]) dX4_verdict_91 (by decide) (c1_ci (c1_cr (c1_ci (c1_ci c1_0)))) rfl ?_
                  refine g_aload_n 2 dX4_verdict_93 rfl rfl ?_
                  refine g_iload 0 dX4_verdict_94 rfl ?_
                  refine g_cV_i (My := mX4_hourOf) (gs := [_]) (by first | exact c_X4_hourOf hM hV (rl_th hR _) hj | exact c_X4_hourOf hM hV (rl_th hR _) hk) mfX4_hourOf cf_5 wi_X4_hourOf wsl_X4_hourOf wm_X4_148 dX4_verdict_96 (Nat.le_of_ble_eq_true rfl) rfl (by decide) (n2 (hM 20 rfl)) rfl (fun _ => Nat.le_of_ble_eq_true rfl) (Nat.le_of_ble_eq_true rfl) (Nat.le_of_ble_eq_true rfl) rfl rfl ?_
                  refine g_aload_n 2 dX4_verdict_99 rfl rfl ?_
                  refine g_iload_n 1 dX4_verdict_100 rfl rfl ?_
                  refine g_cV_i (My := mX4_hourOf) (gs := [_]) (by first | exact c_X4_hourOf hM hV (rl_th hR _) hk | exact c_X4_hourOf hM hV (rl_th hR _) hj) mfX4_hourOf cf_5 wi_X4_hourOf wsl_X4_hourOf wm_X4_148 dX4_verdict_101 (Nat.le_of_ble_eq_true rfl) rfl (by decide) (n2 (hM 20 rfl)) rfl (fun _ => Nat.le_of_ble_eq_true rfl) (Nat.le_of_ble_eq_true rfl) (Nat.le_of_ble_eq_true rfl) rfl rfl ?_
                  have hh1 := (vc_cv hV hk).2.2.1; have hh2 := (vc_cv hV hj).2.2.1
                  refine g_icmp_ge (tgt := 112) (by omega) (by omega) dX4_verdict_104 (by decide) (fun h104_15 => ?_) (fun h104_15 => ?_)
                  · skip
                    refine g_iload_n 1 dX4_verdict_112 rfl rfl ?_
                    exact g_iret dX4_verdict_113 rfl (Nat.le_of_ble_eq_true rfl) (Nat.le_of_ble_eq_true rfl) (pr_i (by first | (rw [show verE B x y = 0 from by unfold verE; grind, if_pos rfl]; (try unfold verV); (first | done | (grind [b2]))) | (rw [show verE B x y = 1 from by unfold verE; grind]; rfl) | (rw [show verE B x y = 2 from by unfold verE; grind]; rfl) | (rw [show verE B (k : Int) y = 0 from by unfold verE; grind, if_pos rfl]; (try unfold verV); (first | done | (grind [b2]))) | (rw [show verE B (k : Int) y = 1 from by unfold verE; grind]; rfl) | (rw [show verE B (k : Int) y = 2 from by unfold verE; grind]; rfl) | (rw [show verE B x (j : Int) = 0 from by unfold verE; grind, if_pos rfl]; (try unfold verV); (first | done | (grind [b2]))) | (rw [show verE B x (j : Int) = 1 from by unfold verE; grind]; rfl) | (rw [show verE B x (j : Int) = 2 from by unfold verE; grind]; rfl) | (rw [show verE B (k : Int) (j : Int) = 0 from by unfold verE; grind, if_pos rfl]; (try unfold verV); (first | done | (grind [b2]))) | (rw [show verE B (k : Int) (j : Int) = 1 from by unfold verE; grind]; rfl) | (rw [show verE B (k : Int) (j : Int) = 2 from by unfold verE; grind]; rfl)) (by first | (rw [show verE B x y = 0 from by unfold verE; grind]; rfl) | (rw [show verE B x y = 1 from by unfold verE; grind]; rfl) | (rw [show verE B x y = 2 from by unfold verE; grind]; rfl) | (rw [show verE B (k : Int) y = 0 from by unfold verE; grind]; rfl) | (rw [show verE B (k : Int) y = 1 from by unfold verE; grind]; rfl) | (rw [show verE B (k : Int) y = 2 from by unfold verE; grind]; rfl) | (rw [show verE B x (j : Int) = 0 from by unfold verE; grind]; rfl) | (rw [show verE B x (j : Int) = 1 from by unfold verE; grind]; rfl) | (rw [show verE B x (j : Int) = 2 from by unfold verE; grind]; rfl) | (rw [show verE B (k : Int) (j : Int) = 0 from by unfold verE; grind]; rfl) | (rw [show verE B (k : Int) (j : Int) = 1 from by unfold verE; grind]; rfl) | (rw [show verE B (k : Int) (j : Int) = 2 from by unfold verE; grind]; rfl)))
                  · skip
                    refine g_iload 0 dX4_verdict_107 rfl ?_
                    refine g_goto (tgt := 113) dX4_verdict_109 (by decide) ?_
                    exact g_iret dX4_verdict_113 rfl (Nat.le_of_ble_eq_true rfl) (Nat.le_of_ble_eq_true rfl) (pr_i (by first | (rw [show verE B x y = 0 from by unfold verE; grind, if_pos rfl]; (try unfold verV); (first | done | (grind [b2]))) | (rw [show verE B x y = 1 from by unfold verE; grind]; rfl) | (rw [show verE B x y = 2 from by unfold verE; grind]; rfl) | (rw [show verE B (k : Int) y = 0 from by unfold verE; grind, if_pos rfl]; (try unfold verV); (first | done | (grind [b2]))) | (rw [show verE B (k : Int) y = 1 from by unfold verE; grind]; rfl) | (rw [show verE B (k : Int) y = 2 from by unfold verE; grind]; rfl) | (rw [show verE B x (j : Int) = 0 from by unfold verE; grind, if_pos rfl]; (try unfold verV); (first | done | (grind [b2]))) | (rw [show verE B x (j : Int) = 1 from by unfold verE; grind]; rfl) | (rw [show verE B x (j : Int) = 2 from by unfold verE; grind]; rfl) | (rw [show verE B (k : Int) (j : Int) = 0 from by unfold verE; grind, if_pos rfl]; (try unfold verV); (first | done | (grind [b2]))) | (rw [show verE B (k : Int) (j : Int) = 1 from by unfold verE; grind]; rfl) | (rw [show verE B (k : Int) (j : Int) = 2 from by unfold verE; grind]; rfl)) (by first | (rw [show verE B x y = 0 from by unfold verE; grind]; rfl) | (rw [show verE B x y = 1 from by unfold verE; grind]; rfl) | (rw [show verE B x y = 2 from by unfold verE; grind]; rfl) | (rw [show verE B (k : Int) y = 0 from by unfold verE; grind]; rfl) | (rw [show verE B (k : Int) y = 1 from by unfold verE; grind]; rfl) | (rw [show verE B (k : Int) y = 2 from by unfold verE; grind]; rfl) | (rw [show verE B x (j : Int) = 0 from by unfold verE; grind]; rfl) | (rw [show verE B x (j : Int) = 1 from by unfold verE; grind]; rfl) | (rw [show verE B x (j : Int) = 2 from by unfold verE; grind]; rfl) | (rw [show verE B (k : Int) (j : Int) = 0 from by unfold verE; grind]; rfl) | (rw [show verE B (k : Int) (j : Int) = 1 from by unfold verE; grind]; rfl) | (rw [show verE B (k : Int) (j : Int) = 2 from by unfold verE; grind]; rfl)))
            · skip
              refine g_iconst dX4_verdict_68 ?_
              exact g_iret dX4_verdict_69 rfl (Nat.le_of_ble_eq_true rfl) (Nat.le_of_ble_eq_true rfl) (pr_i (by first | (rw [show verE B x y = 0 from by unfold verE; grind, if_pos rfl]; (try unfold verV); (first | done | (grind [b2]))) | (rw [show verE B x y = 1 from by unfold verE; grind]; rfl) | (rw [show verE B x y = 2 from by unfold verE; grind]; rfl) | (rw [show verE B (k : Int) y = 0 from by unfold verE; grind, if_pos rfl]; (try unfold verV); (first | done | (grind [b2]))) | (rw [show verE B (k : Int) y = 1 from by unfold verE; grind]; rfl) | (rw [show verE B (k : Int) y = 2 from by unfold verE; grind]; rfl) | (rw [show verE B x (j : Int) = 0 from by unfold verE; grind, if_pos rfl]; (try unfold verV); (first | done | (grind [b2]))) | (rw [show verE B x (j : Int) = 1 from by unfold verE; grind]; rfl) | (rw [show verE B x (j : Int) = 2 from by unfold verE; grind]; rfl) | (rw [show verE B (k : Int) (j : Int) = 0 from by unfold verE; grind, if_pos rfl]; (try unfold verV); (first | done | (grind [b2]))) | (rw [show verE B (k : Int) (j : Int) = 1 from by unfold verE; grind]; rfl) | (rw [show verE B (k : Int) (j : Int) = 2 from by unfold verE; grind]; rfl)) (by first | (rw [show verE B x y = 0 from by unfold verE; grind]; rfl) | (rw [show verE B x y = 1 from by unfold verE; grind]; rfl) | (rw [show verE B x y = 2 from by unfold verE; grind]; rfl) | (rw [show verE B (k : Int) y = 0 from by unfold verE; grind]; rfl) | (rw [show verE B (k : Int) y = 1 from by unfold verE; grind]; rfl) | (rw [show verE B (k : Int) y = 2 from by unfold verE; grind]; rfl) | (rw [show verE B x (j : Int) = 0 from by unfold verE; grind]; rfl) | (rw [show verE B x (j : Int) = 1 from by unfold verE; grind]; rfl) | (rw [show verE B x (j : Int) = 2 from by unfold verE; grind]; rfl) | (rw [show verE B (k : Int) (j : Int) = 0 from by unfold verE; grind]; rfl) | (rw [show verE B (k : Int) (j : Int) = 1 from by unfold verE; grind]; rfl) | (rw [show verE B (k : Int) (j : Int) = 2 from by unfold verE; grind]; rfl)))
      · skip
        refine g_iconst dX4_verdict_26 ?_
        refine g_goto (tgt := 31) dX4_verdict_27 (by decide) ?_
        refine g_putfi cf_5 0 rfl (by decide) (by decide) rfl (by decide) wf_X4_104 (Or.inl rfl) rfl dX4_verdict_31 (n2 (hM 20 rfl)) (by omega) ?_
        refine g_aload_n 0 dX4_verdict_34 rfl rfl ?_
        refine g_getfi cf_5 0 rfl (by decide) (by decide) rfl (by decide) wf_X4_104 dX4_verdict_35 (n2 (hM 20 rfl)) (fun h35_16 => ?_)
        refine g_top (y := 2) (gup_at _ _ _ _) ?_
        refine g_if_le (tgt := 43) (by omega) dX4_verdict_38 (by decide) (fun h38_17 => absurd h38_17 (by omega)) (fun h38_17 => ?_)
        refine g_iconst dX4_verdict_41 ?_
        exact g_iret dX4_verdict_42 rfl (Nat.le_of_ble_eq_true rfl) (Nat.le_of_ble_eq_true rfl) (pr_i (by first | (rw [show verE B x y = 0 from by unfold verE; grind, if_pos rfl]; (try unfold verV); (first | done | (grind [b2]))) | (rw [show verE B x y = 1 from by unfold verE; grind]; rfl) | (rw [show verE B x y = 2 from by unfold verE; grind]; rfl) | (rw [show verE B (k : Int) y = 0 from by unfold verE; grind, if_pos rfl]; (try unfold verV); (first | done | (grind [b2]))) | (rw [show verE B (k : Int) y = 1 from by unfold verE; grind]; rfl) | (rw [show verE B (k : Int) y = 2 from by unfold verE; grind]; rfl) | (rw [show verE B x (j : Int) = 0 from by unfold verE; grind, if_pos rfl]; (try unfold verV); (first | done | (grind [b2]))) | (rw [show verE B x (j : Int) = 1 from by unfold verE; grind]; rfl) | (rw [show verE B x (j : Int) = 2 from by unfold verE; grind]; rfl) | (rw [show verE B (k : Int) (j : Int) = 0 from by unfold verE; grind, if_pos rfl]; (try unfold verV); (first | done | (grind [b2]))) | (rw [show verE B (k : Int) (j : Int) = 1 from by unfold verE; grind]; rfl) | (rw [show verE B (k : Int) (j : Int) = 2 from by unfold verE; grind]; rfl)) (by first | (rw [show verE B x y = 0 from by unfold verE; grind]; rfl) | (rw [show verE B x y = 1 from by unfold verE; grind]; rfl) | (rw [show verE B x y = 2 from by unfold verE; grind]; rfl) | (rw [show verE B (k : Int) y = 0 from by unfold verE; grind]; rfl) | (rw [show verE B (k : Int) y = 1 from by unfold verE; grind]; rfl) | (rw [show verE B (k : Int) y = 2 from by unfold verE; grind]; rfl) | (rw [show verE B x (j : Int) = 0 from by unfold verE; grind]; rfl) | (rw [show verE B x (j : Int) = 1 from by unfold verE; grind]; rfl) | (rw [show verE B x (j : Int) = 2 from by unfold verE; grind]; rfl) | (rw [show verE B (k : Int) (j : Int) = 0 from by unfold verE; grind]; rfl) | (rw [show verE B (k : Int) (j : Int) = 1 from by unfold verE; grind]; rfl) | (rw [show verE B (k : Int) (j : Int) = 2 from by unfold verE; grind]; rfl)))
    · skip
      refine g_cV_i (My := mX4_isClaim) (gs := [_]) (c_X4_isClaim hM hV hR (by omega)) mfX4_isClaim cf_5 wi_X4_isClaim wsl_X4_isClaim wm_X4_142 dX4_verdict_11 (Nat.le_of_ble_eq_true rfl) rfl (by decide) (n2 (hM 20 rfl)) rfl (fun _ => Nat.le_of_ble_eq_true rfl) (Nat.le_of_ble_eq_true rfl) (Nat.le_of_ble_eq_true rfl) rfl rfl ?_
      refine g_top (y := 0) (by rw [decide_eq_false hs11]; rfl) ?_
      refine g_if_ne (tgt := 21) (by omega) dX4_verdict_14 (by decide) (fun h14_18 => absurd h14_18 (by omega)) (fun h14_18 => ?_)
      refine g_iconst dX4_verdict_17 ?_
      refine g_goto (tgt := 31) dX4_verdict_18 (by decide) ?_
      refine g_putfi cf_5 0 rfl (by decide) (by decide) rfl (by decide) wf_X4_104 (Or.inl rfl) rfl dX4_verdict_31 (n2 (hM 20 rfl)) (by omega) ?_
      refine g_aload_n 0 dX4_verdict_34 rfl rfl ?_
      refine g_getfi cf_5 0 rfl (by decide) (by decide) rfl (by decide) wf_X4_104 dX4_verdict_35 (n2 (hM 20 rfl)) (fun h35_19 => ?_)
      refine g_top (y := 1) (gup_at _ _ _ _) ?_
      refine g_if_le (tgt := 43) (by omega) dX4_verdict_38 (by decide) (fun h38_20 => absurd h38_20 (by omega)) (fun h38_20 => ?_)
      refine g_iconst dX4_verdict_41 ?_
      exact g_iret dX4_verdict_42 rfl (Nat.le_of_ble_eq_true rfl) (Nat.le_of_ble_eq_true rfl) (pr_i (by first | (rw [show verE B x y = 0 from by unfold verE; grind, if_pos rfl]; (try unfold verV); (first | done | (grind [b2]))) | (rw [show verE B x y = 1 from by unfold verE; grind]; rfl) | (rw [show verE B x y = 2 from by unfold verE; grind]; rfl) | (rw [show verE B (k : Int) y = 0 from by unfold verE; grind, if_pos rfl]; (try unfold verV); (first | done | (grind [b2]))) | (rw [show verE B (k : Int) y = 1 from by unfold verE; grind]; rfl) | (rw [show verE B (k : Int) y = 2 from by unfold verE; grind]; rfl) | (rw [show verE B x (j : Int) = 0 from by unfold verE; grind, if_pos rfl]; (try unfold verV); (first | done | (grind [b2]))) | (rw [show verE B x (j : Int) = 1 from by unfold verE; grind]; rfl) | (rw [show verE B x (j : Int) = 2 from by unfold verE; grind]; rfl) | (rw [show verE B (k : Int) (j : Int) = 0 from by unfold verE; grind, if_pos rfl]; (try unfold verV); (first | done | (grind [b2]))) | (rw [show verE B (k : Int) (j : Int) = 1 from by unfold verE; grind]; rfl) | (rw [show verE B (k : Int) (j : Int) = 2 from by unfold verE; grind]; rfl)) (by first | (rw [show verE B x y = 0 from by unfold verE; grind]; rfl) | (rw [show verE B x y = 1 from by unfold verE; grind]; rfl) | (rw [show verE B x y = 2 from by unfold verE; grind]; rfl) | (rw [show verE B (k : Int) y = 0 from by unfold verE; grind]; rfl) | (rw [show verE B (k : Int) y = 1 from by unfold verE; grind]; rfl) | (rw [show verE B (k : Int) y = 2 from by unfold verE; grind]; rfl) | (rw [show verE B x (j : Int) = 0 from by unfold verE; grind]; rfl) | (rw [show verE B x (j : Int) = 1 from by unfold verE; grind]; rfl) | (rw [show verE B x (j : Int) = 2 from by unfold verE; grind]; rfl) | (rw [show verE B (k : Int) (j : Int) = 0 from by unfold verE; grind]; rfl) | (rw [show verE B (k : Int) (j : Int) = 1 from by unfold verE; grind]; rfl) | (rw [show verE B (k : Int) (j : Int) = 2 from by unfold verE; grind]; rfl)))
  · skip
    refine g_cV_i (My := mX4_isClaim) (gs := [_]) (c_X4_isClaim hM hV hR (by omega)) mfX4_isClaim cf_5 wi_X4_isClaim wsl_X4_isClaim wm_X4_142 dX4_verdict_3 (Nat.le_of_ble_eq_true rfl) rfl (by decide) (n2 (hM 20 rfl)) rfl (fun _ => Nat.le_of_ble_eq_true rfl) (Nat.le_of_ble_eq_true rfl) (Nat.le_of_ble_eq_true rfl) rfl rfl ?_
    refine g_top (y := 0) (by rw [decide_eq_false hs3]; rfl) ?_
    refine g_if_eq (tgt := 17) (by omega) dX4_verdict_6 (by decide) (fun h6_21 => ?_) (fun h6_21 => absurd h6_21 (by omega))
    refine g_iconst dX4_verdict_17 ?_
    refine g_goto (tgt := 31) dX4_verdict_18 (by decide) ?_
    refine g_putfi cf_5 0 rfl (by decide) (by decide) rfl (by decide) wf_X4_104 (Or.inl rfl) rfl dX4_verdict_31 (n2 (hM 20 rfl)) (by omega) ?_
    refine g_aload_n 0 dX4_verdict_34 rfl rfl ?_
    refine g_getfi cf_5 0 rfl (by decide) (by decide) rfl (by decide) wf_X4_104 dX4_verdict_35 (n2 (hM 20 rfl)) (fun h35_22 => ?_)
    refine g_top (y := 1) (gup_at _ _ _ _) ?_
    refine g_if_le (tgt := 43) (by omega) dX4_verdict_38 (by decide) (fun h38_23 => absurd h38_23 (by omega)) (fun h38_23 => ?_)
    refine g_iconst dX4_verdict_41 ?_
    exact g_iret dX4_verdict_42 rfl (Nat.le_of_ble_eq_true rfl) (Nat.le_of_ble_eq_true rfl) (pr_i (by first | (rw [show verE B x y = 0 from by unfold verE; grind, if_pos rfl]; (try unfold verV); (first | done | (grind [b2]))) | (rw [show verE B x y = 1 from by unfold verE; grind]; rfl) | (rw [show verE B x y = 2 from by unfold verE; grind]; rfl) | (rw [show verE B (k : Int) y = 0 from by unfold verE; grind, if_pos rfl]; (try unfold verV); (first | done | (grind [b2]))) | (rw [show verE B (k : Int) y = 1 from by unfold verE; grind]; rfl) | (rw [show verE B (k : Int) y = 2 from by unfold verE; grind]; rfl) | (rw [show verE B x (j : Int) = 0 from by unfold verE; grind, if_pos rfl]; (try unfold verV); (first | done | (grind [b2]))) | (rw [show verE B x (j : Int) = 1 from by unfold verE; grind]; rfl) | (rw [show verE B x (j : Int) = 2 from by unfold verE; grind]; rfl) | (rw [show verE B (k : Int) (j : Int) = 0 from by unfold verE; grind, if_pos rfl]; (try unfold verV); (first | done | (grind [b2]))) | (rw [show verE B (k : Int) (j : Int) = 1 from by unfold verE; grind]; rfl) | (rw [show verE B (k : Int) (j : Int) = 2 from by unfold verE; grind]; rfl)) (by first | (rw [show verE B x y = 0 from by unfold verE; grind]; rfl) | (rw [show verE B x y = 1 from by unfold verE; grind]; rfl) | (rw [show verE B x y = 2 from by unfold verE; grind]; rfl) | (rw [show verE B (k : Int) y = 0 from by unfold verE; grind]; rfl) | (rw [show verE B (k : Int) y = 1 from by unfold verE; grind]; rfl) | (rw [show verE B (k : Int) y = 2 from by unfold verE; grind]; rfl) | (rw [show verE B x (j : Int) = 0 from by unfold verE; grind]; rfl) | (rw [show verE B x (j : Int) = 1 from by unfold verE; grind]; rfl) | (rw [show verE B x (j : Int) = 2 from by unfold verE; grind]; rfl) | (rw [show verE B (k : Int) (j : Int) = 0 from by unfold verE; grind]; rfl) | (rw [show verE B (k : Int) (j : Int) = 1 from by unfold verE; grind]; rfl) | (rw [show verE B (k : Int) (j : Int) = 2 from by unfold verE; grind]; rfl)))

set_option maxHeartbeats 1000000 in
set_option maxRecDepth 20000 in
theorem c_X4_weighed {L : Nat → Nat} {A B : Mem} (hM : LM L) (hV : VC L B) (hR : Rel B A) (hI : IV B) {q : Int} (hq : 2 ≤ q ∧ q ≤ 4) : Ct mX4_weighed [gr 20, gi q] L A (pr (some (gi (sumF (cwQ B (q - 2)) (B 3 2).toNat))) L A) := by
  have hnc := vc_nc hV; have hns := vc_ns hV; have hp0 := (vc_p hV).1
  have rnow := rl_now hR; have rnc := rl_nc hR; have rns := rl_ns hR
  refine Ct_of (ls := [(0, _), (1, _)]) rfl (by decide) (fun _ => rfl) (fun _ => Nat.le_of_ble_eq_true rfl) ?_
  refine g_iconst dX4_weighed_0 ?_
  refine g_st (ls2 := [(2, _), (0, _), (1, _)]) dX4_weighed_1 rfl (by decide) (c1_cr (c1_ci c1_0)) rfl ?_
  refine g_iconst dX4_weighed_2 ?_
  refine g_st (ls2 := [(3, _), (2, _), (0, _), (1, _)]) dX4_weighed_3 rfl (by decide) (c1_ci (c1_cr (c1_ci c1_0))) rfl ?_
  refine g_sub [2, 3, 1, 0] (ls2 := [(0, _), (1, _), (2, _), (3, _)]) rfl ?_
  have hQ4 : (fun i : Nat => GW mX4_weighed (pr (some (gi (sumF (cwQ B (q - 2)) (B 3 2).toNat))) L A) 0 0 4 [(0, gr (20)), (1, gi (q)), (2, gi (sumF (cwQ B (q - 2)) i)), (3, gi ((i : Int)))] [] L (A)) 0 := by
    refine lp_up (Q := (fun i : Nat => GW mX4_weighed (pr (some (gi (sumF (cwQ B (q - 2)) (B 3 2).toNat))) L A) 0 0 4 [(0, gr (20)), (1, gi (q)), (2, gi (sumF (cwQ B (q - 2)) i)), (3, gi ((i : Int)))] [] L (A))) (n := (B 3 2).toNat) ?_ (fun i hi4 ih4 => ?_)
    · skip
      refine g_iload_n 3 dX4_weighed_4 rfl rfl ?_
      refine g_aload_n 0 dX4_weighed_5 rfl rfl ?_
      refine g_getfi cf_5 23 rfl (by decide) (by decide) rfl (by decide) wf_X4_115 dX4_weighed_6 (n2 (hM 20 rfl)) (fun h6_1 => ?_)
      refine g_icmp_ge (tgt := 66) (by omega) (by omega) dX4_weighed_9 (by decide) (fun h9_2 => ?_) (fun h9_2 => absurd h9_2 (by omega))
      refine g_iload_n 2 dX4_weighed_66 rfl rfl ?_
      exact g_iret dX4_weighed_67 rfl (Nat.le_of_ble_eq_true rfl) (Nat.le_of_ble_eq_true rfl) (pr_i (rfl) (rfl))
    · skip
      have hs : (i : Int) < B 3 2 := by omega
      have rs := rl_s hR hs; have hsv := vc_sv hV hs; have his := iv_s hI hs
      have e1 := rs.2.2.2.1; have e2 := rs.2.2.2.2.2.2.1; have e3 := rs.1; have e4 := his.1
      refine g_iload_n 3 dX4_weighed_4 rfl rfl ?_
      refine g_aload_n 0 dX4_weighed_5 rfl rfl ?_
      refine g_getfi cf_5 23 rfl (by decide) (by decide) rfl (by decide) wf_X4_115 dX4_weighed_6 (n2 (hM 20 rfl)) (fun h6_3 => ?_)
      refine g_icmp_ge (tgt := 66) (by omega) (by omega) dX4_weighed_9 (by decide) (fun h9_4 => absurd h9_4 (by omega)) (fun h9_4 => ?_)
      refine g_aload_n 0 dX4_weighed_12 rfl rfl ?_
      refine g_iload_n 3 dX4_weighed_13 rfl rfl ?_
      refine g_cV_i (My := mX4_isInParcel) (gs := [_]) (c_X4_isInParcel hM hV hR (s := i) (by omega)) mfX4_isInParcel cf_5 wi_X4_isInParcel wsl_X4_isInParcel wm_X4_214 dX4_weighed_14 (Nat.le_of_ble_eq_true rfl) rfl (by decide) (n2 (hM 20 rfl)) rfl (fun _ => Nat.le_of_ble_eq_true rfl) (Nat.le_of_ble_eq_true rfl) (Nat.le_of_ble_eq_true rfl) rfl rfl ?_
      refine g_ifb_eq (tgt := 24) dX4_weighed_17 (by decide) (fun h17_5 => ?_) (fun h17_5 => ?_)
      · skip
        refine g_aload_n 0 dX4_weighed_24 rfl rfl ?_
        refine g_getfr2 (r := 51) cf_5 30 rfl (by decide) (by decide) rfl (by decide) wf_X4_89 dX4_weighed_25 (hM 20 rfl) rfl ?_
        refine g_iload_n 3 dX4_weighed_28 rfl rfl ?_
        refine g_iald (i) (by omega) (by omega) rfl (by decide) dX4_weighed_29 (n2 (hM 51 rfl)) (fun h29_6 => ?_)
        refine g_iconst dX4_weighed_30 ?_
        refine g_icmp_ne (tgt := 38) (by omega) (by omega) dX4_weighed_31 (by decide) (fun h31_7 => ?_) (fun h31_7 => ?_)
        · skip
          refine g_iconst dX4_weighed_38 ?_
          refine g_st2 (ls2 := [(4, _), (0, _), (1, _), (2, _), (3, _)]) dX4_weighed_39 (by decide) (c1_cr (c1_ci (c1_ci (c1_ci c1_0)))) rfl ?_
          refine g_iload_n 3 dX4_weighed_41 rfl rfl ?_
          refine g_iload 0 dX4_weighed_42 rfl ?_
          refine g_iload_n 2 dX4_weighed_44 rfl rfl ?_
          refine g_icmp_ne (tgt := 57) (by omega) (by omega) dX4_weighed_45 (by decide) (fun h45_8 => ?_) (fun h45_8 => ?_)
          · skip
            refine g_iconst dX4_weighed_57 ?_
            refine g_iadd dX4_weighed_58 ?_
            refine g_st (ls2 := [(2, _), (4, _), (0, _), (1, _), (3, _)]) dX4_weighed_59 rfl (by decide) (c1_ci (c1_cr (c1_ci (c1_ci (c1_ci c1_0))))) rfl ?_
            refine g_inc (ls2 := [(3, _), (2, _), (4, _), (0, _), (1, _)]) 4 dX4_weighed_60 rfl (by decide) (c1_ci (c1_ci (c1_cr (c1_ci (c1_ci c1_0))))) rfl ?_
            refine g_goto (tgt := 4) dX4_weighed_63 (by decide) ?_
            refine g_sub [3, 4, 1, 0] (ls2 := [(0, _), (1, _), (2, _), (3, _)]) rfl ?_
            first | exact g_ls (by simp only [sumF]; rw [show cwQ B (q - 2) i = B (200 + 3 * i) 3 from by unfold cwQ plC plcC; grind]; simp [*]) rfl rfl ih4 | exact g_ls (by simp only [sumF]; rw [show cwQ B (q - 2) i = 0 from by unfold cwQ plC plcC; grind]; simp) rfl rfl ih4
          · skip
            refine g_aload_n 1 dX4_weighed_48 rfl rfl ?_
            refine g_getfr2 (r := 45) cf_5 24 rfl (by decide) (by decide) rfl (by decide) wf_X4_71 dX4_weighed_49 (hM 20 rfl) rfl ?_
            refine g_iload_n 4 dX4_weighed_52 rfl rfl ?_
            refine g_iald (i) (by omega) (by omega) rfl (by decide) dX4_weighed_53 (n2 (hM 45 rfl)) (fun h53_9 => ?_)
            refine g_goto (tgt := 58) dX4_weighed_54 (by decide) ?_
            refine g_iadd dX4_weighed_58 ?_
            refine g_st (ls2 := [(2, _), (4, _), (0, _), (1, _), (3, _)]) dX4_weighed_59 rfl (by decide) (c1_ci (c1_cr (c1_ci (c1_ci (c1_ci c1_0))))) rfl ?_
            refine g_inc (ls2 := [(3, _), (2, _), (4, _), (0, _), (1, _)]) 4 dX4_weighed_60 rfl (by decide) (c1_ci (c1_ci (c1_cr (c1_ci (c1_ci c1_0))))) rfl ?_
            refine g_goto (tgt := 4) dX4_weighed_63 (by decide) ?_
            refine g_sub [3, 4, 1, 0] (ls2 := [(0, _), (1, _), (2, _), (3, _)]) rfl ?_
            first | exact g_ls (by simp only [sumF]; rw [show cwQ B (q - 2) i = B (200 + 3 * i) 3 from by unfold cwQ plC plcC; grind]; simp [*]) rfl rfl ih4 | exact g_ls (by simp only [sumF]; rw [show cwQ B (q - 2) i = 0 from by unfold cwQ plC plcC; grind]; simp) rfl rfl ih4
        · skip
          refine g_iconst dX4_weighed_34 ?_
          refine g_goto (tgt := 39) dX4_weighed_35 (by decide) ?_
          refine g_st2 (ls2 := [(4, _), (0, _), (1, _), (2, _), (3, _)]) dX4_weighed_39 (by decide) (c1_cr (c1_ci (c1_ci (c1_ci c1_0)))) rfl ?_
          refine g_iload_n 3 dX4_weighed_41 rfl rfl ?_
          refine g_iload 0 dX4_weighed_42 rfl ?_
          refine g_iload_n 2 dX4_weighed_44 rfl rfl ?_
          refine g_icmp_ne (tgt := 57) (by omega) (by omega) dX4_weighed_45 (by decide) (fun h45_10 => ?_) (fun h45_10 => ?_)
          · skip
            refine g_iconst dX4_weighed_57 ?_
            refine g_iadd dX4_weighed_58 ?_
            refine g_st (ls2 := [(2, _), (4, _), (0, _), (1, _), (3, _)]) dX4_weighed_59 rfl (by decide) (c1_ci (c1_cr (c1_ci (c1_ci (c1_ci c1_0))))) rfl ?_
            refine g_inc (ls2 := [(3, _), (2, _), (4, _), (0, _), (1, _)]) 4 dX4_weighed_60 rfl (by decide) (c1_ci (c1_ci (c1_cr (c1_ci (c1_ci c1_0))))) rfl ?_
            refine g_goto (tgt := 4) dX4_weighed_63 (by decide) ?_
            refine g_sub [3, 4, 1, 0] (ls2 := [(0, _), (1, _), (2, _), (3, _)]) rfl ?_
            first | exact g_ls (by simp only [sumF]; rw [show cwQ B (q - 2) i = B (200 + 3 * i) 3 from by unfold cwQ plC plcC; grind]; simp [*]) rfl rfl ih4 | exact g_ls (by simp only [sumF]; rw [show cwQ B (q - 2) i = 0 from by unfold cwQ plC plcC; grind]; simp) rfl rfl ih4
          · skip
            refine g_aload_n 1 dX4_weighed_48 rfl rfl ?_
            refine g_getfr2 (r := 45) cf_5 24 rfl (by decide) (by decide) rfl (by decide) wf_X4_71 dX4_weighed_49 (hM 20 rfl) rfl ?_
            refine g_iload_n 4 dX4_weighed_52 rfl rfl ?_
            refine g_iald (i) (by omega) (by omega) rfl (by decide) dX4_weighed_53 (n2 (hM 45 rfl)) (fun h53_11 => ?_)
            refine g_goto (tgt := 58) dX4_weighed_54 (by decide) ?_
            refine g_iadd dX4_weighed_58 ?_
            refine g_st (ls2 := [(2, _), (4, _), (0, _), (1, _), (3, _)]) dX4_weighed_59 rfl (by decide) (c1_ci (c1_cr (c1_ci (c1_ci (c1_ci c1_0))))) rfl ?_
            refine g_inc (ls2 := [(3, _), (2, _), (4, _), (0, _), (1, _)]) 4 dX4_weighed_60 rfl (by decide) (c1_ci (c1_ci (c1_cr (c1_ci (c1_ci c1_0))))) rfl ?_
            refine g_goto (tgt := 4) dX4_weighed_63 (by decide) ?_
            refine g_sub [3, 4, 1, 0] (ls2 := [(0, _), (1, _), (2, _), (3, _)]) rfl ?_
            first | exact g_ls (by simp only [sumF]; rw [show cwQ B (q - 2) i = B (200 + 3 * i) 3 from by unfold cwQ plC plcC; grind]; simp [*]) rfl rfl ih4 | exact g_ls (by simp only [sumF]; rw [show cwQ B (q - 2) i = 0 from by unfold cwQ plC plcC; grind]; simp) rfl rfl ih4
      · skip
        refine g_iconst dX4_weighed_20 ?_
        refine g_goto (tgt := 39) dX4_weighed_21 (by decide) ?_
        refine g_st2 (ls2 := [(4, _), (0, _), (1, _), (2, _), (3, _)]) dX4_weighed_39 (by decide) (c1_cr (c1_ci (c1_ci (c1_ci c1_0)))) rfl ?_
        refine g_iload_n 3 dX4_weighed_41 rfl rfl ?_
        refine g_iload 0 dX4_weighed_42 rfl ?_
        refine g_iload_n 2 dX4_weighed_44 rfl rfl ?_
        refine g_icmp_ne (tgt := 57) (by omega) (by omega) dX4_weighed_45 (by decide) (fun h45_12 => ?_) (fun h45_12 => ?_)
        · skip
          refine g_iconst dX4_weighed_57 ?_
          refine g_iadd dX4_weighed_58 ?_
          refine g_st (ls2 := [(2, _), (4, _), (0, _), (1, _), (3, _)]) dX4_weighed_59 rfl (by decide) (c1_ci (c1_cr (c1_ci (c1_ci (c1_ci c1_0))))) rfl ?_
          refine g_inc (ls2 := [(3, _), (2, _), (4, _), (0, _), (1, _)]) 4 dX4_weighed_60 rfl (by decide) (c1_ci (c1_ci (c1_cr (c1_ci (c1_ci c1_0))))) rfl ?_
          refine g_goto (tgt := 4) dX4_weighed_63 (by decide) ?_
          refine g_sub [3, 4, 1, 0] (ls2 := [(0, _), (1, _), (2, _), (3, _)]) rfl ?_
          first | exact g_ls (by simp only [sumF]; rw [show cwQ B (q - 2) i = B (200 + 3 * i) 3 from by unfold cwQ plC plcC; grind]; simp [*]) rfl rfl ih4 | exact g_ls (by simp only [sumF]; rw [show cwQ B (q - 2) i = 0 from by unfold cwQ plC plcC; grind]; simp) rfl rfl ih4
        · skip
          refine g_aload_n 1 dX4_weighed_48 rfl rfl ?_
          refine g_getfr2 (r := 45) cf_5 24 rfl (by decide) (by decide) rfl (by decide) wf_X4_71 dX4_weighed_49 (hM 20 rfl) rfl ?_
          refine g_iload_n 4 dX4_weighed_52 rfl rfl ?_
          refine g_iald (i) (by omega) (by omega) rfl (by decide) dX4_weighed_53 (n2 (hM 45 rfl)) (fun h53_13 => ?_)
          refine g_goto (tgt := 58) dX4_weighed_54 (by decide) ?_
          refine g_iadd dX4_weighed_58 ?_
          refine g_st (ls2 := [(2, _), (4, _), (0, _), (1, _), (3, _)]) dX4_weighed_59 rfl (by decide) (c1_ci (c1_cr (c1_ci (c1_ci (c1_ci c1_0))))) rfl ?_
          refine g_inc (ls2 := [(3, _), (2, _), (4, _), (0, _), (1, _)]) 4 dX4_weighed_60 rfl (by decide) (c1_ci (c1_ci (c1_cr (c1_ci (c1_ci c1_0))))) rfl ?_
          refine g_goto (tgt := 4) dX4_weighed_63 (by decide) ?_
          refine g_sub [3, 4, 1, 0] (ls2 := [(0, _), (1, _), (2, _), (3, _)]) rfl ?_
          first | exact g_ls (by simp only [sumF]; rw [show cwQ B (q - 2) i = B (200 + 3 * i) 3 from by unfold cwQ plC plcC; grind]; simp [*]) rfl rfl ih4 | exact g_ls (by simp only [sumF]; rw [show cwQ B (q - 2) i = 0 from by unfold cwQ plC plcC; grind]; simp) rfl rfl ih4
  exact g_ls (by rfl) rfl rfl hQ4

set_option maxHeartbeats 1000000 in
set_option maxRecDepth 20000 in
theorem c_X4_carats {L : Nat → Nat} {A B : Mem} (hM : LM L) (hV : VC L B) (hR : Rel B A) (hI : IV B) {w : Int} (hw : -2147483648 ≤ w ∧ w < 2147483648) : Ct mX4_carats [gr 20, gi w] L A (pr (some (gi (if carE w = 0 then carV B w else 0))) L (if carE w = 0 then gup A 20 0 0 else gup A 20 0 (carE w : Nat))) := by
  have hnc := vc_nc hV; have hns := vc_ns hV; have hp0 := (vc_p hV).1
  have rnow := rl_now hR; have rnc := rl_nc hR; have rns := rl_ns hR
  refine Ct_of (ls := [(0, _), (1, _)]) rfl (by decide) (fun _ => rfl) (fun _ => Nat.le_of_ble_eq_true rfl) ?_
  refine g_aload_n 0 dX4_carats_0 rfl rfl ?_
  refine g_iload_n 1 dX4_carats_1 rfl rfl ?_
  refine g_iconst dX4_carats_2 ?_
  refine g_iconst dX4_carats_3 ?_
  by_cases hs4 : 0 ≤ w ∧ w ≤ 5
  · skip
    refine g_cS_i (My := mX4_in) (gs := [_, _, _]) (c_X4_in (by omega) (by omega) (by omega)) mfX4_in rfl wst_X4_in wm_X4_108 dX4_carats_4 (Nat.le_of_ble_eq_true rfl) rfl (fun _ => Nat.le_of_ble_eq_true rfl) (Nat.le_of_ble_eq_true rfl) (Nat.le_of_ble_eq_true rfl) rfl rfl ?_
    refine g_top (y := 1) (by first | (rw [decide_eq_true hs4]; rfl) | (rw [inB, decide_eq_true hs4]; rfl)) ?_
    refine g_if_eq (tgt := 14) (by omega) dX4_carats_7 (by decide) (fun h7_1 => absurd h7_1 (by omega)) (fun h7_1 => ?_)
    refine g_iconst dX4_carats_10 ?_
    refine g_goto (tgt := 15) dX4_carats_11 (by decide) ?_
    refine g_putfi cf_5 0 rfl (by decide) (by decide) rfl (by decide) wf_X4_104 (Or.inl rfl) rfl dX4_carats_15 (n2 (hM 20 rfl)) (by omega) ?_
    refine g_aload_n 0 dX4_carats_18 rfl rfl ?_
    refine g_getfi cf_5 0 rfl (by decide) (by decide) rfl (by decide) wf_X4_104 dX4_carats_19 (n2 (hM 20 rfl)) (fun h19_2 => ?_)
    refine g_top (y := 0) (gup_at _ _ _ _) ?_
    refine g_if_le (tgt := 27) (by omega) dX4_carats_22 (by decide) (fun h22_3 => ?_) (fun h22_3 => absurd h22_3 (by omega))
    have e2 := rl_told (rl_th hR 0); have e3 := rl_lost (rl_th hR 0)
    refine g_iload_n 1 dX4_carats_27 rfl rfl ?_
    refine g_if_ne (tgt := 36) (by omega) dX4_carats_28 (by decide) (fun h28_4 => ?_) (fun h28_4 => ?_)
    · skip
      refine g_iload_n 1 dX4_carats_36 rfl rfl ?_
      refine g_iconst dX4_carats_37 ?_
      refine g_icmp_ne (tgt := 46) (by omega) (by omega) dX4_carats_38 (by decide) (fun h38_5 => ?_) (fun h38_5 => ?_)
      · skip
        refine g_iconst dX4_carats_46 ?_
        refine g_st (ls2 := [(2, _), (0, _), (1, _)]) dX4_carats_47 rfl (by decide) (c1_cr (c1_ci c1_0)) rfl ?_
        refine g_iconst dX4_carats_48 ?_
        refine g_st (ls2 := [(3, _), (2, _), (0, _), (1, _)]) dX4_carats_49 rfl (by decide) (c1_ci (c1_cr (c1_ci c1_0))) rfl ?_
        refine g_sub [2, 3, 1, 0] (ls2 := [(0, _), (1, _), (2, _), (3, _)]) rfl ?_
        have hQ50 : (fun i : Nat => GW mX4_carats (pr (some (gi (if carE w = 0 then carV B w else 0))) L (if carE w = 0 then gup A 20 0 0 else gup A 20 0 (carE w : Nat))) 0 0 50 [(0, gr (20)), (1, gi (w)), (2, gi (sumF (B 14) i)), (3, gi ((i : Int)))] [] L (gup A 20 0 0)) 0 := by
          refine lp_up (Q := (fun i : Nat => GW mX4_carats (pr (some (gi (if carE w = 0 then carV B w else 0))) L (if carE w = 0 then gup A 20 0 0 else gup A 20 0 (carE w : Nat))) 0 0 50 [(0, gr (20)), (1, gi (w)), (2, gi (sumF (B 14) i)), (3, gi ((i : Int)))] [] L (gup A 20 0 0))) (n := 100) ?_ (fun i hi50 ih50 => ?_)
          · skip
            refine g_iload_n 3 dX4_carats_50 rfl rfl ?_
            refine g_bipush dX4_carats_51 (by decide) ?_
            refine g_icmp_ge (tgt := 71) (by omega) (by omega) dX4_carats_53 (by decide) (fun h53_6 => ?_) (fun h53_6 => absurd h53_6 (by omega))
            refine g_iload_n 1 dX4_carats_71 rfl rfl ?_
            refine g_iconst dX4_carats_72 ?_
            refine g_icmp_ne (tgt := 80) (by omega) (by omega) dX4_carats_73 (by decide) (fun h73_7 => ?_) (fun h73_7 => ?_)
            · skip
              refine g_aload_n 0 dX4_carats_80 rfl rfl ?_
              refine g_iload_n 1 dX4_carats_81 rfl rfl ?_
              refine g_cV_i (My := mX4_weighed) (gs := [_]) (c_X4_weighed hM hV (rl_th hR _) hI (q := w) (by omega)) mfX4_weighed cf_5 wi_X4_weighed wsl_X4_weighed wm_X4_242 dX4_carats_82 (Nat.le_of_ble_eq_true rfl) rfl (by decide) (n2 (hM 20 rfl)) rfl (fun _ => Nat.le_of_ble_eq_true rfl) (Nat.le_of_ble_eq_true rfl) (Nat.le_of_ble_eq_true rfl) rfl rfl ?_
              exact g_iret dX4_carats_85 rfl (Nat.le_of_ble_eq_true rfl) (Nat.le_of_ble_eq_true rfl) (pr_i (by first | (rw [show carE w = 0 from by unfold carE; grind, if_pos rfl]; (try unfold carV); (first | done | (grind))) | (rw [show carE w = 1 from by unfold carE; grind]; rfl) | (rw [show carE w = 2 from by unfold carE; grind]; rfl)) (by first | (rw [show carE w = 0 from by unfold carE; grind]; rfl) | (rw [show carE w = 1 from by unfold carE; grind]; rfl) | (rw [show carE w = 2 from by unfold carE; grind]; rfl)))
            · skip
              refine g_iload_n 2 dX4_carats_76 rfl rfl ?_
              refine g_goto (tgt := 85) dX4_carats_77 (by decide) ?_
              exact g_iret dX4_carats_85 rfl (Nat.le_of_ble_eq_true rfl) (Nat.le_of_ble_eq_true rfl) (pr_i (by first | (rw [show carE w = 0 from by unfold carE; grind, if_pos rfl]; (try unfold carV); (first | done | (grind))) | (rw [show carE w = 1 from by unfold carE; grind]; rfl) | (rw [show carE w = 2 from by unfold carE; grind]; rfl)) (by first | (rw [show carE w = 0 from by unfold carE; grind]; rfl) | (rw [show carE w = 1 from by unfold carE; grind]; rfl) | (rw [show carE w = 2 from by unfold carE; grind]; rfl)))
          · skip
            have e1 := congrFun (rl_ca (rl_th hR 0)) i
            refine g_iload_n 3 dX4_carats_50 rfl rfl ?_
            refine g_bipush dX4_carats_51 (by decide) ?_
            refine g_icmp_ge (tgt := 71) (by omega) (by omega) dX4_carats_53 (by decide) (fun h53_8 => absurd h53_8 (by omega)) (fun h53_8 => ?_)
            refine g_iload_n 2 dX4_carats_56 rfl rfl ?_
            refine g_aload_n 0 dX4_carats_57 rfl rfl ?_
            refine g_getfr2 (r := 24) cf_5 3 rfl (by decide) (by decide) rfl (by decide) wf_X4_13 dX4_carats_58 (hM 20 rfl) rfl ?_
            refine g_iload_n 3 dX4_carats_61 rfl rfl ?_
            refine g_iald (i) (by omega) (by omega) rfl (by decide) dX4_carats_62 (n2 (hM 24 rfl)) (fun h62_9 => ?_)
            refine g_iadd dX4_carats_63 ?_
            refine g_st (ls2 := [(2, _), (0, _), (1, _), (3, _)]) dX4_carats_64 rfl (by decide) (c1_cr (c1_ci (c1_ci (c1_ci c1_0)))) rfl ?_
            refine g_inc (ls2 := [(3, _), (2, _), (0, _), (1, _)]) 3 dX4_carats_65 rfl (by decide) (c1_ci (c1_cr (c1_ci (c1_ci c1_0)))) rfl ?_
            refine g_goto (tgt := 50) dX4_carats_68 (by decide) ?_
            refine g_sub [2, 3, 1, 0] (ls2 := [(0, _), (1, _), (2, _), (3, _)]) rfl ?_
            exact g_ls (by simp only [sumF]; rw [← e1]; rfl) rfl rfl ih50
        exact g_ls (by rfl) rfl rfl hQ50
      · skip
        refine g_aload_n 0 dX4_carats_41 rfl rfl ?_
        refine g_getfi cf_5 36 rfl (by decide) (by decide) rfl (by decide) wf_X4_220 dX4_carats_42 (n2 (hM 20 rfl)) (fun h42_10 => ?_)
        exact g_iret dX4_carats_45 rfl (Nat.le_of_ble_eq_true rfl) (Nat.le_of_ble_eq_true rfl) (pr_i (by first | (rw [show carE w = 0 from by unfold carE; grind, if_pos rfl]; (try unfold carV); (first | done | (grind))) | (rw [show carE w = 1 from by unfold carE; grind]; rfl) | (rw [show carE w = 2 from by unfold carE; grind]; rfl)) (by first | (rw [show carE w = 0 from by unfold carE; grind]; rfl) | (rw [show carE w = 1 from by unfold carE; grind]; rfl) | (rw [show carE w = 2 from by unfold carE; grind]; rfl)))
    · skip
      refine g_aload_n 0 dX4_carats_31 rfl rfl ?_
      refine g_getfi cf_5 35 rfl (by decide) (by decide) rfl (by decide) wf_X4_125 dX4_carats_32 (n2 (hM 20 rfl)) (fun h32_11 => ?_)
      exact g_iret dX4_carats_35 rfl (Nat.le_of_ble_eq_true rfl) (Nat.le_of_ble_eq_true rfl) (pr_i (by first | (rw [show carE w = 0 from by unfold carE; grind, if_pos rfl]; (try unfold carV); (first | done | (grind))) | (rw [show carE w = 1 from by unfold carE; grind]; rfl) | (rw [show carE w = 2 from by unfold carE; grind]; rfl)) (by first | (rw [show carE w = 0 from by unfold carE; grind]; rfl) | (rw [show carE w = 1 from by unfold carE; grind]; rfl) | (rw [show carE w = 2 from by unfold carE; grind]; rfl)))
  · skip
    refine g_cS_i (My := mX4_in) (gs := [_, _, _]) (c_X4_in (by omega) (by omega) (by omega)) mfX4_in rfl wst_X4_in wm_X4_108 dX4_carats_4 (Nat.le_of_ble_eq_true rfl) rfl (fun _ => Nat.le_of_ble_eq_true rfl) (Nat.le_of_ble_eq_true rfl) (Nat.le_of_ble_eq_true rfl) rfl rfl ?_
    refine g_top (y := 0) (by first | (rw [decide_eq_false hs4]; rfl) | (rw [inB, decide_eq_false hs4]; rfl)) ?_
    refine g_if_eq (tgt := 14) (by omega) dX4_carats_7 (by decide) (fun h7_12 => ?_) (fun h7_12 => absurd h7_12 (by omega))
    refine g_iconst dX4_carats_14 ?_
    refine g_putfi cf_5 0 rfl (by decide) (by decide) rfl (by decide) wf_X4_104 (Or.inl rfl) rfl dX4_carats_15 (n2 (hM 20 rfl)) (by omega) ?_
    refine g_aload_n 0 dX4_carats_18 rfl rfl ?_
    refine g_getfi cf_5 0 rfl (by decide) (by decide) rfl (by decide) wf_X4_104 dX4_carats_19 (n2 (hM 20 rfl)) (fun h19_13 => ?_)
    refine g_top (y := 1) (gup_at _ _ _ _) ?_
    refine g_if_le (tgt := 27) (by omega) dX4_carats_22 (by decide) (fun h22_14 => absurd h22_14 (by omega)) (fun h22_14 => ?_)
    refine g_iconst dX4_carats_25 ?_
    exact g_iret dX4_carats_26 rfl (Nat.le_of_ble_eq_true rfl) (Nat.le_of_ble_eq_true rfl) (pr_i (by first | (rw [show carE w = 0 from by unfold carE; grind, if_pos rfl]; (try unfold carV); (first | done | (grind))) | (rw [show carE w = 1 from by unfold carE; grind]; rfl) | (rw [show carE w = 2 from by unfold carE; grind]; rfl)) (by first | (rw [show carE w = 0 from by unfold carE; grind]; rfl) | (rw [show carE w = 1 from by unfold carE; grind]; rfl) | (rw [show carE w = 2 from by unfold carE; grind]; rfl)))

/-- how many of the first n neighbours have carats -/
def nbF (B : Mem) (x : Int) : Nat → Int
  | 0 => b2 (decide (0 < B 14 x.toNat))
  | n + 1 => nbF B x n + b2 (decide (bsdF x n ≠ -1 ∧ 0 < B 14 (bsdF x n).toNat))
theorem nbF_4 {B : Mem} {c : Int} (hc : 0 ≤ c ∧ c < 100) : nbF B c 4 = boreC B c := by
  have k : hcB B c = decide (0 < B 14 c.toNat) := by unfold hcB; simp [hc]
  have k0 : decide (bsdF c 0 ≠ -1 ∧ 0 < B 14 (bsdF c 0).toNat) = hcB B (c - 10) := by
    rw [show bsdF c 0 = if 10 ≤ c then c - 10 else -1 from rfl]; unfold hcB; rw [decide_eq_decide]; split <;> constructor <;> intro q <;> grind
  have k1 : decide (bsdF c 1 ≠ -1 ∧ 0 < B 14 (bsdF c 1).toNat) = hcB B (c + 10) := by
    rw [show bsdF c 1 = if c < 90 then c + 10 else -1 from rfl]; unfold hcB; rw [decide_eq_decide]; split <;> constructor <;> intro q <;> grind
  have k2 : decide (bsdF c 2 ≠ -1 ∧ 0 < B 14 (bsdF c 2).toNat) = decide (0 < c % 10 ∧ hcB B (c - 1) = true) := by
    rw [show bsdF c 2 = if 0 < c % 10 then c - 1 else -1 from rfl]; unfold hcB; rw [decide_eq_decide, decide_eq_true_eq]; split <;> constructor <;> intro q <;> grind
  have k3 : decide (bsdF c 3 ≠ -1 ∧ 0 < B 14 (bsdF c 3).toNat) = decide (c % 10 < 9 ∧ hcB B (c + 1) = true) := by
    rw [show bsdF c 3 = if c % 10 < 9 then c + 1 else -1 from rfl]; unfold hcB; rw [decide_eq_decide, decide_eq_true_eq]; split <;> constructor <;> intro q <;> grind
  simp only [nbF, boreC, k, k0, k1, k2, k3]

set_option maxHeartbeats 1000000 in
set_option maxRecDepth 20000 in
theorem c_X4_bore {L : Nat → Nat} {A B : Mem} (hM : LM L) (hV : VC L B) (hR : Rel B A) {x : Int} (hx : -2147483648 ≤ x ∧ x < 2147483648) : Ct mX4_bore [gr 20, gi x] L A (pr (some (gi (if borE x = 0 then boreC B x else 0))) L (if borE x = 0 then gup A 20 0 0 else gup A 20 0 (borE x : Nat))) := by
  have hnc := vc_nc hV; have hns := vc_ns hV; have hp0 := (vc_p hV).1
  have rnow := rl_now hR; have rnc := rl_nc hR; have rns := rl_ns hR
  refine Ct_of (ls := [(0, _), (1, _)]) rfl (by decide) (fun _ => rfl) (fun _ => Nat.le_of_ble_eq_true rfl) ?_
  refine g_aload_n 0 dX4_bore_0 rfl rfl ?_
  refine g_iload_n 1 dX4_bore_1 rfl rfl ?_
  by_cases hs2 : 0 ≤ x ∧ x < 100
  · skip
    refine g_cS_i (My := mX4_isCell) (gs := [_]) (c_X4_isCell (by omega)) mfX4_isCell rfl wst_X4_isCell wm_X4_121 dX4_bore_2 (Nat.le_of_ble_eq_true rfl) rfl (fun _ => Nat.le_of_ble_eq_true rfl) (Nat.le_of_ble_eq_true rfl) (Nat.le_of_ble_eq_true rfl) rfl rfl ?_
    refine g_top (y := 1) (by first | (rw [decide_eq_true hs2]; rfl) | (rw [cellB, decide_eq_true hs2]; rfl)) ?_
    refine g_if_eq (tgt := 12) (by omega) dX4_bore_5 (by decide) (fun h5_1 => absurd h5_1 (by omega)) (fun h5_1 => ?_)
    refine g_iconst dX4_bore_8 ?_
    refine g_goto (tgt := 13) dX4_bore_9 (by decide) ?_
    refine g_putfi cf_5 0 rfl (by decide) (by decide) rfl (by decide) wf_X4_104 (Or.inl rfl) rfl dX4_bore_13 (n2 (hM 20 rfl)) (by omega) ?_
    refine g_aload_n 0 dX4_bore_16 rfl rfl ?_
    refine g_getfi cf_5 0 rfl (by decide) (by decide) rfl (by decide) wf_X4_104 dX4_bore_17 (n2 (hM 20 rfl)) (fun h17_2 => ?_)
    refine g_top (y := 0) (gup_at _ _ _ _) ?_
    refine g_if_le (tgt := 25) (by omega) dX4_bore_20 (by decide) (fun h20_3 => ?_) (fun h20_3 => absurd h20_3 (by omega))
    have e1 := congrFun (rl_ca (rl_th hR 0)) x.toNat
    refine g_aload_n 0 dX4_bore_25 rfl rfl ?_
    refine g_getfr2 (r := 24) cf_5 3 rfl (by decide) (by decide) rfl (by decide) wf_X4_13 dX4_bore_26 (hM 20 rfl) rfl ?_
    refine g_iload_n 1 dX4_bore_29 rfl rfl ?_
    refine g_iald (x.toNat) (by omega) (by omega) rfl (by decide) dX4_bore_30 (n2 (hM 24 rfl)) (fun h30_4 => ?_)
    refine g_if_le (tgt := 38) (by omega) dX4_bore_31 (by decide) (fun h31_5 => ?_) (fun h31_5 => ?_)
    · skip
      refine g_iconst dX4_bore_38 ?_
      refine g_st (ls2 := [(2, _), (0, _), (1, _)]) dX4_bore_39 rfl (by decide) (c1_cr (c1_ci c1_0)) rfl ?_
      refine g_iconst dX4_bore_40 ?_
      refine g_st (ls2 := [(3, _), (2, _), (0, _), (1, _)]) dX4_bore_41 rfl (by decide) (c1_ci (c1_cr (c1_ci c1_0))) rfl ?_
      refine g_sub [2, 3, 1, 0] (ls2 := [(0, _), (1, _), (2, _), (3, _)]) rfl ?_
      have hQ42 : (fun i : Nat => GW mX4_bore (pr (some (gi (if borE x = 0 then boreC B x else 0))) L (if borE x = 0 then gup A 20 0 0 else gup A 20 0 (borE x : Nat))) 0 0 42 [(0, gr (20)), (1, gi (x)), (2, gi (nbF B x i)), (3, gi ((i : Int)))] [] L (gup A 20 0 0)) 0 := by
        refine lp_up (Q := (fun i : Nat => GW mX4_bore (pr (some (gi (if borE x = 0 then boreC B x else 0))) L (if borE x = 0 then gup A 20 0 0 else gup A 20 0 (borE x : Nat))) 0 0 42 [(0, gr (20)), (1, gi (x)), (2, gi (nbF B x i)), (3, gi ((i : Int)))] [] L (gup A 20 0 0))) (n := 4) ?_ (fun i hi42 ih42 => ?_)
        · skip
          refine g_iload_n 3 dX4_bore_42 rfl rfl ?_
          refine g_iconst dX4_bore_43 ?_
          refine g_icmp_ge (tgt := 84) (by omega) (by omega) dX4_bore_44 (by decide) (fun h44_6 => ?_) (fun h44_6 => absurd h44_6 (by omega))
          refine g_iload_n 2 dX4_bore_84 rfl rfl ?_
          exact g_iret dX4_bore_85 rfl (Nat.le_of_ble_eq_true rfl) (Nat.le_of_ble_eq_true rfl) (pr_i (by first | (rw [show borE x = 0 from by unfold borE; grind, if_pos rfl]; (try unfold id); (first | done | (exact nbF_4 hs2))) | (rw [show borE x = 1 from by unfold borE; grind]; rfl) | (rw [show borE x = 2 from by unfold borE; grind]; rfl)) (by first | (rw [show borE x = 0 from by unfold borE; grind]; rfl) | (rw [show borE x = 1 from by unfold borE; grind]; rfl) | (rw [show borE x = 2 from by unfold borE; grind]; rfl)))
        · skip
          refine g_iload_n 3 dX4_bore_42 rfl rfl ?_
          refine g_iconst dX4_bore_43 ?_
          refine g_icmp_ge (tgt := 84) (by omega) (by omega) dX4_bore_44 (by decide) (fun h44_7 => absurd h44_7 (by omega)) (fun h44_7 => ?_)
          refine g_iload_n 1 dX4_bore_47 rfl rfl ?_
          refine g_iload_n 3 dX4_bore_48 rfl rfl ?_
          refine g_cS_i (My := mX4_beside) (gs := [_, _]) (c_X4_beside (c := x) (s := i) hs2 (by omega)) mfX4_beside rfl wst_X4_beside wm_X4_158 dX4_bore_49 (Nat.le_of_ble_eq_true rfl) rfl (fun _ => Nat.le_of_ble_eq_true rfl) (Nat.le_of_ble_eq_true rfl) (Nat.le_of_ble_eq_true rfl) rfl rfl ?_
          have hbr := bsdF_rg hs2 i
          have e2 := congrFun (rl_ca (rl_th hR 0)) (bsdF x i).toNat
          refine g_st2 (ls2 := [(4, _), (0, _), (1, _), (2, _), (3, _)]) dX4_bore_52 (by decide) (c1_cr (c1_ci (c1_ci (c1_ci c1_0)))) rfl ?_
          refine g_iload_n 3 dX4_bore_54 rfl rfl ?_
          refine g_iload 0 dX4_bore_55 rfl ?_
          refine g_iconst dX4_bore_57 ?_
          refine g_icmp_eq (tgt := 75) (by omega) (by omega) dX4_bore_58 (by decide) (fun h58_8 => ?_) (fun h58_8 => ?_)
          · skip
            refine g_iconst dX4_bore_75 ?_
            refine g_iadd dX4_bore_76 ?_
            refine g_st (ls2 := [(2, _), (4, _), (0, _), (1, _), (3, _)]) dX4_bore_77 rfl (by decide) (c1_ci (c1_cr (c1_ci (c1_ci (c1_ci c1_0))))) rfl ?_
            refine g_inc (ls2 := [(3, _), (2, _), (4, _), (0, _), (1, _)]) 4 dX4_bore_78 rfl (by decide) (c1_ci (c1_ci (c1_cr (c1_ci (c1_ci c1_0))))) rfl ?_
            refine g_goto (tgt := 42) dX4_bore_81 (by decide) ?_
            refine g_sub [3, 4, 1, 0] (ls2 := [(0, _), (1, _), (2, _), (3, _)]) rfl ?_
            first | exact g_ls (by simp only [nbF]; rw [decide_eq_true (by omega)]; rfl) rfl rfl ih42 | exact g_ls (by simp only [nbF]; rw [decide_eq_false (by omega)]; rfl) rfl rfl ih42
          · skip
            refine g_aload_n 1 dX4_bore_61 rfl rfl ?_
            refine g_getfr2 (r := 24) cf_5 3 rfl (by decide) (by decide) rfl (by decide) wf_X4_13 dX4_bore_62 (hM 20 rfl) rfl ?_
            refine g_iload 0 dX4_bore_65 rfl ?_
            refine g_ia (by omega) (by omega) rfl (by decide) dX4_bore_67 (n2 (hM 24 rfl)) (fun h67_9 => ?_)
            refine g_if_le (tgt := 75) (by omega) dX4_bore_68 (by decide) (fun h68_10 => ?_) (fun h68_10 => ?_)
            · skip
              refine g_iconst dX4_bore_75 ?_
              refine g_iadd dX4_bore_76 ?_
              refine g_st (ls2 := [(2, _), (4, _), (0, _), (1, _), (3, _)]) dX4_bore_77 rfl (by decide) (c1_ci (c1_cr (c1_ci (c1_ci (c1_ci c1_0))))) rfl ?_
              refine g_inc (ls2 := [(3, _), (2, _), (4, _), (0, _), (1, _)]) 4 dX4_bore_78 rfl (by decide) (c1_ci (c1_ci (c1_cr (c1_ci (c1_ci c1_0))))) rfl ?_
              refine g_goto (tgt := 42) dX4_bore_81 (by decide) ?_
              refine g_sub [3, 4, 1, 0] (ls2 := [(0, _), (1, _), (2, _), (3, _)]) rfl ?_
              first | exact g_ls (by simp only [nbF]; rw [decide_eq_true (by omega)]; rfl) rfl rfl ih42 | exact g_ls (by simp only [nbF]; rw [decide_eq_false (by omega)]; rfl) rfl rfl ih42
            · skip
              refine g_iconst dX4_bore_71 ?_
              refine g_goto (tgt := 76) dX4_bore_72 (by decide) ?_
              refine g_iadd dX4_bore_76 ?_
              refine g_st (ls2 := [(2, _), (4, _), (0, _), (1, _), (3, _)]) dX4_bore_77 rfl (by decide) (c1_ci (c1_cr (c1_ci (c1_ci (c1_ci c1_0))))) rfl ?_
              refine g_inc (ls2 := [(3, _), (2, _), (4, _), (0, _), (1, _)]) 4 dX4_bore_78 rfl (by decide) (c1_ci (c1_ci (c1_cr (c1_ci (c1_ci c1_0))))) rfl ?_
              refine g_goto (tgt := 42) dX4_bore_81 (by decide) ?_
              refine g_sub [3, 4, 1, 0] (ls2 := [(0, _), (1, _), (2, _), (3, _)]) rfl ?_
              first | exact g_ls (by simp only [nbF]; rw [decide_eq_true (by omega)]; rfl) rfl rfl ih42 | exact g_ls (by simp only [nbF]; rw [decide_eq_false (by omega)]; rfl) rfl rfl ih42
      first | exact g_ls (by simp only [nbF]; rw [decide_eq_true (by omega)]; rfl) rfl rfl hQ42 | exact g_ls (by simp only [nbF]; rw [decide_eq_false (by omega)]; rfl) rfl rfl hQ42
    · skip
      refine g_iconst dX4_bore_34 ?_
      refine g_goto (tgt := 39) dX4_bore_35 (by decide) ?_
      refine g_st (ls2 := [(2, _), (0, _), (1, _)]) dX4_bore_39 rfl (by decide) (c1_cr (c1_ci c1_0)) rfl ?_
      refine g_iconst dX4_bore_40 ?_
      refine g_st (ls2 := [(3, _), (2, _), (0, _), (1, _)]) dX4_bore_41 rfl (by decide) (c1_ci (c1_cr (c1_ci c1_0))) rfl ?_
      refine g_sub [2, 3, 1, 0] (ls2 := [(0, _), (1, _), (2, _), (3, _)]) rfl ?_
      have hQ42 : (fun i : Nat => GW mX4_bore (pr (some (gi (if borE x = 0 then boreC B x else 0))) L (if borE x = 0 then gup A 20 0 0 else gup A 20 0 (borE x : Nat))) 0 0 42 [(0, gr (20)), (1, gi (x)), (2, gi (nbF B x i)), (3, gi ((i : Int)))] [] L (gup A 20 0 0)) 0 := by
        refine lp_up (Q := (fun i : Nat => GW mX4_bore (pr (some (gi (if borE x = 0 then boreC B x else 0))) L (if borE x = 0 then gup A 20 0 0 else gup A 20 0 (borE x : Nat))) 0 0 42 [(0, gr (20)), (1, gi (x)), (2, gi (nbF B x i)), (3, gi ((i : Int)))] [] L (gup A 20 0 0))) (n := 4) ?_ (fun i hi42 ih42 => ?_)
        · skip
          refine g_iload_n 3 dX4_bore_42 rfl rfl ?_
          refine g_iconst dX4_bore_43 ?_
          refine g_icmp_ge (tgt := 84) (by omega) (by omega) dX4_bore_44 (by decide) (fun h44_11 => ?_) (fun h44_11 => absurd h44_11 (by omega))
          refine g_iload_n 2 dX4_bore_84 rfl rfl ?_
          exact g_iret dX4_bore_85 rfl (Nat.le_of_ble_eq_true rfl) (Nat.le_of_ble_eq_true rfl) (pr_i (by first | (rw [show borE x = 0 from by unfold borE; grind, if_pos rfl]; (try unfold id); (first | done | (exact nbF_4 hs2))) | (rw [show borE x = 1 from by unfold borE; grind]; rfl) | (rw [show borE x = 2 from by unfold borE; grind]; rfl)) (by first | (rw [show borE x = 0 from by unfold borE; grind]; rfl) | (rw [show borE x = 1 from by unfold borE; grind]; rfl) | (rw [show borE x = 2 from by unfold borE; grind]; rfl)))
        · skip
          refine g_iload_n 3 dX4_bore_42 rfl rfl ?_
          refine g_iconst dX4_bore_43 ?_
          refine g_icmp_ge (tgt := 84) (by omega) (by omega) dX4_bore_44 (by decide) (fun h44_12 => absurd h44_12 (by omega)) (fun h44_12 => ?_)
          refine g_iload_n 1 dX4_bore_47 rfl rfl ?_
          refine g_iload_n 3 dX4_bore_48 rfl rfl ?_
          refine g_cS_i (My := mX4_beside) (gs := [_, _]) (c_X4_beside (c := x) (s := i) hs2 (by omega)) mfX4_beside rfl wst_X4_beside wm_X4_158 dX4_bore_49 (Nat.le_of_ble_eq_true rfl) rfl (fun _ => Nat.le_of_ble_eq_true rfl) (Nat.le_of_ble_eq_true rfl) (Nat.le_of_ble_eq_true rfl) rfl rfl ?_
          have hbr := bsdF_rg hs2 i
          have e2 := congrFun (rl_ca (rl_th hR 0)) (bsdF x i).toNat
          refine g_st2 (ls2 := [(4, _), (0, _), (1, _), (2, _), (3, _)]) dX4_bore_52 (by decide) (c1_cr (c1_ci (c1_ci (c1_ci c1_0)))) rfl ?_
          refine g_iload_n 3 dX4_bore_54 rfl rfl ?_
          refine g_iload 0 dX4_bore_55 rfl ?_
          refine g_iconst dX4_bore_57 ?_
          refine g_icmp_eq (tgt := 75) (by omega) (by omega) dX4_bore_58 (by decide) (fun h58_13 => ?_) (fun h58_13 => ?_)
          · skip
            refine g_iconst dX4_bore_75 ?_
            refine g_iadd dX4_bore_76 ?_
            refine g_st (ls2 := [(2, _), (4, _), (0, _), (1, _), (3, _)]) dX4_bore_77 rfl (by decide) (c1_ci (c1_cr (c1_ci (c1_ci (c1_ci c1_0))))) rfl ?_
            refine g_inc (ls2 := [(3, _), (2, _), (4, _), (0, _), (1, _)]) 4 dX4_bore_78 rfl (by decide) (c1_ci (c1_ci (c1_cr (c1_ci (c1_ci c1_0))))) rfl ?_
            refine g_goto (tgt := 42) dX4_bore_81 (by decide) ?_
            refine g_sub [3, 4, 1, 0] (ls2 := [(0, _), (1, _), (2, _), (3, _)]) rfl ?_
            first | exact g_ls (by simp only [nbF]; rw [decide_eq_true (by omega)]; rfl) rfl rfl ih42 | exact g_ls (by simp only [nbF]; rw [decide_eq_false (by omega)]; rfl) rfl rfl ih42
          · skip
            refine g_aload_n 1 dX4_bore_61 rfl rfl ?_
            refine g_getfr2 (r := 24) cf_5 3 rfl (by decide) (by decide) rfl (by decide) wf_X4_13 dX4_bore_62 (hM 20 rfl) rfl ?_
            refine g_iload 0 dX4_bore_65 rfl ?_
            refine g_ia (by omega) (by omega) rfl (by decide) dX4_bore_67 (n2 (hM 24 rfl)) (fun h67_14 => ?_)
            refine g_if_le (tgt := 75) (by omega) dX4_bore_68 (by decide) (fun h68_15 => ?_) (fun h68_15 => ?_)
            · skip
              refine g_iconst dX4_bore_75 ?_
              refine g_iadd dX4_bore_76 ?_
              refine g_st (ls2 := [(2, _), (4, _), (0, _), (1, _), (3, _)]) dX4_bore_77 rfl (by decide) (c1_ci (c1_cr (c1_ci (c1_ci (c1_ci c1_0))))) rfl ?_
              refine g_inc (ls2 := [(3, _), (2, _), (4, _), (0, _), (1, _)]) 4 dX4_bore_78 rfl (by decide) (c1_ci (c1_ci (c1_cr (c1_ci (c1_ci c1_0))))) rfl ?_
              refine g_goto (tgt := 42) dX4_bore_81 (by decide) ?_
              refine g_sub [3, 4, 1, 0] (ls2 := [(0, _), (1, _), (2, _), (3, _)]) rfl ?_
              first | exact g_ls (by simp only [nbF]; rw [decide_eq_true (by omega)]; rfl) rfl rfl ih42 | exact g_ls (by simp only [nbF]; rw [decide_eq_false (by omega)]; rfl) rfl rfl ih42
            · skip
              refine g_iconst dX4_bore_71 ?_
              refine g_goto (tgt := 76) dX4_bore_72 (by decide) ?_
              refine g_iadd dX4_bore_76 ?_
              refine g_st (ls2 := [(2, _), (4, _), (0, _), (1, _), (3, _)]) dX4_bore_77 rfl (by decide) (c1_ci (c1_cr (c1_ci (c1_ci (c1_ci c1_0))))) rfl ?_
              refine g_inc (ls2 := [(3, _), (2, _), (4, _), (0, _), (1, _)]) 4 dX4_bore_78 rfl (by decide) (c1_ci (c1_ci (c1_cr (c1_ci (c1_ci c1_0))))) rfl ?_
              refine g_goto (tgt := 42) dX4_bore_81 (by decide) ?_
              refine g_sub [3, 4, 1, 0] (ls2 := [(0, _), (1, _), (2, _), (3, _)]) rfl ?_
              first | exact g_ls (by simp only [nbF]; rw [decide_eq_true (by omega)]; rfl) rfl rfl ih42 | exact g_ls (by simp only [nbF]; rw [decide_eq_false (by omega)]; rfl) rfl rfl ih42
      first | exact g_ls (by simp only [nbF]; rw [decide_eq_true (by omega)]; rfl) rfl rfl hQ42 | exact g_ls (by simp only [nbF]; rw [decide_eq_false (by omega)]; rfl) rfl rfl hQ42
  · skip
    refine g_cS_i (My := mX4_isCell) (gs := [_]) (c_X4_isCell (by omega)) mfX4_isCell rfl wst_X4_isCell wm_X4_121 dX4_bore_2 (Nat.le_of_ble_eq_true rfl) rfl (fun _ => Nat.le_of_ble_eq_true rfl) (Nat.le_of_ble_eq_true rfl) (Nat.le_of_ble_eq_true rfl) rfl rfl ?_
    refine g_top (y := 0) (by first | (rw [decide_eq_false hs2]; rfl) | (rw [cellB, decide_eq_false hs2]; rfl)) ?_
    refine g_if_eq (tgt := 12) (by omega) dX4_bore_5 (by decide) (fun h5_16 => ?_) (fun h5_16 => absurd h5_16 (by omega))
    refine g_iconst dX4_bore_12 ?_
    refine g_putfi cf_5 0 rfl (by decide) (by decide) rfl (by decide) wf_X4_104 (Or.inl rfl) rfl dX4_bore_13 (n2 (hM 20 rfl)) (by omega) ?_
    refine g_aload_n 0 dX4_bore_16 rfl rfl ?_
    refine g_getfi cf_5 0 rfl (by decide) (by decide) rfl (by decide) wf_X4_104 dX4_bore_17 (n2 (hM 20 rfl)) (fun h17_17 => ?_)
    refine g_top (y := 1) (gup_at _ _ _ _) ?_
    refine g_if_le (tgt := 25) (by omega) dX4_bore_20 (by decide) (fun h20_18 => absurd h20_18 (by omega)) (fun h20_18 => ?_)
    refine g_iconst dX4_bore_23 ?_
    exact g_iret dX4_bore_24 rfl (Nat.le_of_ble_eq_true rfl) (Nat.le_of_ble_eq_true rfl) (pr_i (by first | (rw [show borE x = 0 from by unfold borE; grind, if_pos rfl]; (try unfold id); (first | done | (exact nbF_4 hs2))) | (rw [show borE x = 1 from by unfold borE; grind]; rfl) | (rw [show borE x = 2 from by unfold borE; grind]; rfl)) (by first | (rw [show borE x = 0 from by unfold borE; grind]; rfl) | (rw [show borE x = 1 from by unfold borE; grind]; rfl) | (rw [show borE x = 2 from by unfold borE; grind]; rfl)))

