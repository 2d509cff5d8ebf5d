set_option maxHeartbeats 2000000 in
set_option maxRecDepth 20000 in
theorem c_X3_divide {L : Nat → Nat} {A : Mem} (hV : VC L A) {R : Mem} (hI : IV A) (hR : Rel A R) {x : Int} (hx : -2147483648 ≤ x ∧ x < 2147483648) : Ct mX3_divide [gr 0, gi x] L A (exP [xIOE, xISE] (divE A x) (some (gi (prcN A x))) L (divA A x.toNat) L A) := by
  have hL := vc_L hV
  have hnc := vc_nc hV; have hns := vc_ns hV; have hp0 := (vc_p hV).1
  refine Ct_of (ls := [(0, _), (1, _)]) rfl (by decide) (fun _ => rfl) (fun _ => Nat.le_of_ble_eq_true rfl) ?_
  refine g_aload_n 0 dX3_divide_0 rfl rfl ?_
  refine g_iload_n 1 dX3_divide_1 rfl rfl ?_
  by_cases hs2 : 0 ≤ x ∧ x < A 2 2
  · skip
    obtain ⟨k, rfl⟩ : ∃ k : Nat, x = k := ⟨x.toNat, by omega⟩
    have hk : (k : Int) < A 2 2 := by omega
    refine g_cV_i (My := mX3_claimAt) (gs := [_]) (c_X3_claimAt hV hk) mfX3_claimAt cf_4 wi_X3_claimAt wsl_X3_claimAt wm_X3_112 dX3_divide_2 (Nat.le_of_ble_eq_true rfl) rfl (by decide) (n2 (hL 0 rfl)) rfl (fun _ => Nat.le_of_ble_eq_true rfl) (Nat.le_of_ble_eq_true rfl) (Nat.le_of_ble_eq_true rfl) rfl rfl ?_
    refine g_sa (ls2 := [(2, _), (0, _), (1, _)]) dX3_divide_5 rfl (by decide) (c1_cr (c1_ci c1_0)) rfl ?_
    refine g_aload_n 1 dX3_divide_6 rfl rfl ?_
    refine g_iload_n 2 dX3_divide_7 rfl rfl ?_
    refine g_cV_i (My := mX3_stonesInParcel) (gs := [_]) (c_X3_stonesInParcel hV (k := (k : Int)) (by omega)) mfX3_stonesInParcel cf_4 wi_X3_stonesInParcel wsl_X3_stonesInParcel wm_X3_198 dX3_divide_8 (Nat.le_of_ble_eq_true rfl) rfl (by decide) (n2 (hL 0 rfl)) rfl (fun _ => Nat.le_of_ble_eq_true rfl) (Nat.le_of_ble_eq_true rfl) (Nat.le_of_ble_eq_true rfl) rfl rfl ?_
    have hk12 := vc_k hV hk
    have hpr0 : 0 ≤ prcN A k ∧ prcN A k ≤ 100 := by (have := cntF_rg (inpC A k) (A 3 2).toNat; unfold prcN; omega)
    have hw : 0 ≤ (sumF (cwP A (k : Int)) (A 3 2).toNat) ∧ (sumF (cwP A (k : Int)) (A 3 2).toNat) ≤ 100000 := by (have := cwP_rg hV (k : Int) _ (Nat.le_refl _); omega)
    refine g_top (y := prcN A k) rfl ?_
    refine g_st (ls2 := [(3, _), (2, _), (0, _), (1, _)]) dX3_divide_11 rfl (by decide) (c1_cr (c1_cr (c1_ci c1_0))) rfl ?_
    refine g_iload_n 0 dX3_divide_12 rfl rfl ?_
    refine g_if_ne (tgt := 26) (by omega) dX3_divide_13 (by decide) (fun h13_1 => ?_) (fun h13_1 => ?_)
    · skip
      refine g_aload_n 2 dX3_divide_26 rfl rfl ?_
      refine g_iload_n 3 dX3_divide_27 rfl rfl ?_
      refine g_cV_i (My := mX3_caratsInParcel) (gs := [_]) (c_X3_caratsInParcel hV (k := (k : Int)) (by omega)) mfX3_caratsInParcel cf_4 wi_X3_caratsInParcel wsl_X3_caratsInParcel wm_X3_203 dX3_divide_28 (Nat.le_of_ble_eq_true rfl) rfl (by decide) (n2 (hL 0 rfl)) rfl (fun _ => Nat.le_of_ble_eq_true rfl) (Nat.le_of_ble_eq_true rfl) (Nat.le_of_ble_eq_true rfl) rfl rfl ?_
      refine g_st2 (ls2 := [(4, _), (3, _), (2, _), (0, _), (1, _)]) dX3_divide_31 (by decide) (c1_ci (c1_cr (c1_cr (c1_ci c1_0)))) rfl ?_
      refine g_aload_n 3 dX3_divide_33 rfl rfl ?_
      refine g_getfr2 (r := 10) cf_4 7 rfl (by decide) (by decide) rfl (by decide) wf_X3_45 dX3_divide_34 (hL 0 rfl) rfl ?_
      refine g_iconst dX3_divide_37 ?_
      refine g_cT_v (My := mJ7_fill_53178) (gs := [_, _]) (c_J7_fill_53178 (n := 10) (N := 8) rfl (by omega) (hL 10 rfl) (by omega)) mfJ7_fill_53178 wst_J7_fill_53178 wm_X3_39 dX3_divide_38 (Nat.le_of_ble_eq_true rfl) rfl (fun _ => Nat.le_of_ble_eq_true rfl) (Nat.le_of_ble_eq_true rfl) (Nat.le_of_ble_eq_true rfl) rfl rfl ?_
      rw [filA_cl]
      refine g_iconst dX3_divide_41 ?_
      refine g_st2 (ls2 := [(5, _), (4, _), (3, _), (2, _), (0, _), (1, _)]) dX3_divide_42 (by decide) (c1_ci (c1_ci (c1_cr (c1_cr (c1_ci c1_0))))) rfl ?_
      refine g_sub [4, 5, 3, 2, 1, 0] (ls2 := [(0, _), (1, _), (2, _), (3, _), (4, _), (5, _)]) rfl ?_
      have hQ44 : (fun i : Nat => GW mX3_divide (exP [xIOE, xISE] (divE A (k : Int)) (some (gi (prcN A (k : Int)))) L (divA A ((k : Int)).toNat) L A) 0 0 44 [(0, gr (0)), (1, gi ((k : Int))), (2, gr (100 + 3 * k)), (3, gi (prcN A k)), (4, gi ((sumF (cwP A (k : Int)) (A 3 2).toNat))), (5, gi ((i : Int)))] [] L ((dvM (clN A 10 8) k (sumF (cwP A (k : Int)) (A 3 2).toNat) i))) 0 := by
        refine lp_up (Q := (fun i : Nat => GW mX3_divide (exP [xIOE, xISE] (divE A (k : Int)) (some (gi (prcN A (k : Int)))) L (divA A ((k : Int)).toNat) L A) 0 0 44 [(0, gr (0)), (1, gi ((k : Int))), (2, gr (100 + 3 * k)), (3, gi (prcN A k)), (4, gi ((sumF (cwP A (k : Int)) (A 3 2).toNat))), (5, gi ((i : Int)))] [] L ((dvM (clN A 10 8) k (sumF (cwP A (k : Int)) (A 3 2).toNat) i)))) (n := (prcN A k).toNat) ?_ (fun i hi44 ih44 => ?_)
        · skip
          refine g_iload 5 dX3_divide_44 rfl ?_
          refine g_iload_n 3 dX3_divide_46 rfl rfl ?_
          refine g_icmp_ge (tgt := 110) (by omega) (by omega) dX3_divide_47 (by decide) (fun h47_2 => ?_) (fun h47_2 => absurd h47_2 (by omega))
          refine g_iload_n 3 dX3_divide_110 rfl rfl ?_
          exact g_iret dX3_divide_111 rfl (Nat.le_of_ble_eq_true rfl) (Nat.le_of_ble_eq_true rfl) (ex_ok (by unfold divE prcN at *; grind) (congrArg (fun z => some (gi z)) (rfl)) rfl (rfl))
        · skip
          have hinv := div_inv hV hI hR hk (sumF (cwP A (k : Int)) (A 3 2).toNat) i (by omega)
          have hki : (k : Int) < (dvM (clN A 10 8) k (sumF (cwP A (k : Int)) (A 3 2).toNat) i) 2 2 := by rw [hinv.2.2.2.2.2.1]; exact hk
          have e3 : ((dvM (clN A 10 8) k (sumF (cwP A (k : Int)) (A 3 2).toNat) i) 3 2).toNat = (A 3 2).toNat := by rw [hinv.2.2.2.2.2.2.1]
          have hds := dvS_inv (w := (sumF (cwP A (k : Int)) (A 3 2).toNat)) hinv.1 hinv.2.1 hinv.2.2.1 hki (by rw [e3, hinv.2.2.2.2.1]; omega)
          have hdp := dvp_lt (w := (sumF (cwP A (k : Int)) (A 3 2).toNat)) hinv.1 hki
          have hdn : ((dvs (dvM (clN A 10 8) k (sumF (cwP A (k : Int)) (A 3 2).toNat) i) k : Nat) : Int) < 100 := by (have := hds.1; rw [hinv.2.2.2.2.2.2.1] at this; omega)
          have hci := vc_cv hinv.1 hki
          refine g_iload 5 dX3_divide_44 rfl ?_
          refine g_iload_n 3 dX3_divide_46 rfl rfl ?_
          refine g_icmp_ge (tgt := 110) (by omega) (by omega) dX3_divide_47 (by decide) (fun h47_3 => absurd h47_3 (by omega)) (fun h47_3 => ?_)
          refine g_aload_n 0 dX3_divide_50 rfl rfl ?_
          refine g_iload_n 1 dX3_divide_51 rfl rfl ?_
          refine g_cV_i (My := mX3_heaviestInParcel) (gs := [_]) (c_X3_heaviestInParcel hinv.1 (k := (k : Int)) (by omega)) mfX3_heaviestInParcel cf_4 wi_X3_heaviestInParcel wsl_X3_heaviestInParcel wm_X3_206 dX3_divide_52 (Nat.le_of_ble_eq_true rfl) rfl (by decide) (n2 (hL 0 rfl)) rfl (fun _ => Nat.le_of_ble_eq_true rfl) (Nat.le_of_ble_eq_true rfl) (Nat.le_of_ble_eq_true rfl) rfl rfl ?_
          refine g_top hds.2.2.2.2.2.2 ?_
          refine g_st2 (ls2 := [(6, _), (0, _), (1, _), (2, _), (3, _), (4, _), (5, _)]) dX3_divide_55 (by decide) (c1_cr (c1_ci (c1_cr (c1_ci (c1_ci (c1_ci c1_0)))))) rfl ?_
          refine g_iload 0 dX3_divide_57 rfl ?_
          refine g_iconst dX3_divide_59 ?_
          refine g_icmp_eq (tgt := 104) (by omega) (by omega) dX3_divide_60 (by decide) (fun h60_4 => absurd h60_4 (by omega)) (fun h60_4 => ?_)
          refine g_aload_n 1 dX3_divide_63 rfl rfl ?_
          refine g_iload 0 dX3_divide_64 rfl ?_
          refine g_cV_i (My := mX3_stoneAt) (gs := [_]) (c_X3_stoneAt hinv.1 (k := dvs (dvM (clN A 10 8) k (sumF (cwP A (k : Int)) (A 3 2).toNat) i) k) hds.1) mfX3_stoneAt cf_4 wi_X3_stoneAt wsl_X3_stoneAt wm_X3_209 dX3_divide_66 (Nat.le_of_ble_eq_true rfl) rfl (by decide) (n2 (hL 0 rfl)) rfl (fun _ => Nat.le_of_ble_eq_true rfl) (Nat.le_of_ble_eq_true rfl) (Nat.le_of_ble_eq_true rfl) rfl rfl ?_
          refine g_sa2 (ls2 := [(7, _), (6, _), (0, _), (1, _), (2, _), (3, _), (4, _), (5, _)]) dX3_divide_69 (by decide) (c1_ci (c1_cr (c1_ci (c1_cr (c1_ci (c1_ci (c1_ci c1_0))))))) rfl ?_
          refine g_aload 0 dX3_divide_71 rfl ?_
          refine g_aload_n 4 dX3_divide_73 rfl rfl ?_
          refine g_iload 6 dX3_divide_74 rfl ?_
          refine g_aload_n 2 dX3_divide_76 rfl rfl ?_
          refine g_getfr2 (r := 10) cf_4 7 rfl (by decide) (by decide) rfl (by decide) wf_X3_45 dX3_divide_77 (hL 0 rfl) rfl ?_
          refine g_cV_i (My := mX0_mostWanting) (gs := [_, _]) (c_X0_mostWanting hk12 (vc_c hV hk) hL (A := (dvM (clN A 10 8) k (sumF (cwP A (k : Int)) (A 3 2).toNat) i)) hci.1 hci.2.2.2.2.2.1 hw (fun p hp => by have := hinv.2.2.2.1 p hp; omega)) mfX0_mostWanting cf_1 wi_X0_mostWanting wsl_X0_mostWanting wm_X3_213 dX3_divide_80 (Nat.le_of_ble_eq_true rfl) (ly_c0 (vc_k hV hk)) (by decide) (n2 (vc_c hV hk).1) rfl (fun _ => Nat.le_of_ble_eq_true rfl) (Nat.le_of_ble_eq_true rfl) (Nat.le_of_ble_eq_true rfl) rfl rfl ?_
          refine g_top (y := ((dvp (dvM (clN A 10 8) k (sumF (cwP A (k : Int)) (A 3 2).toNat) i) k (sumF (cwP A (k : Int)) (A 3 2).toNat) : Nat) : Int)) rfl ?_
          refine g_putfi cf_3 6 (ly_s0 _) (by decide) (by decide) rfl (by decide) wf_X3_217 (Or.inl rfl) rfl dX3_divide_83 (n2 (vc_s hinv.1 hds.1).1) (by omega) ?_
          refine g_aload_n 2 dX3_divide_86 rfl rfl ?_
          refine g_getfr2 (r := 10) cf_4 7 rfl (by decide) (by decide) rfl (by decide) wf_X3_45 dX3_divide_87 (hL 0 rfl) rfl ?_
          refine g_aload 0 dX3_divide_90 rfl ?_
          refine g_getfi cf_3 6 (ly_s0 _) (by decide) (by decide) rfl (by decide) wf_X3_217 dX3_divide_92 (n2 (vc_s hinv.1 hds.1).1) (fun h92_5 => ?_)
          refine g_top (y := ((dvp (dvM (clN A 10 8) k (sumF (cwP A (k : Int)) (A 3 2).toNat) i) k (sumF (cwP A (k : Int)) (A 3 2).toNat) : Nat) : Int)) (gup_at _ _ _ _) ?_
          refine g_dup2 dX3_divide_95 (c1_i _) (c1_r _) ?_
          refine g_iald (dvp (dvM (clN A 10 8) k (sumF (cwP A (k : Int)) (A 3 2).toNat) i) k (sumF (cwP A (k : Int)) (A 3 2).toNat)) (by omega) (by omega) rfl (by decide) dX3_divide_96 (n2 (hL 10 rfl)) (fun h96_6 => ?_)
          refine g_top (y := (dvM (clN A 10 8) k (sumF (cwP A (k : Int)) (A 3 2).toNat) i) 10 (dvp (dvM (clN A 10 8) k (sumF (cwP A (k : Int)) (A 3 2).toNat) i) k (sumF (cwP A (k : Int)) (A 3 2).toNat))) (by rw [gup_ne (by omega)]) ?_
          have q3 := hinv.2.2.2.1 _ hdp
          refine g_aload 0 dX3_divide_97 rfl ?_
          refine g_getfi cf_3 3 (ly_s0 _) (by decide) (by decide) rfl (by decide) wf_X3_222 dX3_divide_99 (n2 (vc_s hinv.1 hds.1).1) (fun h99_7 => ?_)
          refine g_top (y := (dvM (clN A 10 8) k (sumF (cwP A (k : Int)) (A 3 2).toNat) i) (200 + 3 * dvs (dvM (clN A 10 8) k (sumF (cwP A (k : Int)) (A 3 2).toNat) i) k) 3) (by rw [gup_ap, if_neg (by omega)]) ?_
          refine g_iadd dX3_divide_102 ?_
          refine g_iast (dvp (dvM (clN A 10 8) k (sumF (cwP A (k : Int)) (A 3 2).toNat) i) k (sumF (cwP A (k : Int)) (A 3 2).toNat)) (by omega) (by omega) (by omega) rfl (by decide) dX3_divide_103 (n2 (hL 10 rfl)) ?_
          refine g_inc (ls2 := [(5, _), (7, _), (6, _), (0, _), (1, _), (2, _), (3, _), (4, _)]) 7 dX3_divide_104 rfl (by decide) (c1_cr (c1_ci (c1_cr (c1_ci (c1_cr (c1_ci (c1_ci (c1_ci c1_0)))))))) rfl ?_
          refine g_goto (tgt := 44) dX3_divide_107 (by decide) ?_
          refine g_sub [3, 4, 5, 6, 7, 0] (ls2 := [(0, _), (1, _), (2, _), (3, _), (4, _), (5, _)]) rfl ?_
          exact g_ls (by rfl) rfl rfl ih44
      exact g_ls (by rfl) rfl rfl hQ44
    · skip
      exact g_throw thX3_divide_16 (Nat.le_of_ble_eq_true rfl) (Nat.le_of_ble_eq_true rfl) (by decide) (ex_th 1 (by unfold divE prcN at *; grind) rfl)
  · skip
    exact g_cV_t (My := mX3_claimAt_x) (gs := [_]) (c_X3_claimAt_x hV hx hs2) mfX3_claimAt_x cf_4 wi_X3_claimAt wsl_X3_claimAt wm_X3_112 dX3_divide_2 (Nat.le_of_ble_eq_true rfl) rfl (by decide) (n2 (hL 0 rfl)) rfl (fun _ => Nat.le_of_ble_eq_true rfl) (Nat.le_of_ble_eq_true rfl) (Nat.le_of_ble_eq_true rfl) rfl rfl rfl (ex_th 0 (by unfold divE; grind) rfl)

