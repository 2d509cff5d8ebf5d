theorem gup_at (A : Mem) (n k : Nat) (v : Int) : gup A n k v n k = v := by simp [gup_ap]
theorem gup_tw (A : Mem) (n k : Nat) (v w : Int) : gup (gup A n k v) n k w = gup A n k w := by funext m j; simp only [gup_ap]; split <;> rfl
/-- the code of the latest call is no part of what is related -/
theorem rl_th {B A : Mem} (h : Rel B A) (v : Int) : Rel B (gup A 20 0 v) := h

theorem cast_x {x : Int} (h : 0 ≤ x) : x = ((x.toNat : Nat) : Int) := by omega

set_option maxHeartbeats 1000000 in
set_option maxRecDepth 20000 in
theorem c_X4_asks {L : Nat → Nat} {A B : Mem} (hM : LM L) (hV : VC L B) (hR : Rel B A) {x p c : Int} (hx : -2147483648 ≤ x ∧ x < 2147483648) (hp : -2147483648 ≤ p ∧ p < 2147483648) (hc : -2147483648 ≤ c ∧ c < 2147483648) : Ct mX4_asks [gr 20, gi x, gi p, gi c] L A (pr none L (gup A 20 0 ((ahE B x p c : Nat) : Int))) := by
  have hnc := vc_nc hV; have hns := vc_ns hV; have hp0 := (vc_p hV).1
  have rnow := rl_now hR; have rnc := rl_nc hR; have rns := rl_ns hR
  have hbr : ∀ p, 0 ≤ brdC B p := fun p => by unfold brdC; split <;> omega
  have hsh : ∀ k : Nat, (k : Int) < B 2 2 → ∀ p, 0 ≤ B (101 + 3 * k) p := fun k hk p => (vc_cv hV hk).2.2.2.2.2.1 p |>.1
  refine Ct_of (ls := [(0, _), (1, _), (2, _), (3, _)]) rfl (by decide) (fun _ => rfl) (fun _ => Nat.le_of_ble_eq_true rfl) ?_
  refine g_aload_n 0 dX4_asks_0 rfl rfl ?_
  refine g_aload_n 0 dX4_asks_1 rfl rfl ?_
  refine g_iload_n 1 dX4_asks_2 rfl rfl ?_
  refine g_cV_i (My := mX4_isClaim) (gs := [_]) (c_X4_isClaim hM hV hR hx) mfX4_isClaim cf_5 wi_X4_isClaim wsl_X4_isClaim wm_X4_142 dX4_asks_3 (Nat.le_of_ble_eq_true rfl) rfl (by decide) (n2 (hM 20 rfl)) rfl (fun _ => Nat.le_of_ble_eq_true rfl) (Nat.le_of_ble_eq_true rfl) (Nat.le_of_ble_eq_true rfl) rfl rfl ?_
  refine g_ifb_eq (tgt := 27) dX4_asks_6 (by decide) (fun h6_1 => ?_) (fun h6_1 => ?_)
  · skip
    refine g_iconst dX4_asks_27 ?_
    refine g_putfi cf_5 0 rfl (by decide) (by decide) rfl (by decide) wf_X4_104 (Or.inl rfl) rfl dX4_asks_28 (n2 (hM 20 rfl)) (by first | omega | (simp only [decide_eq_true_eq] at *; omega)) ?_
    refine g_aload_n 0 dX4_asks_31 rfl rfl ?_
    refine g_getfi cf_5 0 rfl (by decide) (by decide) rfl (by decide) wf_X4_104 dX4_asks_32 (n2 (hM 20 rfl)) (fun h32_2 => ?_)
    refine g_top (y := 1) (gup_at _ _ _ _) ?_
    refine g_if_ne (tgt := 69) (by first | omega | (simp only [decide_eq_true_eq] at *; omega)) dX4_asks_35 (by decide) (fun h35_3 => ?_) (fun h35_3 => absurd h35_3 (by omega))
    exact g_vret dX4_asks_69 rfl (Nat.le_of_ble_eq_true rfl) (Nat.le_of_ble_eq_true rfl) (pr_v (by unfold ahE; simp only [decide_eq_true_eq, decide_eq_false_iff_not, cellB] at *; grind))
  · skip
    refine g_iload_n 2 dX4_asks_9 rfl rfl ?_
    refine g_cS_i (My := mX4_isPerson) (gs := [_]) (c_X4_isPerson hp) mfX4_isPerson rfl wst_X4_isPerson wm_X4_128 dX4_asks_10 (Nat.le_of_ble_eq_true rfl) rfl (fun _ => Nat.le_of_ble_eq_true rfl) (Nat.le_of_ble_eq_true rfl) (Nat.le_of_ble_eq_true rfl) rfl rfl ?_
    refine g_ifb_eq (tgt := 27) dX4_asks_13 (by decide) (fun h13_4 => ?_) (fun h13_4 => ?_)
    · skip
      refine g_iconst dX4_asks_27 ?_
      refine g_putfi cf_5 0 rfl (by decide) (by decide) rfl (by decide) wf_X4_104 (Or.inl rfl) rfl dX4_asks_28 (n2 (hM 20 rfl)) (by first | omega | (simp only [decide_eq_true_eq] at *; omega)) ?_
      refine g_aload_n 0 dX4_asks_31 rfl rfl ?_
      refine g_getfi cf_5 0 rfl (by decide) (by decide) rfl (by decide) wf_X4_104 dX4_asks_32 (n2 (hM 20 rfl)) (fun h32_5 => ?_)
      refine g_top (y := 1) (gup_at _ _ _ _) ?_
      refine g_if_ne (tgt := 69) (by first | omega | (simp only [decide_eq_true_eq] at *; omega)) dX4_asks_35 (by decide) (fun h35_6 => ?_) (fun h35_6 => absurd h35_6 (by omega))
      exact g_vret dX4_asks_69 rfl (Nat.le_of_ble_eq_true rfl) (Nat.le_of_ble_eq_true rfl) (pr_v (by unfold ahE; simp only [decide_eq_true_eq, decide_eq_false_iff_not, cellB] at *; grind))
    · skip
      refine g_iload_n 3 dX4_asks_16 rfl rfl ?_
      refine g_cS_i (My := mX4_isCell) (gs := [_]) (c_X4_isCell hc) mfX4_isCell rfl wst_X4_isCell wm_X4_121 dX4_asks_17 (Nat.le_of_ble_eq_true rfl) rfl (fun _ => Nat.le_of_ble_eq_true rfl) (Nat.le_of_ble_eq_true rfl) (Nat.le_of_ble_eq_true rfl) rfl rfl ?_
      refine g_ifb_eq (tgt := 27) dX4_asks_20 (by decide) (fun h20_7 => ?_) (fun h20_7 => ?_)
      · skip
        refine g_iconst dX4_asks_27 ?_
        refine g_putfi cf_5 0 rfl (by decide) (by decide) rfl (by decide) wf_X4_104 (Or.inl rfl) rfl dX4_asks_28 (n2 (hM 20 rfl)) (by first | omega | (simp only [decide_eq_true_eq] at *; omega)) ?_
        refine g_aload_n 0 dX4_asks_31 rfl rfl ?_
        refine g_getfi cf_5 0 rfl (by decide) (by decide) rfl (by decide) wf_X4_104 dX4_asks_32 (n2 (hM 20 rfl)) (fun h32_8 => ?_)
        refine g_top (y := 1) (gup_at _ _ _ _) ?_
        refine g_if_ne (tgt := 69) (by first | omega | (simp only [decide_eq_true_eq] at *; omega)) dX4_asks_35 (by decide) (fun h35_9 => ?_) (fun h35_9 => absurd h35_9 (by omega))
        exact g_vret dX4_asks_69 rfl (Nat.le_of_ble_eq_true rfl) (Nat.le_of_ble_eq_true rfl) (pr_v (by unfold ahE; simp only [decide_eq_true_eq, decide_eq_false_iff_not, cellB] at *; grind))
      · skip
        refine g_iconst dX4_asks_23 ?_
        refine g_goto (tgt := 28) dX4_asks_24 (by decide) ?_
        refine g_putfi cf_5 0 rfl (by decide) (by decide) rfl (by decide) wf_X4_104 (Or.inl rfl) rfl dX4_asks_28 (n2 (hM 20 rfl)) (by first | omega | (simp only [decide_eq_true_eq] at *; omega)) ?_
        refine g_aload_n 0 dX4_asks_31 rfl rfl ?_
        refine g_getfi cf_5 0 rfl (by decide) (by decide) rfl (by decide) wf_X4_104 dX4_asks_32 (n2 (hM 20 rfl)) (fun h32_10 => ?_)
        refine g_top (y := 0) (gup_at _ _ _ _) ?_
        refine g_if_ne (tgt := 69) (by first | omega | (simp only [decide_eq_true_eq] at *; omega)) dX4_asks_35 (by decide) (fun h35_11 => absurd h35_11 (by omega)) (fun h35_11 => ?_)
        refine g_aload_n 0 dX4_asks_38 rfl rfl ?_
        refine g_iload_n 1 dX4_asks_39 rfl rfl ?_
        refine g_iload_n 2 dX4_asks_40 rfl rfl ?_
        refine g_ls (st2 := [gi p, gi ((x.toNat : Nat) : Int), gr 20]) rfl (by rw [← cast_x (by simp only [decide_eq_true_eq] at *; omega)]) rfl ?_
        refine g_cV_i (My := mX4_shareOf) (gs := [_, _]) (c_X4_shareOf hM hV (rl_th hR _) (k := x.toNat) (by simp only [decide_eq_true_eq] at *; omega) (p := p) (by simp only [decide_eq_true_eq] at *; omega)) mfX4_shareOf cf_5 wi_X4_shareOf wsl_X4_shareOf wm_X4_145 dX4_asks_41 (Nat.le_of_ble_eq_true rfl) rfl (by decide) (n2 (hM 20 rfl)) rfl (fun _ => Nat.le_of_ble_eq_true rfl) (Nat.le_of_ble_eq_true rfl) (Nat.le_of_ble_eq_true rfl) rfl rfl ?_
        have hsr : -2147483648 ≤ B (101 + 3 * x.toNat) p.toNat ∧ B (101 + 3 * x.toNat) p.toNat < 2147483648 := by (have := (vc_cv hV (show ((x.toNat : Nat) : Int) < B 2 2 by simp only [decide_eq_true_eq] at *; omega)).2.2.2.2.2.1 p.toNat; omega)
        refine g_if_eq (tgt := 64) (by first | omega | (simp only [decide_eq_true_eq] at *; omega)) dX4_asks_44 (by decide) (fun h44_12 => ?_) (fun h44_12 => ?_)
        · skip
          refine g_aload_n 0 dX4_asks_64 rfl rfl ?_
          refine g_iconst dX4_asks_65 ?_
          refine g_putfi cf_5 0 rfl (by decide) (by decide) rfl (by decide) wf_X4_104 (Or.inl rfl) rfl dX4_asks_66 (n2 (hM 20 rfl)) (by first | omega | (simp only [decide_eq_true_eq] at *; omega)) ?_
          refine g_ls (A2 := gup A 20 0 2) rfl rfl (gup_tw _ _ _ _ _) ?_
          exact g_vret dX4_asks_69 rfl (Nat.le_of_ble_eq_true rfl) (Nat.le_of_ble_eq_true rfl) (pr_v (by unfold ahE; simp only [decide_eq_true_eq, decide_eq_false_iff_not, cellB] at *; grind))
        · skip
          refine g_aload_n 0 dX4_asks_47 rfl rfl ?_
          refine g_iload_n 2 dX4_asks_48 rfl rfl ?_
          refine g_cV_i (My := mX4_isBarred) (gs := [_]) (c_X4_isBarred hM hV (rl_th hR _) (p := p) (by simp only [decide_eq_true_eq] at *; omega)) mfX4_isBarred cf_5 wi_X4_isBarred wsl_X4_isBarred wm_X4_131 dX4_asks_49 (Nat.le_of_ble_eq_true rfl) rfl (by decide) (n2 (hM 20 rfl)) rfl (fun _ => Nat.le_of_ble_eq_true rfl) (Nat.le_of_ble_eq_true rfl) (Nat.le_of_ble_eq_true rfl) rfl rfl ?_
          refine g_ifb_ne (tgt := 64) dX4_asks_52 (by decide) (fun h52_13 => ?_) (fun h52_13 => ?_)
          · skip
            refine g_aload_n 0 dX4_asks_64 rfl rfl ?_
            refine g_iconst dX4_asks_65 ?_
            refine g_putfi cf_5 0 rfl (by decide) (by decide) rfl (by decide) wf_X4_104 (Or.inl rfl) rfl dX4_asks_66 (n2 (hM 20 rfl)) (by first | omega | (simp only [decide_eq_true_eq] at *; omega)) ?_
            refine g_ls (A2 := gup A 20 0 2) rfl rfl (gup_tw _ _ _ _ _) ?_
            exact g_vret dX4_asks_69 rfl (Nat.le_of_ble_eq_true rfl) (Nat.le_of_ble_eq_true rfl) (pr_v (by unfold ahE; simp only [decide_eq_true_eq, decide_eq_false_iff_not, cellB] at *; grind))
          · skip
            refine g_aload_n 0 dX4_asks_55 rfl rfl ?_
            refine g_iload_n 3 dX4_asks_56 rfl rfl ?_
            refine g_cV_i (My := mX4_holder) (gs := [_]) (c_X4_holder hM hV (rl_th hR _) (x := c) (by simp only [cellB, decide_eq_true_eq] at *; omega)) mfX4_holder cf_5 wi_X4_holder wsl_X4_holder wm_X4_175 dX4_asks_57 (Nat.le_of_ble_eq_true rfl) rfl (by decide) (n2 (hM 20 rfl)) rfl (fun _ => Nat.le_of_ble_eq_true rfl) (Nat.le_of_ble_eq_true rfl) (Nat.le_of_ble_eq_true rfl) rfl rfl ?_
            have hhr := hldC_rg hV c
            refine g_iload_n 1 dX4_asks_60 rfl rfl ?_
            refine g_icmp_eq (tgt := 69) (by first | omega | (simp only [decide_eq_true_eq] at *; omega)) (by first | omega | (simp only [decide_eq_true_eq] at *; omega)) dX4_asks_61 (by decide) (fun h61_14 => ?_) (fun h61_14 => ?_)
            · skip
              exact g_vret dX4_asks_69 rfl (Nat.le_of_ble_eq_true rfl) (Nat.le_of_ble_eq_true rfl) (pr_v (by unfold ahE; simp only [decide_eq_true_eq, decide_eq_false_iff_not, cellB] at *; grind))
            · skip
              refine g_aload_n 0 dX4_asks_64 rfl rfl ?_
              refine g_iconst dX4_asks_65 ?_
              refine g_putfi cf_5 0 rfl (by decide) (by decide) rfl (by decide) wf_X4_104 (Or.inl rfl) rfl dX4_asks_66 (n2 (hM 20 rfl)) (by first | omega | (simp only [decide_eq_true_eq] at *; omega)) ?_
              refine g_ls (A2 := gup A 20 0 2) rfl rfl (gup_tw _ _ _ _ _) ?_
              exact g_vret dX4_asks_69 rfl (Nat.le_of_ble_eq_true rfl) (Nat.le_of_ble_eq_true rfl) (pr_v (by unfold ahE; simp only [decide_eq_true_eq, decide_eq_false_iff_not, cellB] at *; grind))

def vt (A : Mem) : Mem := fun n => if n = 17 then A 28 else fun _ => 0
theorem trapC_cg {A B : Mem} (h : A 17 = B 17) (k : Int) (n : Nat) : trapC A k n = trapC B k n := by
  induction n with
  | zero => rfl
  | succ n ih => simp only [trapC, ih, h]

set_option maxRecDepth 20000 in
theorem c_X4_trapsOf {L : Nat → Nat} {A : Mem} (hM : LM L) {k : Int} (hk : -2147483648 ≤ k ∧ k < 2147483648) : Ct mX4_trapsOf [gr 20, gi k] L A (pr (some (gi (trapC (vt A) k 100))) L A) := by
  refine Ct_of (ls := [(0, _), (1, _)]) rfl (by decide) (fun _ => rfl) (fun _ => Nat.le_of_ble_eq_true rfl) ?_
  refine g_iconst dX4_trapsOf_0 ?_
  refine g_st (ls2 := [(2, _), (0, _), (1, _)]) dX4_trapsOf_1 rfl (by decide) (c1_cr (c1_ci c1_0)) rfl ?_
  refine g_iconst dX4_trapsOf_2 ?_
  refine g_st (ls2 := [(3, _), (2, _), (0, _), (1, _)]) dX4_trapsOf_3 rfl (by decide) (c1_ci (c1_cr (c1_ci c1_0))) rfl ?_
  refine g_sub [2, 3, 1, 0] (ls2 := [(0, _), (1, _), (2, _), (3, _)]) rfl ?_
  have hQ4 : (fun i : Nat => GW mX4_trapsOf (pr (some (gi (trapC (vt A) k 100))) L A) 0 0 4 [(0, gr (20)), (1, gi (k)), (2, gi (trapC (vt A) k i)), (3, gi ((i : Int)))] [] L (A)) 0 := by
    refine lp_up (Q := (fun i : Nat => GW mX4_trapsOf (pr (some (gi (trapC (vt A) k 100))) L A) 0 0 4 [(0, gr (20)), (1, gi (k)), (2, gi (trapC (vt A) k i)), (3, gi ((i : Int)))] [] L (A))) (n := 100) ?_ (fun i hi4 ih4 => ?_)
    · skip
      refine g_iload_n 3 dX4_trapsOf_4 rfl rfl ?_
      refine g_bipush dX4_trapsOf_5 (by decide) ?_
      refine g_icmp_ge (tgt := 34) (by omega) (by omega) dX4_trapsOf_7 (by decide) (fun h7_1 => ?_) (fun h7_1 => absurd h7_1 (by omega))
      refine g_iload_n 2 dX4_trapsOf_34 rfl rfl ?_
      exact g_iret dX4_trapsOf_35 rfl (Nat.le_of_ble_eq_true rfl) (Nat.le_of_ble_eq_true rfl) (pr_i (rfl) (rfl))
    · skip
      have hvt : vt A 17 i = A 28 i := rfl
      refine g_iload_n 3 dX4_trapsOf_4 rfl rfl ?_
      refine g_bipush dX4_trapsOf_5 (by decide) ?_
      refine g_icmp_ge (tgt := 34) (by omega) (by omega) dX4_trapsOf_7 (by decide) (fun h7_2 => absurd h7_2 (by omega)) (fun h7_2 => ?_)
      refine g_iload_n 2 dX4_trapsOf_10 rfl rfl ?_
      refine g_aload_n 0 dX4_trapsOf_11 rfl rfl ?_
      refine g_getfr2 (r := 28) cf_5 7 rfl (by decide) (by decide) rfl (by decide) wf_X4_26 dX4_trapsOf_12 (hM 20 rfl) rfl ?_
      refine g_iload_n 3 dX4_trapsOf_15 rfl rfl ?_
      refine g_iald (i) (by omega) (by omega) rfl (by decide) dX4_trapsOf_16 (n2 (hM 28 rfl)) (fun h16_3 => ?_)
      refine g_iload_n 1 dX4_trapsOf_17 rfl rfl ?_
      refine g_icmp_ne (tgt := 25) (by omega) (by omega) dX4_trapsOf_18 (by decide) (fun h18_4 => ?_) (fun h18_4 => ?_)
      · skip
        refine g_iconst dX4_trapsOf_25 ?_
        refine g_iadd dX4_trapsOf_26 ?_
        refine g_st (ls2 := [(2, _), (0, _), (1, _), (3, _)]) dX4_trapsOf_27 rfl (by decide) (c1_cr (c1_ci (c1_ci (c1_ci c1_0)))) rfl ?_
        refine g_inc (ls2 := [(3, _), (2, _), (0, _), (1, _)]) 3 dX4_trapsOf_28 rfl (by decide) (c1_ci (c1_cr (c1_ci (c1_ci c1_0)))) rfl ?_
        refine g_goto (tgt := 4) dX4_trapsOf_31 (by decide) ?_
        refine g_sub [2, 3, 1, 0] (ls2 := [(0, _), (1, _), (2, _), (3, _)]) rfl ?_
        exact g_ls (by simp only [trapC, hvt]; simp [*, b2]) rfl rfl ih4
      · skip
        refine g_iconst dX4_trapsOf_21 ?_
        refine g_goto (tgt := 26) dX4_trapsOf_22 (by decide) ?_
        refine g_iadd dX4_trapsOf_26 ?_
        refine g_st (ls2 := [(2, _), (0, _), (1, _), (3, _)]) dX4_trapsOf_27 rfl (by decide) (c1_cr (c1_ci (c1_ci (c1_ci c1_0)))) rfl ?_
        refine g_inc (ls2 := [(3, _), (2, _), (0, _), (1, _)]) 3 dX4_trapsOf_28 rfl (by decide) (c1_ci (c1_cr (c1_ci (c1_ci c1_0)))) rfl ?_
        refine g_goto (tgt := 4) dX4_trapsOf_31 (by decide) ?_
        refine g_sub [2, 3, 1, 0] (ls2 := [(0, _), (1, _), (2, _), (3, _)]) rfl ?_
        exact g_ls (by simp only [trapC, hvt]; simp [*, b2]) rfl rfl ih4
  exact g_ls (by rfl) rfl rfl hQ4

set_option maxRecDepth 20000 in
theorem c_X4_isNight {L : Nat → Nat} {A B : Mem} (hM : LM L) (hV : VC L B) (hR : Rel B A) : Ct mX4_isNight [gr 20] L A (pr (some (gi (b2 (nigB (B 0 9))))) L A) := by
  have hnc := vc_nc hV; have hns := vc_ns hV; have hp0 := (vc_p hV).1
  have rnow := rl_now hR; have rnc := rl_nc hR; have rns := rl_ns hR
  refine Ct_of (ls := [(0, _)]) rfl (by decide) (fun _ => rfl) (fun _ => Nat.le_of_ble_eq_true rfl) ?_
  refine g_aload_n 0 dX4_isNight_0 rfl rfl ?_
  refine g_getfi cf_5 1 rfl (by decide) (by decide) rfl (by decide) wf_X4_118 dX4_isNight_1 (n2 (hM 20 rfl)) (fun h1_1 => ?_)
  refine g_bipush dX4_isNight_4 (by decide) ?_
  refine g_irem (by omega) (by omega) dX4_isNight_6 ?_
  refine g_st (ls2 := [(1, _), (0, _)]) dX4_isNight_7 rfl (by decide) (c1_cr c1_0) rfl ?_
  refine g_iload_n 0 dX4_isNight_8 rfl rfl ?_
  refine g_bipush dX4_isNight_9 (by decide) ?_
  refine g_icmp_ge (tgt := 19) (by omega) (by omega) dX4_isNight_11 (by decide) (fun h11_2 => ?_) (fun h11_2 => ?_)
  · skip
    refine g_iconst dX4_isNight_19 ?_
    refine g_goto (tgt := 24) dX4_isNight_20 (by decide) ?_
    exact g_zret dX4_isNight_24 rfl (Or.inr rfl) (Nat.le_of_ble_eq_true rfl) (Nat.le_of_ble_eq_true rfl) (pr_i (b2_1 (by unfold nigB; rw [← rnow]; grind)) (rfl))
  · skip
    refine g_iload_n 0 dX4_isNight_14 rfl rfl ?_
    refine g_iconst dX4_isNight_15 ?_
    refine g_icmp_gt (tgt := 23) (by omega) (by omega) dX4_isNight_16 (by decide) (fun h16_3 => ?_) (fun h16_3 => ?_)
    · skip
      refine g_iconst dX4_isNight_23 ?_
      exact g_zret dX4_isNight_24 rfl (Or.inl rfl) (Nat.le_of_ble_eq_true rfl) (Nat.le_of_ble_eq_true rfl) (pr_i (b2_0 (by unfold nigB; rw [← rnow]; grind)) (rfl))
    · skip
      refine g_iconst dX4_isNight_19 ?_
      refine g_goto (tgt := 24) dX4_isNight_20 (by decide) ?_
      exact g_zret dX4_isNight_24 rfl (Or.inr rfl) (Nat.le_of_ble_eq_true rfl) (Nat.le_of_ble_eq_true rfl) (pr_i (b2_1 (by unfold nigB; rw [← rnow]; grind)) (rfl))

set_option maxHeartbeats 1000000 in
set_option maxRecDepth 20000 in
theorem c_X4_seam {L : Nat → Nat} {A B : Mem} (hM : LM L) (hV : VC L B) (hR : Rel B A) {x y z : Int} (hx : -2147483648 ≤ x ∧ x < 2147483648) (hy : -2147483648 ≤ y ∧ y < 2147483648) (hz : -2147483648 ≤ z ∧ z < 2147483648) : Ct mX4_seam [gr 20, gi x, gi y, gi z] L A (pr none L (if seamE B x y z = 0 then gup (gup (gup (gup (gup A 20 0 0) 26 x.toNat 1) 24 x.toNat y) 25 x.toNat z) 20 35 (A 20 35 + y) else gup A 20 0 (seamE B x y z : Nat))) := by
  have hnc := vc_nc hV; have hns := vc_ns hV; have hp0 := (vc_p hV).1
  have rnow := rl_now hR; have rnc := rl_nc hR; have rns := rl_ns hR
  have hg := vc_g hV; have hpv := vc_p hV
  have r12 := congrFun (rl_st hR) x.toNat; have r14 := congrFun (rl_ca hR) x.toNat; have r15 := congrFun (rl_de hR) x.toNat; have r13 := rl_to hR x.toNat; have r16 := congrFun (rl_pr hR) x.toNat; have r17 := congrFun (rl_tr hR) x.toNat
  have g12 := hg.1 x.toNat; have g13 := hg.2.1 x.toNat; have g14 := hg.2.2.1 x.toNat; have g15 := hg.2.2.2.1 x.toNat; have g16 := hg.2.2.2.2.1 x.toNat; have g17 := hg.2.2.2.2.2 x.toNat
  have htl := rl_told hR; have htr := sumF_rg hg.2.1 100
  refine Ct_of (ls := [(0, _), (1, _), (2, _), (3, _)]) rfl (by decide) (fun _ => rfl) (fun _ => Nat.le_of_ble_eq_true rfl) ?_
  refine g_iload_n 2 dX4_seam_0 rfl rfl ?_
  refine g_iconst dX4_seam_1 ?_
  refine g_sipush dX4_seam_2 (by decide) ?_
  refine g_cS_i (My := mX4_in) (gs := [_, _, _]) (c_X4_in (by omega) (by omega) (by omega)) mfX4_in rfl wst_X4_in wm_X4_108 dX4_seam_5 (Nat.le_of_ble_eq_true rfl) rfl (fun _ => Nat.le_of_ble_eq_true rfl) (Nat.le_of_ble_eq_true rfl) (Nat.le_of_ble_eq_true rfl) rfl rfl ?_
  refine g_ifb_eq (tgt := 25) dX4_seam_8 (by decide) (fun h8_1 => ?_) (fun h8_1 => ?_)
  · skip
    refine g_iconst dX4_seam_25 ?_
    refine g_st2 (ls2 := [(4, _), (0, _), (1, _), (2, _), (3, _)]) dX4_seam_26 (by decide) (c1_cr (c1_ci (c1_ci (c1_ci c1_0)))) rfl ?_
    refine g_aload_n 1 dX4_seam_28 rfl rfl ?_
    refine g_iload_n 2 dX4_seam_29 rfl rfl ?_
    refine g_cS_i (My := mX4_isCell) (gs := [_]) (c_X4_isCell hx) mfX4_isCell rfl wst_X4_isCell wm_X4_121 dX4_seam_30 (Nat.le_of_ble_eq_true rfl) rfl (fun _ => Nat.le_of_ble_eq_true rfl) (Nat.le_of_ble_eq_true rfl) (Nat.le_of_ble_eq_true rfl) rfl rfl ?_
    refine g_ifb_ne (tgt := 40) dX4_seam_33 (by decide) (fun h33_2 => ?_) (fun h33_2 => ?_)
    · skip
      refine g_iload 0 dX4_seam_40 rfl ?_
      refine g_if_ne (tgt := 49) (by first | omega | (simp only [inB, cellB, decide_eq_true_eq, decide_eq_false_iff_not] at *; omega)) dX4_seam_42 (by decide) (fun h42_3 => absurd h42_3 (by omega)) (fun h42_3 => ?_)
      refine g_iconst dX4_seam_45 ?_
      refine g_goto (tgt := 72) dX4_seam_46 (by decide) ?_
      refine g_putfi cf_5 0 rfl (by decide) (by decide) rfl (by decide) wf_X4_104 (Or.inl rfl) rfl dX4_seam_72 (n2 (hM 20 rfl)) (by first | omega | (simp only [inB, cellB, decide_eq_true_eq, decide_eq_false_iff_not] at *; omega)) ?_
      refine g_aload_n 1 dX4_seam_75 rfl rfl ?_
      refine g_getfi cf_5 0 rfl (by decide) (by decide) rfl (by decide) wf_X4_104 dX4_seam_76 (n2 (hM 20 rfl)) (fun h76_4 => ?_)
      refine g_top (y := 2) (gup_at _ _ _ _) ?_
      refine g_if_ne (tgt := 113) (by first | omega | (simp only [inB, cellB, decide_eq_true_eq, decide_eq_false_iff_not] at *; omega)) dX4_seam_79 (by decide) (fun h79_5 => ?_) (fun h79_5 => absurd h79_5 (by omega))
      exact g_vret dX4_seam_113 rfl (Nat.le_of_ble_eq_true rfl) (Nat.le_of_ble_eq_true rfl) (pr_v (by first | (rw [show seamE B x y z = 0 from by simp only [seamE, inB, cellB, decide_eq_true_eq, decide_eq_false_iff_not] at *; grind]; rfl) | (rw [show seamE B x y z = 1 from by simp only [seamE, inB, cellB, decide_eq_true_eq, decide_eq_false_iff_not] at *; grind]; rfl) | (rw [show seamE B x y z = 2 from by simp only [seamE, inB, cellB, decide_eq_true_eq, decide_eq_false_iff_not] at *; grind]; rfl) | (rw [show seamE B x y z = 3 from by simp only [seamE, inB, cellB, decide_eq_true_eq, decide_eq_false_iff_not] at *; grind]; rfl)))
    · skip
      refine g_iconst dX4_seam_36 ?_
      refine g_goto (tgt := 72) dX4_seam_37 (by decide) ?_
      refine g_putfi cf_5 0 rfl (by decide) (by decide) rfl (by decide) wf_X4_104 (Or.inl rfl) rfl dX4_seam_72 (n2 (hM 20 rfl)) (by first | omega | (simp only [inB, cellB, decide_eq_true_eq, decide_eq_false_iff_not] at *; omega)) ?_
      refine g_aload_n 1 dX4_seam_75 rfl rfl ?_
      refine g_getfi cf_5 0 rfl (by decide) (by decide) rfl (by decide) wf_X4_104 dX4_seam_76 (n2 (hM 20 rfl)) (fun h76_6 => ?_)
      refine g_top (y := 1) (gup_at _ _ _ _) ?_
      refine g_if_ne (tgt := 113) (by first | omega | (simp only [inB, cellB, decide_eq_true_eq, decide_eq_false_iff_not] at *; omega)) dX4_seam_79 (by decide) (fun h79_7 => ?_) (fun h79_7 => absurd h79_7 (by omega))
      exact g_vret dX4_seam_113 rfl (Nat.le_of_ble_eq_true rfl) (Nat.le_of_ble_eq_true rfl) (pr_v (by first | (rw [show seamE B x y z = 0 from by simp only [seamE, inB, cellB, decide_eq_true_eq, decide_eq_false_iff_not] at *; grind]; rfl) | (rw [show seamE B x y z = 1 from by simp only [seamE, inB, cellB, decide_eq_true_eq, decide_eq_false_iff_not] at *; grind]; rfl) | (rw [show seamE B x y z = 2 from by simp only [seamE, inB, cellB, decide_eq_true_eq, decide_eq_false_iff_not] at *; grind]; rfl) | (rw [show seamE B x y z = 3 from by simp only [seamE, inB, cellB, decide_eq_true_eq, decide_eq_false_iff_not] at *; grind]; rfl)))
  · skip
    refine g_iload_n 3 dX4_seam_11 rfl rfl ?_
    refine g_iconst dX4_seam_12 ?_
    refine g_bipush dX4_seam_13 (by decide) ?_
    refine g_cS_i (My := mX4_in) (gs := [_, _, _]) (c_X4_in (by omega) (by omega) (by omega)) mfX4_in rfl wst_X4_in wm_X4_108 dX4_seam_15 (Nat.le_of_ble_eq_true rfl) rfl (fun _ => Nat.le_of_ble_eq_true rfl) (Nat.le_of_ble_eq_true rfl) (Nat.le_of_ble_eq_true rfl) rfl rfl ?_
    refine g_ifb_eq (tgt := 25) dX4_seam_18 (by decide) (fun h18_8 => ?_) (fun h18_8 => ?_)
    · skip
      refine g_iconst dX4_seam_25 ?_
      refine g_st2 (ls2 := [(4, _), (0, _), (1, _), (2, _), (3, _)]) dX4_seam_26 (by decide) (c1_cr (c1_ci (c1_ci (c1_ci c1_0)))) rfl ?_
      refine g_aload_n 1 dX4_seam_28 rfl rfl ?_
      refine g_iload_n 2 dX4_seam_29 rfl rfl ?_
      refine g_cS_i (My := mX4_isCell) (gs := [_]) (c_X4_isCell hx) mfX4_isCell rfl wst_X4_isCell wm_X4_121 dX4_seam_30 (Nat.le_of_ble_eq_true rfl) rfl (fun _ => Nat.le_of_ble_eq_true rfl) (Nat.le_of_ble_eq_true rfl) (Nat.le_of_ble_eq_true rfl) rfl rfl ?_
      refine g_ifb_ne (tgt := 40) dX4_seam_33 (by decide) (fun h33_9 => ?_) (fun h33_9 => ?_)
      · skip
        refine g_iload 0 dX4_seam_40 rfl ?_
        refine g_if_ne (tgt := 49) (by first | omega | (simp only [inB, cellB, decide_eq_true_eq, decide_eq_false_iff_not] at *; omega)) dX4_seam_42 (by decide) (fun h42_10 => absurd h42_10 (by omega)) (fun h42_10 => ?_)
        refine g_iconst dX4_seam_45 ?_
        refine g_goto (tgt := 72) dX4_seam_46 (by decide) ?_
        refine g_putfi cf_5 0 rfl (by decide) (by decide) rfl (by decide) wf_X4_104 (Or.inl rfl) rfl dX4_seam_72 (n2 (hM 20 rfl)) (by first | omega | (simp only [inB, cellB, decide_eq_true_eq, decide_eq_false_iff_not] at *; omega)) ?_
        refine g_aload_n 1 dX4_seam_75 rfl rfl ?_
        refine g_getfi cf_5 0 rfl (by decide) (by decide) rfl (by decide) wf_X4_104 dX4_seam_76 (n2 (hM 20 rfl)) (fun h76_11 => ?_)
        refine g_top (y := 2) (gup_at _ _ _ _) ?_
        refine g_if_ne (tgt := 113) (by first | omega | (simp only [inB, cellB, decide_eq_true_eq, decide_eq_false_iff_not] at *; omega)) dX4_seam_79 (by decide) (fun h79_12 => ?_) (fun h79_12 => absurd h79_12 (by omega))
        exact g_vret dX4_seam_113 rfl (Nat.le_of_ble_eq_true rfl) (Nat.le_of_ble_eq_true rfl) (pr_v (by first | (rw [show seamE B x y z = 0 from by simp only [seamE, inB, cellB, decide_eq_true_eq, decide_eq_false_iff_not] at *; grind]; rfl) | (rw [show seamE B x y z = 1 from by simp only [seamE, inB, cellB, decide_eq_true_eq, decide_eq_false_iff_not] at *; grind]; rfl) | (rw [show seamE B x y z = 2 from by simp only [seamE, inB, cellB, decide_eq_true_eq, decide_eq_false_iff_not] at *; grind]; rfl) | (rw [show seamE B x y z = 3 from by simp only [seamE, inB, cellB, decide_eq_true_eq, decide_eq_false_iff_not] at *; grind]; rfl)))
      · skip
        refine g_iconst dX4_seam_36 ?_
        refine g_goto (tgt := 72) dX4_seam_37 (by decide) ?_
        refine g_putfi cf_5 0 rfl (by decide) (by decide) rfl (by decide) wf_X4_104 (Or.inl rfl) rfl dX4_seam_72 (n2 (hM 20 rfl)) (by first | omega | (simp only [inB, cellB, decide_eq_true_eq, decide_eq_false_iff_not] at *; omega)) ?_
        refine g_aload_n 1 dX4_seam_75 rfl rfl ?_
        refine g_getfi cf_5 0 rfl (by decide) (by decide) rfl (by decide) wf_X4_104 dX4_seam_76 (n2 (hM 20 rfl)) (fun h76_13 => ?_)
        refine g_top (y := 1) (gup_at _ _ _ _) ?_
        refine g_if_ne (tgt := 113) (by first | omega | (simp only [inB, cellB, decide_eq_true_eq, decide_eq_false_iff_not] at *; omega)) dX4_seam_79 (by decide) (fun h79_14 => ?_) (fun h79_14 => absurd h79_14 (by omega))
        exact g_vret dX4_seam_113 rfl (Nat.le_of_ble_eq_true rfl) (Nat.le_of_ble_eq_true rfl) (pr_v (by first | (rw [show seamE B x y z = 0 from by simp only [seamE, inB, cellB, decide_eq_true_eq, decide_eq_false_iff_not] at *; grind]; rfl) | (rw [show seamE B x y z = 1 from by simp only [seamE, inB, cellB, decide_eq_true_eq, decide_eq_false_iff_not] at *; grind]; rfl) | (rw [show seamE B x y z = 2 from by simp only [seamE, inB, cellB, decide_eq_true_eq, decide_eq_false_iff_not] at *; grind]; rfl) | (rw [show seamE B x y z = 3 from by simp only [seamE, inB, cellB, decide_eq_true_eq, decide_eq_false_iff_not] at *; grind]; rfl)))
    · skip
      refine g_iconst dX4_seam_21 ?_
      refine g_goto (tgt := 26) dX4_seam_22 (by decide) ?_
      refine g_st2 (ls2 := [(4, _), (0, _), (1, _), (2, _), (3, _)]) dX4_seam_26 (by decide) (c1_cr (c1_ci (c1_ci (c1_ci c1_0)))) rfl ?_
      refine g_aload_n 1 dX4_seam_28 rfl rfl ?_
      refine g_iload_n 2 dX4_seam_29 rfl rfl ?_
      refine g_cS_i (My := mX4_isCell) (gs := [_]) (c_X4_isCell hx) mfX4_isCell rfl wst_X4_isCell wm_X4_121 dX4_seam_30 (Nat.le_of_ble_eq_true rfl) rfl (fun _ => Nat.le_of_ble_eq_true rfl) (Nat.le_of_ble_eq_true rfl) (Nat.le_of_ble_eq_true rfl) rfl rfl ?_
      refine g_ifb_ne (tgt := 40) dX4_seam_33 (by decide) (fun h33_15 => ?_) (fun h33_15 => ?_)
      · skip
        refine g_iload 0 dX4_seam_40 rfl ?_
        refine g_if_ne (tgt := 49) (by first | omega | (simp only [inB, cellB, decide_eq_true_eq, decide_eq_false_iff_not] at *; omega)) dX4_seam_42 (by decide) (fun h42_16 => ?_) (fun h42_16 => absurd h42_16 (by omega))
        have hx1 : 0 ≤ x ∧ x < 100 := by simp only [cellB, decide_eq_true_eq] at *; omega
        refine g_aload_n 1 dX4_seam_49 rfl rfl ?_
        refine g_getfr2 (r := 23) cf_5 2 rfl (by decide) (by decide) rfl (by decide) wf_X4_7 dX4_seam_50 (hM 20 rfl) rfl ?_
        refine g_iload_n 2 dX4_seam_53 rfl rfl ?_
        refine g_iald (x.toNat) (by first | omega | (simp only [inB, cellB, decide_eq_true_eq, decide_eq_false_iff_not] at *; omega)) (by first | omega | (simp only [inB, cellB, decide_eq_true_eq, decide_eq_false_iff_not] at *; omega)) rfl (by decide) dX4_seam_54 (n2 (hM 23 rfl)) (fun h54_17 => ?_)
        refine g_if_ne (tgt := 67) (by first | omega | (simp only [inB, cellB, decide_eq_true_eq, decide_eq_false_iff_not] at *; omega)) dX4_seam_55 (by decide) (fun h55_18 => ?_) (fun h55_18 => ?_)
        · skip
          refine g_iconst dX4_seam_67 ?_
          refine g_goto (tgt := 72) dX4_seam_68 (by decide) ?_
          refine g_putfi cf_5 0 rfl (by decide) (by decide) rfl (by decide) wf_X4_104 (Or.inl rfl) rfl dX4_seam_72 (n2 (hM 20 rfl)) (by first | omega | (simp only [inB, cellB, decide_eq_true_eq, decide_eq_false_iff_not] at *; omega)) ?_
          refine g_aload_n 1 dX4_seam_75 rfl rfl ?_
          refine g_getfi cf_5 0 rfl (by decide) (by decide) rfl (by decide) wf_X4_104 dX4_seam_76 (n2 (hM 20 rfl)) (fun h76_19 => ?_)
          refine g_top (y := 3) (gup_at _ _ _ _) ?_
          refine g_if_ne (tgt := 113) (by first | omega | (simp only [inB, cellB, decide_eq_true_eq, decide_eq_false_iff_not] at *; omega)) dX4_seam_79 (by decide) (fun h79_20 => ?_) (fun h79_20 => absurd h79_20 (by omega))
          exact g_vret dX4_seam_113 rfl (Nat.le_of_ble_eq_true rfl) (Nat.le_of_ble_eq_true rfl) (pr_v (by first | (rw [show seamE B x y z = 0 from by simp only [seamE, inB, cellB, decide_eq_true_eq, decide_eq_false_iff_not] at *; grind]; rfl) | (rw [show seamE B x y z = 1 from by simp only [seamE, inB, cellB, decide_eq_true_eq, decide_eq_false_iff_not] at *; grind]; rfl) | (rw [show seamE B x y z = 2 from by simp only [seamE, inB, cellB, decide_eq_true_eq, decide_eq_false_iff_not] at *; grind]; rfl) | (rw [show seamE B x y z = 3 from by simp only [seamE, inB, cellB, decide_eq_true_eq, decide_eq_false_iff_not] at *; grind]; rfl)))
        · skip
          refine g_aload_n 1 dX4_seam_58 rfl rfl ?_
          refine g_getfr2 (r := 26) cf_5 5 rfl (by decide) (by decide) rfl (by decide) wf_X4_19 dX4_seam_59 (hM 20 rfl) rfl ?_
          refine g_iload_n 2 dX4_seam_62 rfl rfl ?_
          refine g_zald (x.toNat) (by first | omega | (simp only [inB, cellB, decide_eq_true_eq, decide_eq_false_iff_not] at *; omega)) (by first | omega | (simp only [inB, cellB, decide_eq_true_eq, decide_eq_false_iff_not] at *; omega)) rfl (by decide) dX4_seam_63 (n2 (hM 26 rfl)) (fun h63_21 => ?_)
          refine g_if_eq (tgt := 71) (by first | omega | (simp only [inB, cellB, decide_eq_true_eq, decide_eq_false_iff_not] at *; omega)) dX4_seam_64 (by decide) (fun h64_22 => ?_) (fun h64_22 => ?_)
          · skip
            refine g_iconst dX4_seam_71 ?_
            refine g_putfi cf_5 0 rfl (by decide) (by decide) rfl (by decide) wf_X4_104 (Or.inl rfl) rfl dX4_seam_72 (n2 (hM 20 rfl)) (by first | omega | (simp only [inB, cellB, decide_eq_true_eq, decide_eq_false_iff_not] at *; omega)) ?_
            refine g_aload_n 1 dX4_seam_75 rfl rfl ?_
            refine g_getfi cf_5 0 rfl (by decide) (by decide) rfl (by decide) wf_X4_104 dX4_seam_76 (n2 (hM 20 rfl)) (fun h76_23 => ?_)
            refine g_top (y := 0) (gup_at _ _ _ _) ?_
            refine g_if_ne (tgt := 113) (by first | omega | (simp only [inB, cellB, decide_eq_true_eq, decide_eq_false_iff_not] at *; omega)) dX4_seam_79 (by decide) (fun h79_24 => absurd h79_24 (by omega)) (fun h79_24 => ?_)
            refine g_aload_n 1 dX4_seam_82 rfl rfl ?_
            refine g_getfr2 (r := 26) cf_5 5 rfl (by decide) (by decide) rfl (by decide) wf_X4_19 dX4_seam_83 (hM 20 rfl) rfl ?_
            refine g_iload_n 2 dX4_seam_86 rfl rfl ?_
            refine g_iconst dX4_seam_87 ?_
            refine g_zast (x.toNat) (by first | omega | (simp only [inB, cellB, decide_eq_true_eq, decide_eq_false_iff_not] at *; omega)) (by first | omega | (simp only [inB, cellB, decide_eq_true_eq, decide_eq_false_iff_not] at *; omega)) (Or.inr rfl) rfl (by decide) dX4_seam_88 (n2 (hM 26 rfl)) ?_
            refine g_aload_n 1 dX4_seam_89 rfl rfl ?_
            refine g_getfr2 (r := 24) cf_5 3 rfl (by decide) (by decide) rfl (by decide) wf_X4_13 dX4_seam_90 (hM 20 rfl) rfl ?_
            refine g_iload_n 2 dX4_seam_93 rfl rfl ?_
            refine g_iload_n 3 dX4_seam_94 rfl rfl ?_
            refine g_iast (x.toNat) (by first | omega | (simp only [inB, cellB, decide_eq_true_eq, decide_eq_false_iff_not] at *; omega)) (by first | omega | (simp only [inB, cellB, decide_eq_true_eq, decide_eq_false_iff_not] at *; omega)) (by first | omega | (simp only [inB, cellB, decide_eq_true_eq, decide_eq_false_iff_not] at *; omega)) rfl (by decide) dX4_seam_95 (n2 (hM 24 rfl)) ?_
            refine g_aload_n 1 dX4_seam_96 rfl rfl ?_
            refine g_getfr2 (r := 25) cf_5 4 rfl (by decide) (by decide) rfl (by decide) wf_X4_16 dX4_seam_97 (hM 20 rfl) rfl ?_
            refine g_iload_n 2 dX4_seam_100 rfl rfl ?_
            refine g_iload_n 4 dX4_seam_101 rfl rfl ?_
            refine g_iast (x.toNat) (by first | omega | (simp only [inB, cellB, decide_eq_true_eq, decide_eq_false_iff_not] at *; omega)) (by first | omega | (simp only [inB, cellB, decide_eq_true_eq, decide_eq_false_iff_not] at *; omega)) (by first | omega | (simp only [inB, cellB, decide_eq_true_eq, decide_eq_false_iff_not] at *; omega)) rfl (by decide) dX4_seam_102 (n2 (hM 25 rfl)) ?_
            refine g_aload_n 1 dX4_seam_103 rfl rfl ?_
            refine g_dup dX4_seam_104 (c1_r _) ?_
            refine g_getfi cf_5 35 rfl (by decide) (by decide) rfl (by decide) wf_X4_125 dX4_seam_105 (n2 (hM 20 rfl)) (fun h105_25 => ?_)
            refine g_top (y := A 20 35) (by simp [gup_ap]) ?_
            refine g_iload_n 3 dX4_seam_108 rfl rfl ?_
            refine g_iadd dX4_seam_109 ?_
            refine g_putfi cf_5 35 rfl (by decide) (by decide) rfl (by decide) wf_X4_125 (Or.inl rfl) rfl dX4_seam_110 (n2 (hM 20 rfl)) (by first | omega | (simp only [inB, cellB, decide_eq_true_eq, decide_eq_false_iff_not] at *; omega)) ?_
            exact g_vret dX4_seam_113 rfl (Nat.le_of_ble_eq_true rfl) (Nat.le_of_ble_eq_true rfl) (pr_v (by first | (rw [show seamE B x y z = 0 from by simp only [seamE, inB, cellB, decide_eq_true_eq, decide_eq_false_iff_not] at *; grind]; rfl) | (rw [show seamE B x y z = 1 from by simp only [seamE, inB, cellB, decide_eq_true_eq, decide_eq_false_iff_not] at *; grind]; rfl) | (rw [show seamE B x y z = 2 from by simp only [seamE, inB, cellB, decide_eq_true_eq, decide_eq_false_iff_not] at *; grind]; rfl) | (rw [show seamE B x y z = 3 from by simp only [seamE, inB, cellB, decide_eq_true_eq, decide_eq_false_iff_not] at *; grind]; rfl)))
          · skip
            refine g_iconst dX4_seam_67 ?_
            refine g_goto (tgt := 72) dX4_seam_68 (by decide) ?_
            refine g_putfi cf_5 0 rfl (by decide) (by decide) rfl (by decide) wf_X4_104 (Or.inl rfl) rfl dX4_seam_72 (n2 (hM 20 rfl)) (by first | omega | (simp only [inB, cellB, decide_eq_true_eq, decide_eq_false_iff_not] at *; omega)) ?_
            refine g_aload_n 1 dX4_seam_75 rfl rfl ?_
            refine g_getfi cf_5 0 rfl (by decide) (by decide) rfl (by decide) wf_X4_104 dX4_seam_76 (n2 (hM 20 rfl)) (fun h76_26 => ?_)
            refine g_top (y := 3) (gup_at _ _ _ _) ?_
            refine g_if_ne (tgt := 113) (by first | omega | (simp only [inB, cellB, decide_eq_true_eq, decide_eq_false_iff_not] at *; omega)) dX4_seam_79 (by decide) (fun h79_27 => ?_) (fun h79_27 => absurd h79_27 (by omega))
            exact g_vret dX4_seam_113 rfl (Nat.le_of_ble_eq_true rfl) (Nat.le_of_ble_eq_true rfl) (pr_v (by first | (rw [show seamE B x y z = 0 from by simp only [seamE, inB, cellB, decide_eq_true_eq, decide_eq_false_iff_not] at *; grind]; rfl) | (rw [show seamE B x y z = 1 from by simp only [seamE, inB, cellB, decide_eq_true_eq, decide_eq_false_iff_not] at *; grind]; rfl) | (rw [show seamE B x y z = 2 from by simp only [seamE, inB, cellB, decide_eq_true_eq, decide_eq_false_iff_not] at *; grind]; rfl) | (rw [show seamE B x y z = 3 from by simp only [seamE, inB, cellB, decide_eq_true_eq, decide_eq_false_iff_not] at *; grind]; rfl)))
      · skip
        refine g_iconst dX4_seam_36 ?_
        refine g_goto (tgt := 72) dX4_seam_37 (by decide) ?_
        refine g_putfi cf_5 0 rfl (by decide) (by decide) rfl (by decide) wf_X4_104 (Or.inl rfl) rfl dX4_seam_72 (n2 (hM 20 rfl)) (by first | omega | (simp only [inB, cellB, decide_eq_true_eq, decide_eq_false_iff_not] at *; omega)) ?_
        refine g_aload_n 1 dX4_seam_75 rfl rfl ?_
        refine g_getfi cf_5 0 rfl (by decide) (by decide) rfl (by decide) wf_X4_104 dX4_seam_76 (n2 (hM 20 rfl)) (fun h76_28 => ?_)
        refine g_top (y := 1) (gup_at _ _ _ _) ?_
        refine g_if_ne (tgt := 113) (by first | omega | (simp only [inB, cellB, decide_eq_true_eq, decide_eq_false_iff_not] at *; omega)) dX4_seam_79 (by decide) (fun h79_29 => ?_) (fun h79_29 => absurd h79_29 (by omega))
        exact g_vret dX4_seam_113 rfl (Nat.le_of_ble_eq_true rfl) (Nat.le_of_ble_eq_true rfl) (pr_v (by first | (rw [show seamE B x y z = 0 from by simp only [seamE, inB, cellB, decide_eq_true_eq, decide_eq_false_iff_not] at *; grind]; rfl) | (rw [show seamE B x y z = 1 from by simp only [seamE, inB, cellB, decide_eq_true_eq, decide_eq_false_iff_not] at *; grind]; rfl) | (rw [show seamE B x y z = 2 from by simp only [seamE, inB, cellB, decide_eq_true_eq, decide_eq_false_iff_not] at *; grind]; rfl) | (rw [show seamE B x y z = 3 from by simp only [seamE, inB, cellB, decide_eq_true_eq, decide_eq_false_iff_not] at *; grind]; rfl)))

