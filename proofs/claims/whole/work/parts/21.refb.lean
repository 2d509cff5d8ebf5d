theorem rk_sum {B A : Mem} {k : Nat} (h : RelK B A k) (hc : CV B k) (i : Nat) (hi : i ≤ 8) : 0 ≤ sumF (fun p => A 38 (8 * k + p)) i ∧ sumF (fun p => A 38 (8 * k + p)) i ≤ 12 * i := by
  induction i with
  | zero => exact ⟨Int.le_refl _, Int.le_refl _⟩
  | succ n ih =>
    have h1 := h.2.2.2.2.2.2.1 n (by omega)
    have h2 := hc.2.2.2.2.2.1 n
    have := ih (by omega)
    simp only [sumF]
    split at h1 <;> omega

set_option maxRecDepth 20000 in
theorem c_X4_ownersShare {L : Nat → Nat} {A B : Mem} (hM : LM L) (hV : VC L B) (hR : Rel B A) {k : Nat} (hk : (k : Int) < B 2 2) : Ct mX4_ownersShare [gr 20, gi (k : Int)] L A (pr (some (gi (B (101 + 3 * k) (B (100 + 3 * k) 0).toNat))) L A) := by
  have hnc := vc_nc hV; have hns := vc_ns hV; have hp0 := (vc_p hV).1
  have rnow := rl_now hR; have rnc := rl_nc hR; have rns := rl_ns hR
  have rk := rl_k hR hk; have hcv := vc_cv hV hk; have hk12 := vc_k hV hk
  refine Ct_of (ls := [(0, _), (1, _)]) rfl (by decide) (fun _ => rfl) (fun _ => Nat.le_of_ble_eq_true rfl) ?_
  refine g_bipush dX4_ownersShare_0 (by decide) ?_
  refine g_st (ls2 := [(2, _), (0, _), (1, _)]) dX4_ownersShare_2 rfl (by decide) (c1_cr (c1_ci c1_0)) rfl ?_
  refine g_iconst dX4_ownersShare_3 ?_
  refine g_st (ls2 := [(3, _), (2, _), (0, _), (1, _)]) dX4_ownersShare_4 rfl (by decide) (c1_ci (c1_cr (c1_ci c1_0))) rfl ?_
  refine g_sub [2, 3, 1, 0] (ls2 := [(0, _), (1, _), (2, _), (3, _)]) rfl ?_
  have hQ5 : (fun i : Nat => GW mX4_ownersShare (pr (some (gi (B (101 + 3 * k) (B (100 + 3 * k) 0).toNat))) L A) 0 0 5 [(0, gr (20)), (1, gi ((k : Int))), (2, gi (12 - sumF (fun p => A 38 (8 * k + p)) i)), (3, gi ((i : Int)))] [] L (A)) 0 := by
    refine lp_up (Q := (fun i : Nat => GW mX4_ownersShare (pr (some (gi (B (101 + 3 * k) (B (100 + 3 * k) 0).toNat))) L A) 0 0 5 [(0, gr (20)), (1, gi ((k : Int))), (2, gi (12 - sumF (fun p => A 38 (8 * k + p)) i)), (3, gi ((i : Int)))] [] L (A))) (n := 8) ?_ (fun i hi5 ih5 => ?_)
    · skip
      refine g_iload_n 3 dX4_ownersShare_5 rfl rfl ?_
      refine g_bipush dX4_ownersShare_6 (by decide) ?_
      refine g_icmp_ge (tgt := 31) (by omega) (by omega) dX4_ownersShare_8 (by decide) (fun h8_1 => ?_) (fun h8_1 => absurd h8_1 (by omega))
      refine g_iload_n 2 dX4_ownersShare_31 rfl rfl ?_
      exact g_iret dX4_ownersShare_32 rfl (Nat.le_of_ble_eq_true rfl) (Nat.le_of_ble_eq_true rfl) (pr_i (by rw [rk.2.2.2.2.2.2.2.2.1]) (rfl))
    · skip
      have hsr := rk_sum rk hcv i (by omega)
      refine g_iload_n 3 dX4_ownersShare_5 rfl rfl ?_
      refine g_bipush dX4_ownersShare_6 (by decide) ?_
      refine g_icmp_ge (tgt := 31) (by omega) (by omega) dX4_ownersShare_8 (by decide) (fun h8_2 => absurd h8_2 (by omega)) (fun h8_2 => ?_)
      refine g_iload_n 2 dX4_ownersShare_11 rfl rfl ?_
      refine g_aload_n 0 dX4_ownersShare_12 rfl rfl ?_
      refine g_getfr2 (r := 38) cf_5 17 rfl (by decide) (by decide) rfl (by decide) wf_X4_53 dX4_ownersShare_13 (hM 20 rfl) rfl ?_
      refine g_bipush dX4_ownersShare_16 (by decide) ?_
      refine g_iload_n 1 dX4_ownersShare_18 rfl rfl ?_
      refine g_imul dX4_ownersShare_19 ?_
      refine g_iload_n 3 dX4_ownersShare_20 rfl rfl ?_
      refine g_iadd dX4_ownersShare_21 ?_
      refine g_iald (8 * k + i) (by omega) (by omega) rfl (by decide) dX4_ownersShare_22 (n2 (hM 38 rfl)) (fun h22_3 => ?_)
      refine g_isub dX4_ownersShare_23 ?_
      refine g_st (ls2 := [(2, _), (0, _), (1, _), (3, _)]) dX4_ownersShare_24 rfl (by decide) (c1_cr (c1_ci (c1_ci (c1_ci c1_0)))) rfl ?_
      refine g_inc (ls2 := [(3, _), (2, _), (0, _), (1, _)]) 3 dX4_ownersShare_25 rfl (by decide) (c1_ci (c1_cr (c1_ci (c1_ci c1_0)))) rfl ?_
      refine g_goto (tgt := 5) dX4_ownersShare_28 (by decide) ?_
      refine g_sub [2, 3, 1, 0] (ls2 := [(0, _), (1, _), (2, _), (3, _)]) rfl ?_
      exact g_ls (by simp only [sumF]; rw [Int.sub_sub]; rfl) rfl rfl ih5
  exact g_ls (by rfl) rfl rfl hQ5

set_option maxRecDepth 20000 in
theorem c_X4_shareOf {L : Nat → Nat} {A B : Mem} (hM : LM L) (hV : VC L B) (hR : Rel B A) {k : Nat} (hk : (k : Int) < B 2 2) {p : Int} (hp : 0 ≤ p ∧ p < 8) : Ct mX4_shareOf [gr 20, gi (k : Int), gi p] L A (pr (some (gi (B (101 + 3 * k) p.toNat))) L A) := by
  have hnc := vc_nc hV; have hns := vc_ns hV; have hp0 := (vc_p hV).1
  have rnow := rl_now hR; have rnc := rl_nc hR; have rns := rl_ns hR
  have rk := rl_k hR hk; have hcv := vc_cv hV hk; have hk12 := vc_k hV hk
  refine Ct_of (ls := [(0, _), (1, _), (2, _)]) rfl (by decide) (fun _ => rfl) (fun _ => Nat.le_of_ble_eq_true rfl) ?_
  refine g_iload_n 2 dX4_shareOf_0 rfl rfl ?_
  refine g_aload_n 0 dX4_shareOf_1 rfl rfl ?_
  refine g_getfr2 (r := 31) cf_5 10 rfl (by decide) (by decide) rfl (by decide) wf_X4_32 dX4_shareOf_2 (hM 20 rfl) rfl ?_
  refine g_iload_n 1 dX4_shareOf_5 rfl rfl ?_
  refine g_iald (k) (by omega) (by omega) rfl (by decide) dX4_shareOf_6 (n2 (hM 31 rfl)) (fun h6_1 => ?_)
  have h31 := rk.1; have hcw := hcv.1
  refine g_icmp_ne (tgt := 18) (by omega) (by omega) dX4_shareOf_7 (by decide) (fun h7_2 => ?_) (fun h7_2 => ?_)
  · skip
    refine g_aload_n 0 dX4_shareOf_18 rfl rfl ?_
    refine g_getfr2 (r := 38) cf_5 17 rfl (by decide) (by decide) rfl (by decide) wf_X4_53 dX4_shareOf_19 (hM 20 rfl) rfl ?_
    refine g_bipush dX4_shareOf_22 (by decide) ?_
    refine g_iload_n 1 dX4_shareOf_24 rfl rfl ?_
    refine g_imul dX4_shareOf_25 ?_
    refine g_iload_n 2 dX4_shareOf_26 rfl rfl ?_
    refine g_iadd dX4_shareOf_27 ?_
    refine g_iald (8 * k + p.toNat) (by omega) (by omega) rfl (by decide) dX4_shareOf_28 (n2 (hM 38 rfl)) (fun h28_3 => ?_)
    exact g_iret dX4_shareOf_29 rfl (Nat.le_of_ble_eq_true rfl) (Nat.le_of_ble_eq_true rfl) (pr_i (by first | (have h7 := rk.2.2.2.2.2.2.1 p.toNat (by omega); grind) | grind) (rfl))
  · skip
    refine g_aload_n 0 dX4_shareOf_10 rfl rfl ?_
    refine g_iload_n 1 dX4_shareOf_11 rfl rfl ?_
    refine g_cV_i (My := mX4_ownersShare) (gs := [_]) (c_X4_ownersShare hM hV hR hk) mfX4_ownersShare cf_5 wi_X4_ownersShare wsl_X4_ownersShare wm_X4_134 dX4_shareOf_12 (Nat.le_of_ble_eq_true rfl) rfl (by decide) (n2 (hM 20 rfl)) rfl (fun _ => Nat.le_of_ble_eq_true rfl) (Nat.le_of_ble_eq_true rfl) (Nat.le_of_ble_eq_true rfl) rfl rfl ?_
    refine g_goto (tgt := 29) dX4_shareOf_15 (by decide) ?_
    exact g_iret dX4_shareOf_29 rfl (Nat.le_of_ble_eq_true rfl) (Nat.le_of_ble_eq_true rfl) (pr_i (by first | (have h7 := rk.2.2.2.2.2.2.1 p.toNat (by omega); grind) | grind) (rfl))

set_option maxHeartbeats 1000000 in
set_option maxRecDepth 20000 in
theorem c_X4_holder {L : Nat → Nat} {A B : Mem} (hM : LM L) (hV : VC L B) (hR : Rel B A) {x : Int} (hx : 0 ≤ x ∧ x < 100) : Ct mX4_holder [gr 20, gi x] L A (pr (some (gi (hldC B x))) L A) := by
  have hnc := vc_nc hV; have hns := vc_ns hV; have hp0 := (vc_p hV).1
  have rnow := rl_now hR; have rnc := rl_nc hR; have rns := rl_ns hR
  refine Ct_of (ls := [(0, _), (1, _)]) rfl (by decide) (fun _ => rfl) (fun _ => Nat.le_of_ble_eq_true rfl) ?_
  refine g_iconst dX4_holder_0 ?_
  refine g_st (ls2 := [(2, _), (0, _), (1, _)]) dX4_holder_1 rfl (by decide) (c1_cr (c1_ci c1_0)) rfl ?_
  refine g_iconst dX4_holder_2 ?_
  refine g_st (ls2 := [(3, _), (2, _), (0, _), (1, _)]) dX4_holder_3 rfl (by decide) (c1_ci (c1_cr (c1_ci c1_0))) rfl ?_
  refine g_sub [2, 3, 1, 0] (ls2 := [(0, _), (1, _), (2, _), (3, _)]) rfl ?_
  have hQ4 : (fun i : Nat => GW mX4_holder (pr (some (gi (hldC B x))) L A) 0 0 4 [(0, gr (20)), (1, gi (x)), (2, gi (hldF (covC B x) (livC B) (fun k => B (100 + 3 * k) 5) i)), (3, gi ((i : Int)))] [] L (A)) 0 := by
    refine lp_up (Q := (fun i : Nat => GW mX4_holder (pr (some (gi (hldC B x))) L A) 0 0 4 [(0, gr (20)), (1, gi (x)), (2, gi (hldF (covC B x) (livC B) (fun k => B (100 + 3 * k) 5) i)), (3, gi ((i : Int)))] [] L (A))) (n := (B 2 2).toNat) ?_ (fun i hi4 ih4 => ?_)
    · skip
      refine g_iload_n 3 dX4_holder_4 rfl rfl ?_
      refine g_aload_n 0 dX4_holder_5 rfl rfl ?_
      refine g_getfi cf_5 9 rfl (by decide) (by decide) rfl (by decide) wf_X4_112 dX4_holder_6 (n2 (hM 20 rfl)) (fun h6_1 => ?_)
      refine g_icmp_ge (tgt := 55) (by omega) (by omega) dX4_holder_9 (by decide) (fun h9_2 => ?_) (fun h9_2 => absurd h9_2 (by omega))
      refine g_iload_n 2 dX4_holder_55 rfl rfl ?_
      exact g_iret dX4_holder_56 rfl (Nat.le_of_ble_eq_true rfl) (Nat.le_of_ble_eq_true rfl) (pr_i (rfl) (rfl))
    · skip
      have hk : (i : Int) < B 2 2 := by omega
      have hrg := hldF_rg (covC B x) (livC B) (fun k => B (100 + 3 * k) 5) i
      refine g_iload_n 3 dX4_holder_4 rfl rfl ?_
      refine g_aload_n 0 dX4_holder_5 rfl rfl ?_
      refine g_getfi cf_5 9 rfl (by decide) (by decide) rfl (by decide) wf_X4_112 dX4_holder_6 (n2 (hM 20 rfl)) (fun h6_3 => ?_)
      refine g_icmp_ge (tgt := 55) (by omega) (by omega) dX4_holder_9 (by decide) (fun h9_4 => absurd h9_4 (by omega)) (fun h9_4 => ?_)
      refine g_aload_n 0 dX4_holder_12 rfl rfl ?_
      refine g_iload_n 3 dX4_holder_13 rfl rfl ?_
      refine g_cV_i (My := mX4_isLive) (gs := [_]) (c_X4_isLive hM hV hR hk) mfX4_isLive cf_5 wi_X4_isLive wsl_X4_isLive wm_X4_151 dX4_holder_14 (Nat.le_of_ble_eq_true rfl) rfl (by decide) (n2 (hM 20 rfl)) rfl (fun _ => Nat.le_of_ble_eq_true rfl) (Nat.le_of_ble_eq_true rfl) (Nat.le_of_ble_eq_true rfl) rfl rfl ?_
      refine g_ifb_eq (tgt := 49) dX4_holder_17 (by decide) (fun h17_5 => ?_) (fun h17_5 => ?_)
      · skip
        refine g_inc (ls2 := [(3, _), (0, _), (1, _), (2, _)]) 3 dX4_holder_49 rfl (by decide) (c1_cr (c1_ci (c1_ci (c1_ci c1_0)))) rfl ?_
        refine g_goto (tgt := 4) dX4_holder_52 (by decide) ?_
        refine g_sub [1, 2, 3, 0] (ls2 := [(0, _), (1, _), (2, _), (3, _)]) rfl ?_
        exact g_ls (by simp only [hldF] at *; grind) rfl rfl ih4
      · skip
        refine g_aload_n 0 dX4_holder_20 rfl rfl ?_
        refine g_iload_n 3 dX4_holder_21 rfl rfl ?_
        refine g_iload_n 1 dX4_holder_22 rfl rfl ?_
        refine g_cV_i (My := mX4_covers) (gs := [_, _]) (c_X4_covers hM hV hR hk hx) mfX4_covers cf_5 wi_X4_covers wsl_X4_covers wm_X4_154 dX4_holder_23 (Nat.le_of_ble_eq_true rfl) rfl (by decide) (n2 (hM 20 rfl)) rfl (fun _ => Nat.le_of_ble_eq_true rfl) (Nat.le_of_ble_eq_true rfl) (Nat.le_of_ble_eq_true rfl) rfl rfl ?_
        refine g_ifb_eq (tgt := 49) dX4_holder_26 (by decide) (fun h26_6 => ?_) (fun h26_6 => ?_)
        · skip
          refine g_inc (ls2 := [(3, _), (0, _), (1, _), (2, _)]) 3 dX4_holder_49 rfl (by decide) (c1_cr (c1_ci (c1_ci (c1_ci c1_0)))) rfl ?_
          refine g_goto (tgt := 4) dX4_holder_52 (by decide) ?_
          refine g_sub [1, 2, 3, 0] (ls2 := [(0, _), (1, _), (2, _), (3, _)]) rfl ?_
          exact g_ls (by simp only [hldF] at *; grind) rfl rfl ih4
        · skip
          refine g_iload_n 2 dX4_holder_29 rfl rfl ?_
          refine g_iconst dX4_holder_30 ?_
          refine g_icmp_eq (tgt := 47) (by omega) (by omega) dX4_holder_31 (by decide) (fun h31_7 => ?_) (fun h31_7 => ?_)
          · skip
            refine g_iload_n 3 dX4_holder_47 rfl rfl ?_
            refine g_st (ls2 := [(2, _), (0, _), (1, _), (3, _)]) dX4_holder_48 rfl (by decide) (c1_cr (c1_ci (c1_ci (c1_ci c1_0)))) rfl ?_
            refine g_inc (ls2 := [(3, _), (2, _), (0, _), (1, _)]) 3 dX4_holder_49 rfl (by decide) (c1_ci (c1_cr (c1_ci (c1_ci c1_0)))) rfl ?_
            refine g_goto (tgt := 4) dX4_holder_52 (by decide) ?_
            refine g_sub [2, 3, 1, 0] (ls2 := [(0, _), (1, _), (2, _), (3, _)]) rfl ?_
            exact g_ls (by simp only [hldF] at *; grind) rfl rfl ih4
          · skip
            refine g_aload_n 0 dX4_holder_34 rfl rfl ?_
            refine g_iload_n 3 dX4_holder_35 rfl rfl ?_
            refine g_cV_i (My := mX4_hourOf) (gs := [_]) (c_X4_hourOf hM hV hR (k := i) (hk)) mfX4_hourOf cf_5 wi_X4_hourOf wsl_X4_hourOf wm_X4_148 dX4_holder_36 (Nat.le_of_ble_eq_true rfl) rfl (by decide) (n2 (hM 20 rfl)) rfl (fun _ => Nat.le_of_ble_eq_true rfl) (Nat.le_of_ble_eq_true rfl) (Nat.le_of_ble_eq_true rfl) rfl rfl ?_
            refine g_aload_n 0 dX4_holder_39 rfl rfl ?_
            refine g_iload_n 2 dX4_holder_40 rfl rfl ?_
            refine g_top (y := (((hldF (covC B x) (livC B) (fun k => B (100 + 3 * k) 5) i).toNat : Nat) : Int)) (by omega) ?_
            refine g_cV_i (My := mX4_hourOf) (gs := [_]) (c_X4_hourOf hM hV hR (k := (hldF (covC B x) (livC B) (fun k => B (100 + 3 * k) 5) i).toNat) (by omega)) mfX4_hourOf cf_5 wi_X4_hourOf wsl_X4_hourOf wm_X4_148 dX4_holder_41 (Nat.le_of_ble_eq_true rfl) rfl (by decide) (n2 (hM 20 rfl)) rfl (fun _ => Nat.le_of_ble_eq_true rfl) (Nat.le_of_ble_eq_true rfl) (Nat.le_of_ble_eq_true rfl) rfl rfl ?_
            have hi1 := (vc_cv hV hk).2.2.1; have hi2 := (vc_cv hV (show (((hldF (covC B x) (livC B) (fun k => B (100 + 3 * k) 5) i).toNat : Nat) : Int) < B 2 2 by omega)).2.2.1
            refine g_icmp_ge (tgt := 49) (by omega) (by omega) dX4_holder_44 (by decide) (fun h44_8 => ?_) (fun h44_8 => ?_)
            · skip
              refine g_inc (ls2 := [(3, _), (0, _), (1, _), (2, _)]) 3 dX4_holder_49 rfl (by decide) (c1_cr (c1_ci (c1_ci (c1_ci c1_0)))) rfl ?_
              refine g_goto (tgt := 4) dX4_holder_52 (by decide) ?_
              refine g_sub [1, 2, 3, 0] (ls2 := [(0, _), (1, _), (2, _), (3, _)]) rfl ?_
              exact g_ls (by simp only [hldF] at *; grind) rfl rfl ih4
            · skip
              refine g_iload_n 3 dX4_holder_47 rfl rfl ?_
              refine g_st (ls2 := [(2, _), (0, _), (1, _), (3, _)]) dX4_holder_48 rfl (by decide) (c1_cr (c1_ci (c1_ci (c1_ci c1_0)))) rfl ?_
              refine g_inc (ls2 := [(3, _), (2, _), (0, _), (1, _)]) 3 dX4_holder_49 rfl (by decide) (c1_ci (c1_cr (c1_ci (c1_ci c1_0)))) rfl ?_
              refine g_goto (tgt := 4) dX4_holder_52 (by decide) ?_
              refine g_sub [2, 3, 1, 0] (ls2 := [(0, _), (1, _), (2, _), (3, _)]) rfl ?_
              exact g_ls (by simp only [hldF] at *; grind) rfl rfl ih4
  exact g_ls (by rfl) rfl rfl hQ4

/-- the reference's ground as the class's -/
def vw (A : Mem) : Mem := fun n => if n = 12 then A 23 else if n = 16 then A 27 else fun _ => 0
def mxS (c : Int) (s : Nat) : Nat := if s = 0 then (c / 10).toNat else if s = 1 then (9 - c / 10).toNat else if s = 2 then (c % 10).toNat else (9 - c % 10).toNat
def stS (s : Nat) : Int := if s = 0 then -10 else if s = 1 then 10 else if s = 2 then -1 else 1
def itS (c : Int) (s i : Nat) : Int := if i ≤ mxS c s then c + i * stS s else -1
theorem itS_rg {c : Int} {s : Nat} (hc : 0 ≤ c ∧ c < 100) (hs : s = 0 ∨ s = 1 ∨ s = 2 ∨ s = 3) {i : Nat} (hi : i ≤ mxS c s) : 0 ≤ itS c s i ∧ itS c s i < 100 := by
  unfold itS; rw [if_pos hi]
  rcases hs with rfl | rfl | rfl | rfl <;> simp [mxS, stS] at * <;> omega
theorem itS_or {c : Int} {s : Nat} (hc : 0 ≤ c ∧ c < 100) (hs : s = 0 ∨ s = 1 ∨ s = 2 ∨ s = 3) (i : Nat) : itS c s i = -1 ∨ (0 ≤ itS c s i ∧ itS c s i < 100) := by
  by_cases hi : i ≤ mxS c s
  · exact Or.inr (itS_rg hc hs hi)
  · left; unfold itS; rw [if_neg hi]
theorem itS_nx {c : Int} {s : Nat} (hc : 0 ≤ c ∧ c < 100) (hs : s = 0 ∨ s = 1 ∨ s = 2 ∨ s = 3) {i : Nat} (hi : i ≤ mxS c s) : bsdF (itS c s i) s = itS c s (i + 1) := by
  unfold itS; rw [if_pos hi]
  rcases hs with rfl | rfl | rfl | rfl <;> simp [mxS, stS, bsdF] at * <;> (split <;> split <;> omega)
theorem itS_0 (c : Int) (s : Nat) : itS c s 0 = c := by unfold itS; rw [if_pos (Nat.zero_le _)]; simp
theorem loB_m1 (A : Mem) : loB A (-1) = false := by unfold loB; simp
theorem itS_e (A : Mem) (c : Int) (s : Nat) : loB A (itS c s (mxS c s + 1)) = false := by unfold itS; rw [if_neg (by omega), loB_m1]
theorem itS_v {c : Int} {s i : Nat} (hi : i < mxS c s) : itS c s (i + 1) = c + ((i : Int) + 1) * stS s := by unfold itS; rw [if_pos (by omega)]; simp
theorem mxS_le {c : Int} (hc : 0 ≤ c ∧ c < 100) (s : Nat) : mxS c s ≤ 9 := by unfold mxS; split <;> (try split) <;> (try split) <;> omega
theorem rlen_in {f : Nat → Bool} {n j : Nat} (h : j < rlen f n) : f j = true := by
  induction n generalizing f j with
  | zero => simp [rlen] at h
  | succ n ih =>
    unfold rlen at h
    split at h
    · cases j with
      | zero => assumption
      | succ j => exact ih (f := fun i => f (i + 1)) (by omega)
    · omega
theorem rlen_fin (f : Nat → Bool) (n : Nat) : rlen f n = n ∨ f (rlen f n) = false := by
  induction n generalizing f with
  | zero => left; rfl
  | succ n ih =>
    unfold rlen
    split
    · rcases ih (fun i => f (i + 1)) with h | h
      · left; omega
      · right; exact h
    · right; simpa using ‹¬ f 0 = true›
theorem lbS_in {V : Mem} {c : Int} {s i : Nat} (h : loB V c = true) (hi : i < lbC V c (stS s) (mxS c s) + 1) : loB V (itS c s i) = true := by
  cases i with
  | zero => rw [itS_0]; exact h
  | succ j =>
    have h1 : j < lbC V c (stS s) (mxS c s) := by omega
    have h2 := lbC_le V c (stS s) (mxS c s)
    rw [itS_v (by omega)]
    exact rlen_in h1
theorem lbS_end (V : Mem) (c : Int) (s : Nat) : loB V (itS c s (lbC V c (stS s) (mxS c s) + 1)) = false := by
  have h2 := lbC_le V c (stS s) (mxS c s)
  rcases Nat.lt_or_ge (lbC V c (stS s) (mxS c s)) (mxS c s) with h | h
  · rw [itS_v h]
    rcases rlen_fin (fun i => loB V (c + ((i : Int) + 1) * stS s)) (mxS c s) with h3 | h3
    · have : lbC V c (stS s) (mxS c s) = mxS c s := h3
      omega
    · exact h3
  · rw [show lbC V c (stS s) (mxS c s) = mxS c s by omega]; exact itS_e V c s

set_option maxRecDepth 20000 in
theorem c_X4_isLoose_w {L : Nat → Nat} {A : Mem} (hM : LM L) (h27 : ∀ c, 0 ≤ A 27 c ∧ A 27 c ≤ 1) {c : Int} (hc : c = -1 ∨ (0 ≤ c ∧ c < 100)) : Ct mX4_isLoose [gr 20, gi c] L A (pr (some (gi (b2 (loB (vw A) c)))) L A) := by
  have h27c := h27 c.toNat
  refine Ct_of (ls := [(0, _), (1, _)]) rfl (by decide) (fun _ => rfl) (fun _ => Nat.le_of_ble_eq_true rfl) ?_
  refine g_iload_n 1 dX4_isLoose_0 rfl rfl ?_
  refine g_iconst dX4_isLoose_1 ?_
  refine g_icmp_eq (tgt := 28) (by omega) (by omega) dX4_isLoose_2 (by decide) (fun h2_1 => ?_) (fun h2_1 => ?_)
  · skip
    refine g_iconst dX4_isLoose_28 ?_
    exact g_zret dX4_isLoose_29 rfl (Or.inl rfl) (Nat.le_of_ble_eq_true rfl) (Nat.le_of_ble_eq_true rfl) (pr_i (b2_0 (by unfold loB vw; grind)) (rfl))
  · skip
    refine g_aload_n 0 dX4_isLoose_5 rfl rfl ?_
    refine g_getfr2 (r := 23) cf_5 2 rfl (by decide) (by decide) rfl (by decide) wf_X4_7 dX4_isLoose_6 (hM 20 rfl) rfl ?_
    refine g_iload_n 1 dX4_isLoose_9 rfl rfl ?_
    refine g_ia (by omega) (by omega) rfl (by decide) dX4_isLoose_10 (n2 (hM 23 rfl)) (fun h10_2 => ?_)
    refine g_iconst dX4_isLoose_11 ?_
    refine g_icmp_ne (tgt := 28) (by omega) (by omega) dX4_isLoose_12 (by decide) (fun h12_3 => ?_) (fun h12_3 => ?_)
    · skip
      refine g_iconst dX4_isLoose_28 ?_
      exact g_zret dX4_isLoose_29 rfl (Or.inl rfl) (Nat.le_of_ble_eq_true rfl) (Nat.le_of_ble_eq_true rfl) (pr_i (b2_0 (by unfold loB vw; grind)) (rfl))
    · skip
      refine g_aload_n 0 dX4_isLoose_15 rfl rfl ?_
      refine g_getfr2 (r := 27) cf_5 6 rfl (by decide) (by decide) rfl (by decide) wf_X4_23 dX4_isLoose_16 (hM 20 rfl) rfl ?_
      refine g_iload_n 1 dX4_isLoose_19 rfl rfl ?_
      refine g_za (by omega) (by omega) rfl (by decide) dX4_isLoose_20 (n2 (hM 27 rfl)) (fun h20_4 => ?_)
      refine g_if_ne (tgt := 28) (by omega) dX4_isLoose_21 (by decide) (fun h21_5 => ?_) (fun h21_5 => ?_)
      · skip
        refine g_iconst dX4_isLoose_28 ?_
        exact g_zret dX4_isLoose_29 rfl (Or.inl rfl) (Nat.le_of_ble_eq_true rfl) (Nat.le_of_ble_eq_true rfl) (pr_i (b2_0 (by unfold loB vw; grind)) (rfl))
      · skip
        refine g_iconst dX4_isLoose_24 ?_
        refine g_goto (tgt := 29) dX4_isLoose_25 (by decide) ?_
        exact g_zret dX4_isLoose_29 rfl (Or.inr rfl) (Nat.le_of_ble_eq_true rfl) (Nat.le_of_ble_eq_true rfl) (pr_i (b2_1 (by unfold loB vw; grind)) (rfl))

set_option maxHeartbeats 1000000 in
set_option maxRecDepth 20000 in
theorem c_X4_run {L : Nat → Nat} {A : Mem} (hM : LM L) (h27 : ∀ c, 0 ≤ A 27 c ∧ A 27 c ≤ 1) {c : Int} (hc : 0 ≤ c ∧ c < 100) {s : Nat} (hs : s = 0 ∨ s = 2) : Ct mX4_run [gr 20, gi c, gi (s : Int)] L A (pr (some (gi ((lbC (vw A) c (stS s) (mxS c s) : Int) + 1 + (lbC (vw A) c (stS (s + 1)) (mxS c (s + 1)) : Int)))) L A) := by
  have hs1 : s = 0 ∨ s = 1 ∨ s = 2 ∨ s = 3 := by omega
  have hs2 : s + 1 = 0 ∨ s + 1 = 1 ∨ s + 1 = 2 ∨ s + 1 = 3 := by omega
  refine Ct_of (ls := [(0, _), (1, _), (2, _)]) rfl (by decide) (fun _ => rfl) (fun _ => Nat.le_of_ble_eq_true rfl) ?_
  refine g_iconst dX4_run_0 ?_
  refine g_st (ls2 := [(3, _), (0, _), (1, _), (2, _)]) dX4_run_1 rfl (by decide) (c1_cr (c1_ci (c1_ci c1_0))) rfl ?_
  refine g_iload_n 2 dX4_run_2 rfl rfl ?_
  refine g_iload_n 3 dX4_run_3 rfl rfl ?_
  refine g_cS_i (My := mX4_beside) (gs := [_, _]) (c_X4_beside hc hs1) mfX4_beside rfl wst_X4_beside wm_X4_158 dX4_run_4 (Nat.le_of_ble_eq_true rfl) rfl (fun _ => Nat.le_of_ble_eq_true rfl) (Nat.le_of_ble_eq_true rfl) (Nat.le_of_ble_eq_true rfl) rfl rfl ?_
  refine g_top (y := itS c s (0 + 1)) (by rw [← itS_nx hc hs1 (Nat.zero_le _), itS_0]) ?_
  refine g_st2 (ls2 := [(4, _), (3, _), (0, _), (1, _), (2, _)]) dX4_run_7 (by decide) (c1_ci (c1_cr (c1_ci (c1_ci c1_0)))) rfl ?_
  refine g_sub [2, 3, 4, 1, 0] (ls2 := [(0, _), (1, _), (2, _), (3, _), (4, _)]) rfl ?_
  have hC32 : GW mX4_run (pr (some (gi ((lbC (vw A) c (stS s) (mxS c s) : Int) + 1 + (lbC (vw A) c (stS (s + 1)) (mxS c (s + 1)) : Int)))) L A) 0 0 32 [(0, gr (20)), (1, gi (c)), (2, gi ((s : Int))), (3, gi ((lbC (vw A) c (stS s) (mxS c s) : Int) + 1))] [] L (A) := by
    refine g_iload_n 1 dX4_run_32 rfl rfl ?_
    refine g_iload_n 2 dX4_run_33 rfl rfl ?_
    refine g_iconst dX4_run_34 ?_
    refine g_iadd dX4_run_35 ?_
    refine g_top (y := ((s + 1 : Nat) : Int)) (by omega) ?_
    refine g_cS_i (My := mX4_beside) (gs := [_, _]) (c_X4_beside hc hs2) mfX4_beside rfl wst_X4_beside wm_X4_158 dX4_run_36 (Nat.le_of_ble_eq_true rfl) rfl (fun _ => Nat.le_of_ble_eq_true rfl) (Nat.le_of_ble_eq_true rfl) (Nat.le_of_ble_eq_true rfl) rfl rfl ?_
    refine g_top (y := itS c (s + 1) (0 + 1)) (by rw [← itS_nx hc hs2 (Nat.zero_le _), itS_0]) ?_
    refine g_st2 (ls2 := [(4, _), (0, _), (1, _), (2, _), (3, _)]) dX4_run_39 (by decide) (c1_cr (c1_ci (c1_ci (c1_ci c1_0)))) rfl ?_
    refine g_sub [1, 2, 3, 4, 0] (ls2 := [(0, _), (1, _), (2, _), (3, _), (4, _)]) rfl ?_
    have hQ41 : (fun i : Nat => (∀ q, q < i → loB (vw A) (c + ((q : Int) + 1) * stS (s + 1)) = true) → GW mX4_run (pr (some (gi ((lbC (vw A) c (stS s) (mxS c s) : Int) + 1 + (lbC (vw A) c (stS (s + 1)) (mxS c (s + 1)) : Int)))) L A) 0 0 41 [(0, gr (20)), (1, gi (c)), (2, gi ((s : Int))), (3, gi ((lbC (vw A) c (stS s) (mxS c s) : Int) + 1 + (i : Int))), (4, gi (itS c (s + 1) (i + 1)))] [] L (A)) 0 := by
      refine lp_up (Q := (fun i : Nat => (∀ q, q < i → loB (vw A) (c + ((q : Int) + 1) * stS (s + 1)) = true) → GW mX4_run (pr (some (gi ((lbC (vw A) c (stS s) (mxS c s) : Int) + 1 + (lbC (vw A) c (stS (s + 1)) (mxS c (s + 1)) : Int)))) L A) 0 0 41 [(0, gr (20)), (1, gi (c)), (2, gi ((s : Int))), (3, gi ((lbC (vw A) c (stS s) (mxS c s) : Int) + 1 + (i : Int))), (4, gi (itS c (s + 1) (i + 1)))] [] L (A))) (n := mxS c (s + 1)) ?_ (fun i hi41 ih41 => ?_)
      · skip
        intro hall
        refine g_aload_n 0 dX4_run_41 rfl rfl ?_
        refine g_iload 4 dX4_run_42 rfl ?_
        refine g_cV_i (My := mX4_isLoose) (gs := [_]) (c_X4_isLoose_w hM h27 (itS_or hc hs2 _)) mfX4_isLoose cf_5 wi_X4_isLoose wsl_X4_isLoose wm_X4_161 dX4_run_44 (Nat.le_of_ble_eq_true rfl) rfl (by decide) (n2 (hM 20 rfl)) rfl (fun _ => Nat.le_of_ble_eq_true rfl) (Nat.le_of_ble_eq_true rfl) (Nat.le_of_ble_eq_true rfl) rfl rfl ?_
        refine g_ifb_eq (tgt := 66) dX4_run_47 (by decide) (fun h47_1 => ?_) (fun h47_1 => absurd h47_1 (by rw [itS_e]; decide))
        refine g_iload_n 3 dX4_run_66 rfl rfl ?_
        exact g_iret dX4_run_67 rfl (Nat.le_of_ble_eq_true rfl) (Nat.le_of_ble_eq_true rfl) (pr_i (by first | rw [show lbC (vw A) c (stS (s + 1)) (mxS c (s + 1)) = mxS c (s + 1) from rlen_eq (Nat.le_refl _) hall (Or.inl rfl)] | rw [show lbC (vw A) c (stS (s + 1)) (mxS c (s + 1)) = i from rlen_eq (Nat.le_of_lt hi41) hall (Or.inr (by rw [← itS_v hi41]; assumption))]) (rfl))
      · skip
        intro hall
        refine g_aload_n 0 dX4_run_41 rfl rfl ?_
        refine g_iload 4 dX4_run_42 rfl ?_
        refine g_cV_i (My := mX4_isLoose) (gs := [_]) (c_X4_isLoose_w hM h27 (itS_or hc hs2 _)) mfX4_isLoose cf_5 wi_X4_isLoose wsl_X4_isLoose wm_X4_161 dX4_run_44 (Nat.le_of_ble_eq_true rfl) rfl (by decide) (n2 (hM 20 rfl)) rfl (fun _ => Nat.le_of_ble_eq_true rfl) (Nat.le_of_ble_eq_true rfl) (Nat.le_of_ble_eq_true rfl) rfl rfl ?_
        refine g_ifb_eq (tgt := 66) dX4_run_47 (by decide) (fun h47_2 => ?_) (fun h47_2 => ?_)
        · skip
          refine g_iload_n 3 dX4_run_66 rfl rfl ?_
          exact g_iret dX4_run_67 rfl (Nat.le_of_ble_eq_true rfl) (Nat.le_of_ble_eq_true rfl) (pr_i (by first | rw [show lbC (vw A) c (stS (s + 1)) (mxS c (s + 1)) = mxS c (s + 1) from rlen_eq (Nat.le_refl _) hall (Or.inl rfl)] | rw [show lbC (vw A) c (stS (s + 1)) (mxS c (s + 1)) = i from rlen_eq (Nat.le_of_lt hi41) hall (Or.inr (by rw [← itS_v hi41]; assumption))]) (rfl))
        · skip
          refine g_inc (ls2 := [(3, _), (0, _), (1, _), (2, _), (4, _)]) 3 dX4_run_50 rfl (by decide) (c1_cr (c1_ci (c1_ci (c1_ci (c1_ci c1_0))))) rfl ?_
          refine g_iload 4 dX4_run_53 rfl ?_
          refine g_iload_n 3 dX4_run_55 rfl rfl ?_
          refine g_iconst dX4_run_56 ?_
          refine g_iadd dX4_run_57 ?_
          refine g_top (y := ((s + 1 : Nat) : Int)) (by omega) ?_
          refine g_cS_i (My := mX4_beside) (gs := [_, _]) (c_X4_beside (itS_rg hc hs2 (hi41)) hs2) mfX4_beside rfl wst_X4_beside wm_X4_158 dX4_run_58 (Nat.le_of_ble_eq_true rfl) rfl (fun _ => Nat.le_of_ble_eq_true rfl) (Nat.le_of_ble_eq_true rfl) (Nat.le_of_ble_eq_true rfl) rfl rfl ?_
          refine g_top (y := itS c (s + 1) (i + 1 + 1)) (itS_nx hc hs2 hi41) ?_
          refine g_st2 (ls2 := [(4, _), (3, _), (0, _), (1, _), (2, _)]) dX4_run_61 (by decide) (c1_ci (c1_cr (c1_ci (c1_ci (c1_ci c1_0))))) rfl ?_
          refine g_goto (tgt := 41) dX4_run_63 (by decide) ?_
          refine g_sub [2, 3, 4, 1, 0] (ls2 := [(0, _), (1, _), (2, _), (3, _), (4, _)]) rfl ?_
          exact g_ls (by simp [Int.add_assoc]) rfl rfl (ih41 (fun q hq => by rcases Nat.lt_or_ge q i with h9 | h9; exact hall q h9; rw [show q = i by omega, ← itS_v (by omega)]; assumption))
    exact g_ls (by simp) rfl rfl (hQ41 (fun q hq => absurd hq (by omega)))
  have hQ9 : (fun i : Nat => (∀ q, q < i → loB (vw A) (c + ((q : Int) + 1) * stS (s)) = true) → GW mX4_run (pr (some (gi ((lbC (vw A) c (stS s) (mxS c s) : Int) + 1 + (lbC (vw A) c (stS (s + 1)) (mxS c (s + 1)) : Int)))) L A) 0 0 9 [(0, gr (20)), (1, gi (c)), (2, gi ((s : Int))), (3, gi ((i : Int) + 1)), (4, gi (itS c s (i + 1)))] [] L (A)) 0 := by
    refine lp_up (Q := (fun i : Nat => (∀ q, q < i → loB (vw A) (c + ((q : Int) + 1) * stS (s)) = true) → GW mX4_run (pr (some (gi ((lbC (vw A) c (stS s) (mxS c s) : Int) + 1 + (lbC (vw A) c (stS (s + 1)) (mxS c (s + 1)) : Int)))) L A) 0 0 9 [(0, gr (20)), (1, gi (c)), (2, gi ((s : Int))), (3, gi ((i : Int) + 1)), (4, gi (itS c s (i + 1)))] [] L (A))) (n := mxS c s) ?_ (fun i hi9 ih9 => ?_)
    · skip
      intro hall
      refine g_aload_n 0 dX4_run_9 rfl rfl ?_
      refine g_iload 4 dX4_run_10 rfl ?_
      refine g_cV_i (My := mX4_isLoose) (gs := [_]) (c_X4_isLoose_w hM h27 (itS_or hc hs1 _)) mfX4_isLoose cf_5 wi_X4_isLoose wsl_X4_isLoose wm_X4_161 dX4_run_12 (Nat.le_of_ble_eq_true rfl) rfl (by decide) (n2 (hM 20 rfl)) rfl (fun _ => Nat.le_of_ble_eq_true rfl) (Nat.le_of_ble_eq_true rfl) (Nat.le_of_ble_eq_true rfl) rfl rfl ?_
      refine g_ifb_eq (tgt := 32) dX4_run_15 (by decide) (fun h15_3 => ?_) (fun h15_3 => absurd h15_3 (by rw [itS_e]; decide))
      refine g_sub [0, 1, 2, 3] (ls2 := [(0, _), (1, _), (2, _), (3, _)]) rfl ?_
      first | exact g_ls (by rw [show lbC (vw A) c (stS s) (mxS c s) = mxS c s from rlen_eq (Nat.le_refl _) hall (Or.inl rfl)]) rfl rfl hC32 | exact g_ls (by rw [show lbC (vw A) c (stS s) (mxS c s) = i from rlen_eq (Nat.le_of_lt hi9) hall (Or.inr (by rw [← itS_v hi9]; assumption))]) rfl rfl hC32
    · skip
      intro hall
      refine g_aload_n 0 dX4_run_9 rfl rfl ?_
      refine g_iload 4 dX4_run_10 rfl ?_
      refine g_cV_i (My := mX4_isLoose) (gs := [_]) (c_X4_isLoose_w hM h27 (itS_or hc hs1 _)) mfX4_isLoose cf_5 wi_X4_isLoose wsl_X4_isLoose wm_X4_161 dX4_run_12 (Nat.le_of_ble_eq_true rfl) rfl (by decide) (n2 (hM 20 rfl)) rfl (fun _ => Nat.le_of_ble_eq_true rfl) (Nat.le_of_ble_eq_true rfl) (Nat.le_of_ble_eq_true rfl) rfl rfl ?_
      refine g_ifb_eq (tgt := 32) dX4_run_15 (by decide) (fun h15_4 => ?_) (fun h15_4 => ?_)
      · skip
        refine g_sub [0, 1, 2, 3] (ls2 := [(0, _), (1, _), (2, _), (3, _)]) rfl ?_
        first | exact g_ls (by rw [show lbC (vw A) c (stS s) (mxS c s) = mxS c s from rlen_eq (Nat.le_refl _) hall (Or.inl rfl)]) rfl rfl hC32 | exact g_ls (by rw [show lbC (vw A) c (stS s) (mxS c s) = i from rlen_eq (Nat.le_of_lt hi9) hall (Or.inr (by rw [← itS_v hi9]; assumption))]) rfl rfl hC32
      · skip
        refine g_inc (ls2 := [(3, _), (0, _), (1, _), (2, _), (4, _)]) 3 dX4_run_18 rfl (by decide) (c1_cr (c1_ci (c1_ci (c1_ci (c1_ci c1_0))))) rfl ?_
        refine g_iload 4 dX4_run_21 rfl ?_
        refine g_iload_n 3 dX4_run_23 rfl rfl ?_
        refine g_cS_i (My := mX4_beside) (gs := [_, _]) (c_X4_beside (itS_rg hc hs1 (hi9)) hs1) mfX4_beside rfl wst_X4_beside wm_X4_158 dX4_run_24 (Nat.le_of_ble_eq_true rfl) rfl (fun _ => Nat.le_of_ble_eq_true rfl) (Nat.le_of_ble_eq_true rfl) (Nat.le_of_ble_eq_true rfl) rfl rfl ?_
        refine g_top (y := itS c s (i + 1 + 1)) (itS_nx hc hs1 hi9) ?_
        refine g_st2 (ls2 := [(4, _), (3, _), (0, _), (1, _), (2, _)]) dX4_run_27 (by decide) (c1_ci (c1_cr (c1_ci (c1_ci (c1_ci c1_0))))) rfl ?_
        refine g_goto (tgt := 9) dX4_run_29 (by decide) ?_
        refine g_sub [2, 3, 4, 1, 0] (ls2 := [(0, _), (1, _), (2, _), (3, _), (4, _)]) rfl ?_
        exact g_ls (by simp) rfl rfl (ih9 (fun q hq => by rcases Nat.lt_or_ge q i with h9 | h9; exact hall q h9; rw [show q = i by omega, ← itS_v (by omega)]; assumption))
  exact g_ls (by rfl) rfl rfl (hQ9 (fun q hq => absurd hq (by omega)))

theorem c_X4_run0 {L : Nat → Nat} {A : Mem} (hM : LM L) (h27 : ∀ c, 0 ≤ A 27 c ∧ A 27 c ≤ 1) {c : Int} (hc : 0 ≤ c ∧ c < 100) : Ct mX4_run [gr 20, gi c, gi 0] L A (pr (some (gi (colC (vw A) c))) L A) := c_X4_run hM h27 hc (s := 0) (Or.inl rfl)
theorem c_X4_run2 {L : Nat → Nat} {A : Mem} (hM : LM L) (h27 : ∀ c, 0 ≤ A 27 c ∧ A 27 c ≤ 1) {c : Int} (hc : 0 ≤ c ∧ c < 100) : Ct mX4_run [gr 20, gi c, gi 2] L A (pr (some (gi (rowC (vw A) c))) L A) := c_X4_run hM h27 hc (s := 2) (Or.inr rfl)
theorem rc_rg (A : Mem) {c : Int} (hc : 0 ≤ c ∧ c < 100) : 1 ≤ rowC A c ∧ rowC A c ≤ 20 ∧ 1 ≤ colC A c ∧ colC A c ≤ 20 := by
  have hr1 := lbC_le A c (-1) (c % 10).toNat; have hr2 := lbC_le A c 1 (9 - c % 10).toNat; have hr3 := lbC_le A c (-10) (c / 10).toNat; have hr4 := lbC_le A c 10 (9 - c / 10).toNat
  unfold rowC colC; omega

set_option maxRecDepth 20000 in
theorem c_X4_isFall {L : Nat → Nat} {A : Mem} (hM : LM L) (h27 : ∀ c, 0 ≤ A 27 c ∧ A 27 c ≤ 1) {c : Int} (hc : 0 ≤ c ∧ c < 100) : Ct mX4_isFall [gr 20, gi c] L A (pr (some (gi (b2 (decide (3 < colC (vw A) c ∨ 3 < rowC (vw A) c))))) L A) := by
  have hrc := rc_rg (vw A) hc
  refine Ct_of (ls := [(0, _), (1, _)]) rfl (by decide) (fun _ => rfl) (fun _ => Nat.le_of_ble_eq_true rfl) ?_
  refine g_aload_n 0 dX4_isFall_0 rfl rfl ?_
  refine g_iload_n 1 dX4_isFall_1 rfl rfl ?_
  refine g_iconst dX4_isFall_2 ?_
  refine g_cV_i (My := mX4_run) (gs := [_, _]) (c_X4_run0 hM h27 hc) mfX4_run cf_5 wi_X4_run wsl_X4_run wm_X4_164 dX4_isFall_3 (Nat.le_of_ble_eq_true rfl) rfl (by decide) (n2 (hM 20 rfl)) rfl (fun _ => Nat.le_of_ble_eq_true rfl) (Nat.le_of_ble_eq_true rfl) (Nat.le_of_ble_eq_true rfl) rfl rfl ?_
  refine g_iconst dX4_isFall_6 ?_
  refine g_icmp_gt (tgt := 20) (by omega) (by omega) dX4_isFall_7 (by decide) (fun h7_1 => ?_) (fun h7_1 => ?_)
  · skip
    refine g_iconst dX4_isFall_20 ?_
    refine g_goto (tgt := 25) dX4_isFall_21 (by decide) ?_
    exact g_zret dX4_isFall_25 rfl (Or.inr rfl) (Nat.le_of_ble_eq_true rfl) (Nat.le_of_ble_eq_true rfl) (pr_i (b2_1 (by grind)) (rfl))
  · skip
    refine g_aload_n 0 dX4_isFall_10 rfl rfl ?_
    refine g_iload_n 1 dX4_isFall_11 rfl rfl ?_
    refine g_iconst dX4_isFall_12 ?_
    refine g_cV_i (My := mX4_run) (gs := [_, _]) (c_X4_run2 hM h27 hc) mfX4_run cf_5 wi_X4_run wsl_X4_run wm_X4_164 dX4_isFall_13 (Nat.le_of_ble_eq_true rfl) rfl (by decide) (n2 (hM 20 rfl)) rfl (fun _ => Nat.le_of_ble_eq_true rfl) (Nat.le_of_ble_eq_true rfl) (Nat.le_of_ble_eq_true rfl) rfl rfl ?_
    refine g_iconst dX4_isFall_16 ?_
    refine g_icmp_le (tgt := 24) (by omega) (by omega) dX4_isFall_17 (by decide) (fun h17_2 => ?_) (fun h17_2 => ?_)
    · skip
      refine g_iconst dX4_isFall_24 ?_
      exact g_zret dX4_isFall_25 rfl (Or.inl rfl) (Nat.le_of_ble_eq_true rfl) (Nat.le_of_ble_eq_true rfl) (pr_i (b2_0 (by grind)) (rfl))
    · skip
      refine g_iconst dX4_isFall_20 ?_
      refine g_goto (tgt := 25) dX4_isFall_21 (by decide) ?_
      exact g_zret dX4_isFall_25 rfl (Or.inr rfl) (Nat.le_of_ble_eq_true rfl) (Nat.le_of_ble_eq_true rfl) (pr_i (b2_1 (by grind)) (rfl))

