/-- a claim is worked, a cell's trap is cleared -/
def workC (A : Mem) (k : Nat) (c : Int) : Mem := gup (gup A (100 + 3 * k) 6 (A 0 9)) 17 c.toNat (-1)
def shaC (A : Mem) (k : Nat) : Mem := gup A (100 + 3 * k) 7 (A (100 + 3 * k) 7 + 1)
theorem workC_ne {A : Mem} {k : Nat} {c : Int} {n : Nat} (h : n ≠ 17) (h2 : n ≠ 100 + 3 * k) : workC A k c n = A n := by unfold workC; rw [gup_ne h, gup_ne h2]
theorem shaC_ne {A : Mem} {k n : Nat} (h2 : n ≠ 100 + 3 * k) : shaC A k n = A n := by unfold shaC; rw [gup_ne h2]
theorem vc_work {L : Nat → Nat} {A : Mem} {k : Nat} {c : Int} (hV : VC L A) (hk : (k : Int) < A 2 2) : VC L (workC A k c) := by
  have h1 : VC L (gup A (100 + 3 * k) 6 (A 0 9)) := by
    refine vc_claim hV hk (fun n q1 _ _ => gup_ne q1) ?_
    obtain ⟨v1, v2, v3, v4, v5, v6, v7⟩ := vc_cv hV hk
    have hp := (vc_p hV).1
    have e0 : ∀ j, j ≠ 6 → gup A (100 + 3 * k) 6 (A 0 9) (100 + 3 * k) j = A (100 + 3 * k) j := fun j hj => by rw [gup_ap, if_neg (by omega)]
    have e6 : gup A (100 + 3 * k) 6 (A 0 9) (100 + 3 * k) 6 = A 0 9 := by rw [gup_ap, if_pos ⟨rfl, rfl⟩]
    have e1 : gup A (100 + 3 * k) 6 (A 0 9) (101 + 3 * k) = A (101 + 3 * k) := gup_ne (by omega)
    have e2 : gup A (100 + 3 * k) 6 (A 0 9) (102 + 3 * k) = A (102 + 3 * k) := gup_ne (by omega)
    unfold CV
    rw [e1, e2, e6, e0 0 (by omega), e0 1 (by omega), e0 2 (by omega), e0 3 (by omega), e0 4 (by omega), e0 5 (by omega), e0 7 (by omega)]
    exact ⟨v1, v2, v3, hp, v5, v6, v7⟩
  unfold workC
  refine vc_low h1 (fun n q => gup_ne (by omega)) ?_ (PVd_cg (gup_ne (by omega)) (fun n _ _ => gup_ne (by omega)) (vc_p h1))
  obtain ⟨g1, g2, g3, g4, g5, g6⟩ := vc_g h1
  refine ⟨fun j => ?_, fun j => ?_, fun j => ?_, fun j => ?_, fun j => ?_, fun j => ?_⟩
  · rw [gup_ne (by omega)]; exact g1 j
  · rw [gup_ne (by omega)]; exact g2 j
  · rw [gup_ne (by omega)]; exact g3 j
  · rw [gup_ne (by omega)]; exact g4 j
  · rw [gup_ne (by omega)]; exact g5 j
  · rw [gup_ap]; have := g6 j; split <;> omega
theorem vc_sha {L : Nat → Nat} {A : Mem} {k : Nat} (hV : VC L A) (hk : (k : Int) < A 2 2) (h2 : ¬ 2 ≤ A (100 + 3 * k) 7) : VC L (shaC A k) := by
  refine vc_claim hV hk (fun n q1 _ _ => gup_ne q1) ?_
  obtain ⟨v1, v2, v3, v4, v5, v6, v7⟩ := vc_cv hV hk
  have e0 : ∀ j, j ≠ 7 → shaC A k (100 + 3 * k) j = A (100 + 3 * k) j := fun j hj => by unfold shaC; rw [gup_ap, if_neg (by omega)]
  have e7 : shaC A k (100 + 3 * k) 7 = A (100 + 3 * k) 7 + 1 := by unfold shaC; rw [gup_ap, if_pos ⟨rfl, rfl⟩]
  have e1 : shaC A k (101 + 3 * k) = A (101 + 3 * k) := shaC_ne (by omega)
  have e2 : shaC A k (102 + 3 * k) = A (102 + 3 * k) := shaC_ne (by omega)
  unfold CV
  rw [e1, e2, e7, e0 0 (by omega), e0 1 (by omega), e0 2 (by omega), e0 3 (by omega), e0 4 (by omega), e0 5 (by omega), e0 6 (by omega)]
  exact ⟨v1, v2, v3, v4, by omega, v6, v7⟩
theorem xc_work {L : Nat → Nat} {A : Mem} {k : Nat} {c : Int} (hV : VC L A) (hX : XC L A) (hk : (k : Int) < A 2 2) : XC L (workC A k c) := by
  have := vc_nc hV
  exact xc_cg hX (fun n q => workC_ne (by omega) (by omega)) (fun n q => workC_ne (by omega) (by omega))
theorem xc_sha {L : Nat → Nat} {A : Mem} {k : Nat} (hV : VC L A) (hX : XC L A) (hk : (k : Int) < A 2 2) : XC L (shaC A k) := by
  have := vc_nc hV
  exact xc_cg hX (fun n q => shaC_ne (by omega)) (fun n q => shaC_ne (by omega))
def ratC (A : Mem) (p c : Int) : Mem := if A 17 c.toNat = -1 then uncA A c (-1) p else gup (gup (gup A 17 c.toNat (-1)) 7 p.toNat (A 0 9 + 168)) 8 p.toNat (A 8 p.toNat + 1)

set_option maxHeartbeats 2000000 in
set_option maxRecDepth 20000 in
theorem c_X3_work {L : Nat → Nat} {A : Mem} (hV : VC L A) (hX : XC L A) {k : Nat} {c : Int} (hk : (k : Int) < A 2 2) (hc : 0 ≤ c ∧ c < 100) (hs9 : 0 < A 14 c.toNat → A 3 2 ≤ 99) : Ct mX3_work [gr 0, gr (100 + 3 * k), gi k, gi c] L A (pr (some (gi (A 14 c.toNat))) (uncL L A c) (uncA (workC A k c) c k (-1))) := by
  have hL := vc_L hV
  have hnc := vc_nc hV; have hns := vc_ns hV; have hp0 := (vc_p hV).1
  have hk12 := vc_k hV hk
  have hV1 : VC L (workC A k c) := vc_work hV hk
  have hX1 : XC L (workC A k c) := xc_work hV hX hk
  have hs1 : 0 < workC A k c 14 c.toNat → workC A k c 3 2 ≤ 99 := by rw [workC_ne (by omega) (by omega), workC_ne (by omega) (by omega)]; exact hs9
  refine Ct_of (ls := [(0, _), (1, _), (2, _), (3, _)]) rfl (by decide) (fun _ => rfl) (fun _ => Nat.le_of_ble_eq_true rfl) ?_
  refine g_aload_n 1 dX3_work_0 rfl rfl ?_
  refine g_aload_n 0 dX3_work_1 rfl rfl ?_
  refine g_getfi cf_4 9 rfl (by decide) (by decide) rfl (by decide) wf_X3_80 dX3_work_2 (n2 (hL 0 rfl)) (fun h2_1 => ?_)
  refine g_putfi cf_1 6 (ly_c0 (vc_k hV hk)) (by decide) (by decide) rfl (by decide) wf_X3_375 (Or.inl rfl) rfl dX3_work_5 (n2 (vc_c hV hk).1) (by omega) ?_
  refine g_aload_n 0 dX3_work_8 rfl rfl ?_
  refine g_getfr2 (r := 1) cf_4 0 rfl (by decide) (by decide) rfl (by decide) wf_X3_12 dX3_work_9 (hL 0 rfl) rfl ?_
  refine g_getfr2 (r := 17) cf_2 5 rfl (by decide) (by decide) rfl (by decide) wf_X3_172 dX3_work_12 (hL 1 rfl) rfl ?_
  refine g_iload_n 3 dX3_work_15 rfl rfl ?_
  refine g_iconst dX3_work_16 ?_
  refine g_is (by omega) (by omega) (by omega) rfl (by decide) dX3_work_17 (n2 (hL 17 rfl)) ?_
  refine g_aload_n 0 dX3_work_18 rfl rfl ?_
  refine g_iload_n 3 dX3_work_19 rfl rfl ?_
  refine g_iload_n 2 dX3_work_20 rfl rfl ?_
  refine g_iconst dX3_work_21 ?_
  refine g_cVB_i (My := mX3_uncover) (gs := [_, _, _]) (c_X3_uncover (A := workC A k c) (w := (k : Int)) (p := -1) hV1 hX1 hc (by omega) (by omega) hs1) mfX3_uncover cf_4 wi_X3_uncover wsl_X3_uncover wm_X3_194 dX3_work_22 (Nat.le_of_ble_eq_true rfl) rfl (by decide) (n2 (hL 0 rfl)) rfl (fun _ => Nat.le_of_ble_eq_true rfl) (Nat.le_of_ble_eq_true rfl) (Nat.le_of_ble_eq_true rfl) rfl ⟨(by simp only [List.forall_mem_cons]; exact ⟨okv_r (n2 (hL 0 rfl)) (by decide), okv_r (n2 (vc_c hV hk).1) (by rw [ly_c0 (vc_k hV hk)]; decide), okv_i _, okv_i _, fun _ h => absurd h List.not_mem_nil⟩), fun _ h => absurd h List.not_mem_nil⟩ rfl ?_
  exact g_iret dX3_work_25 rfl (Nat.le_of_ble_eq_true rfl) (Nat.le_of_ble_eq_true rfl) ⟨by rw [workC_ne (by omega) (by omega)], by unfold uncL; rw [workC_ne (by omega) (by omega), workC_ne (by omega) (by omega)], rfl⟩

set_option maxHeartbeats 2000000 in
set_option maxRecDepth 20000 in
theorem c_X3_dig {L : Nat → Nat} {A : Mem} (hV : VC L A) (hX : XC L A) (hI : IV A) {x p c : Int} (hx : -2147483648 ≤ x ∧ x < 2147483648) (hp : -2147483648 ≤ p ∧ p < 2147483648) (hc : -2147483648 ≤ c ∧ c < 2147483648) : Ct mX3_dig [gr 0, gi x, gi p, gi c] L A (exP [xIOE, xISE] (digE A x p c) (some (gi (A 14 c.toNat))) (uncL L A c) (uncA (workC A x.toNat c) c x (-1)) L A) := by
  have hL := vc_L hV
  have hnc := vc_nc hV; have hns := vc_ns hV; have hp0 := (vc_p hV).1
  refine Ct_of (ls := [(0, _), (1, _), (2, _), (3, _)]) rfl (by decide) (fun _ => rfl) (fun _ => Nat.le_of_ble_eq_true rfl) ?_
  refine g_aload_n 0 dX3_dig_0 rfl rfl ?_
  refine g_iload_n 1 dX3_dig_1 rfl rfl ?_
  refine g_iload_n 2 dX3_dig_2 rfl rfl ?_
  refine g_iload_n 3 dX3_dig_3 rfl rfl ?_
  by_cases hs4 : ahE A x p c = 0
  · skip
    have hs4z := hs4
    obtain ⟨k, rfl, hk, hp1, hc1, hk1, hk2, hk3⟩ := ahE_0 hs4
    refine g_cV_i (My := mX3_claimAtHand) (gs := [_, _, _]) (c_X3_claimAtHand hV hk hp1 hc1 hk1 hk2 hk3) mfX3_claimAtHand cf_4 wi_X3_claimAtHand wsl_X3_claimAtHand wm_X3_141 dX3_dig_4 (Nat.le_of_ble_eq_true rfl) rfl (by decide) (n2 (hL 0 rfl)) rfl (fun _ => Nat.le_of_ble_eq_true rfl) (Nat.le_of_ble_eq_true rfl) (Nat.le_of_ble_eq_true rfl) rfl rfl ?_
    refine g_sa2 (ls2 := [(4, _), (0, _), (1, _), (2, _), (3, _)]) dX3_dig_7 (by decide) (c1_cr (c1_ci (c1_ci (c1_ci c1_0)))) rfl ?_
    refine g_aload_n 1 dX3_dig_9 rfl rfl ?_
    refine g_getfr2 (r := 1) cf_4 0 rfl (by decide) (by decide) rfl (by decide) wf_X3_12 dX3_dig_10 (hL 0 rfl) rfl ?_
    refine g_iload_n 4 dX3_dig_13 rfl rfl ?_
    refine g_cV_i (My := mX1_canBeDug) (gs := [_]) (c_X1_canBeDug hL hc1) mfX1_canBeDug cf_2 wi_X1_canBeDug wsl_X1_canBeDug wm_X3_145 dX3_dig_14 (Nat.le_of_ble_eq_true rfl) rfl (by decide) (n2 (hL 1 rfl)) rfl (fun _ => Nat.le_of_ble_eq_true rfl) (Nat.le_of_ble_eq_true rfl) (Nat.le_of_ble_eq_true rfl) rfl rfl ?_
    refine g_ifb_ne (tgt := 30) dX3_dig_17 (by decide) (fun h17_1 => ?_) (fun h17_1 => ?_)
    · skip
      refine g_aload_n 1 dX3_dig_30 rfl rfl ?_
      refine g_aload 0 dX3_dig_31 rfl ?_
      refine g_iload_n 2 dX3_dig_33 rfl rfl ?_
      refine g_iload_n 4 dX3_dig_34 rfl rfl ?_
      refine g_cVB_i (My := mX3_work) (gs := [_, _, _]) (c_X3_work hV hX hk hc1 (fun h => by have := iv_room hI hc1 h; omega)) mfX3_work cf_4 wi_X3_work wsl_X3_work wm_X3_150 dX3_dig_35 (Nat.le_of_ble_eq_true rfl) rfl (by decide) (n2 (hL 0 rfl)) rfl (fun _ => Nat.le_of_ble_eq_true rfl) (Nat.le_of_ble_eq_true rfl) (Nat.le_of_ble_eq_true rfl) rfl ⟨(by simp only [List.forall_mem_cons]; exact ⟨okv_r (n2 (vc_c hV hk).1) (by rw [ly_c0 (vc_k hV hk)]; decide), okv_r (n2 (hL 0 rfl)) (by decide), okv_i _, okv_i _, okv_i _, fun _ h => absurd h List.not_mem_nil⟩), fun _ h => absurd h List.not_mem_nil⟩ rfl ?_
      exact g_iret dX3_dig_38 rfl (Nat.le_of_ble_eq_true rfl) (Nat.le_of_ble_eq_true rfl) (ex_ok (by unfold digE; grind) (congrArg (fun z => some (gi z)) (rfl)) rfl (rfl))
    · skip
      exact g_throw thX3_dig_20 (Nat.le_of_ble_eq_true rfl) (Nat.le_of_ble_eq_true rfl) (by decide) (ex_th 1 (by unfold digE; grind) rfl)
  · skip
    exact g_cV_t (My := mX3_claimAtHand_x) (gs := [_, _, _]) (c_X3_claimAtHand_p hV hx hp hc hs4) mfX3_claimAtHand_x cf_4 wi_X3_claimAtHand wsl_X3_claimAtHand wm_X3_141 dX3_dig_4 (Nat.le_of_ble_eq_true rfl) rfl (by decide) (n2 (hL 0 rfl)) rfl (fun _ => Nat.le_of_ble_eq_true rfl) (Nat.le_of_ble_eq_true rfl) (Nat.le_of_ble_eq_true rfl) rfl rfl rfl (by rcases ahE_012 A x p c with q | q | q; exact absurd q hs4; (rw [if_pos q]; exact ex_th 0 (by unfold digE; grind) rfl); (rw [if_neg (by omega)]; exact ex_th 1 (by unfold digE; grind) rfl))

set_option maxHeartbeats 2000000 in
set_option maxRecDepth 20000 in
theorem c_X3_sink {L : Nat → Nat} {A : Mem} (hV : VC L A) (hX : XC L A) (hI : IV A) {x p c : Int} (hx : -2147483648 ≤ x ∧ x < 2147483648) (hp : -2147483648 ≤ p ∧ p < 2147483648) (hc : -2147483648 ≤ c ∧ c < 2147483648) : Ct mX3_sink [gr 0, gi x, gi p, gi c] L A (exP [xIOE, xISE] (sinE A x p c) (some (gi (A 14 c.toNat))) (uncL L A c) (uncA (workC (shaC A x.toNat) x.toNat c) c x (-1)) L A) := by
  have hL := vc_L hV
  have hnc := vc_nc hV; have hns := vc_ns hV; have hp0 := (vc_p hV).1
  refine Ct_of (ls := [(0, _), (1, _), (2, _), (3, _)]) rfl (by decide) (fun _ => rfl) (fun _ => Nat.le_of_ble_eq_true rfl) ?_
  refine g_aload_n 0 dX3_sink_0 rfl rfl ?_
  refine g_iload_n 1 dX3_sink_1 rfl rfl ?_
  refine g_iload_n 2 dX3_sink_2 rfl rfl ?_
  refine g_iload_n 3 dX3_sink_3 rfl rfl ?_
  by_cases hs4 : ahE A x p c = 0
  · skip
    have hs4z := hs4
    obtain ⟨k, rfl, hk, hp1, hc1, hk1, hk2, hk3⟩ := ahE_0 hs4
    refine g_cV_i (My := mX3_claimAtHand) (gs := [_, _, _]) (c_X3_claimAtHand hV hk hp1 hc1 hk1 hk2 hk3) mfX3_claimAtHand cf_4 wi_X3_claimAtHand wsl_X3_claimAtHand wm_X3_141 dX3_sink_4 (Nat.le_of_ble_eq_true rfl) rfl (by decide) (n2 (hL 0 rfl)) rfl (fun _ => Nat.le_of_ble_eq_true rfl) (Nat.le_of_ble_eq_true rfl) (Nat.le_of_ble_eq_true rfl) rfl rfl ?_
    refine g_sa2 (ls2 := [(4, _), (0, _), (1, _), (2, _), (3, _)]) dX3_sink_7 (by decide) (c1_cr (c1_ci (c1_ci (c1_ci c1_0)))) rfl ?_
    refine g_aload_n 1 dX3_sink_9 rfl rfl ?_
    refine g_getfr2 (r := 1) cf_4 0 rfl (by decide) (by decide) rfl (by decide) wf_X3_12 dX3_sink_10 (hL 0 rfl) rfl ?_
    refine g_iload_n 4 dX3_sink_13 rfl rfl ?_
    refine g_cV_i (My := mX1_isOpen) (gs := [_]) (c_X1_isOpen hL hc) mfX1_isOpen cf_2 wi_X1_isOpen wsl_X1_isOpen wm_X3_154 dX3_sink_14 (Nat.le_of_ble_eq_true rfl) rfl (by decide) (n2 (hL 1 rfl)) rfl (fun _ => Nat.le_of_ble_eq_true rfl) (Nat.le_of_ble_eq_true rfl) (Nat.le_of_ble_eq_true rfl) rfl rfl ?_
    refine g_ifb_eq (tgt := 30) dX3_sink_17 (by decide) (fun h17_1 => ?_) (fun h17_1 => ?_)
    · skip
      simp only [opB, decide_eq_true_eq, decide_eq_false_iff_not] at *
      have hk12 := vc_k hV hk
      have hcv7 := (vc_cv hV hk).2.2.2.2.1
      refine g_aload 0 dX3_sink_30 rfl ?_
      refine g_getfi cf_1 7 (ly_c0 (vc_k hV hk)) (by decide) (by decide) rfl (by decide) wf_X3_159 dX3_sink_32 (n2 (vc_c hV hk).1) (fun h32_2 => ?_)
      refine g_iconst dX3_sink_35 ?_
      refine g_icmp_lt (tgt := 49) (by omega) (by omega) dX3_sink_36 (by decide) (fun h36_3 => ?_) (fun h36_3 => ?_)
      · skip
        refine g_aload 0 dX3_sink_49 rfl ?_
        refine g_dup dX3_sink_51 (c1_r _) ?_
        refine g_getfi cf_1 7 (ly_c0 (vc_k hV hk)) (by decide) (by decide) rfl (by decide) wf_X3_159 dX3_sink_52 (n2 (vc_c hV hk).1) (fun h52_4 => ?_)
        refine g_iconst dX3_sink_55 ?_
        refine g_iadd dX3_sink_56 ?_
        refine g_putfi cf_1 7 (ly_c0 (vc_k hV hk)) (by decide) (by decide) rfl (by decide) wf_X3_159 (Or.inl rfl) rfl dX3_sink_57 (n2 (vc_c hV hk).1) (by omega) ?_
        have hV2 : VC L (shaC A k) := vc_sha hV hk (by omega)
        have hX2 : XC L (shaC A k) := xc_sha hV hX hk
        refine g_aload_n 1 dX3_sink_60 rfl rfl ?_
        refine g_aload 0 dX3_sink_61 rfl ?_
        refine g_iload_n 2 dX3_sink_63 rfl rfl ?_
        refine g_iload_n 4 dX3_sink_64 rfl rfl ?_
        refine g_cVB_i (My := mX3_work) (gs := [_, _, _]) (c_X3_work (A := shaC A k) hV2 hX2 (by rw [shaC_ne (by omega)]; exact hk) hc1 (fun h => by rw [shaC_ne (by omega)] at h; rw [shaC_ne (by omega)]; have := iv_room hI hc1 h; omega)) mfX3_work cf_4 wi_X3_work wsl_X3_work wm_X3_150 dX3_sink_65 (Nat.le_of_ble_eq_true rfl) rfl (by decide) (n2 (hL 0 rfl)) rfl (fun _ => Nat.le_of_ble_eq_true rfl) (Nat.le_of_ble_eq_true rfl) (Nat.le_of_ble_eq_true rfl) rfl ⟨(by simp only [List.forall_mem_cons]; exact ⟨okv_r (n2 (vc_c hV hk).1) (by rw [ly_c0 (vc_k hV hk)]; decide), okv_r (n2 (hL 0 rfl)) (by decide), okv_i _, okv_i _, okv_i _, fun _ h => absurd h List.not_mem_nil⟩), fun _ h => absurd h List.not_mem_nil⟩ rfl ?_
        exact g_iret dX3_sink_68 rfl (Nat.le_of_ble_eq_true rfl) (Nat.le_of_ble_eq_true rfl) (ex_ok (by unfold sinE; grind) (by rw [shaC_ne (by omega)]) (by unfold uncL; rw [shaC_ne (by omega), shaC_ne (by omega)]) rfl)
      · skip
        exact g_throw thX3_sink_39 (Nat.le_of_ble_eq_true rfl) (Nat.le_of_ble_eq_true rfl) (by decide) (ex_th 1 (by unfold sinE; grind [opB]) rfl)
    · skip
      exact g_throw thX3_sink_20 (Nat.le_of_ble_eq_true rfl) (Nat.le_of_ble_eq_true rfl) (by decide) (ex_th 1 (by unfold sinE; grind [opB]) rfl)
  · skip
    exact g_cV_t (My := mX3_claimAtHand_x) (gs := [_, _, _]) (c_X3_claimAtHand_p hV hx hp hc hs4) mfX3_claimAtHand_x cf_4 wi_X3_claimAtHand wsl_X3_claimAtHand wm_X3_141 dX3_sink_4 (Nat.le_of_ble_eq_true rfl) rfl (by decide) (n2 (hL 0 rfl)) rfl (fun _ => Nat.le_of_ble_eq_true rfl) (Nat.le_of_ble_eq_true rfl) (Nat.le_of_ble_eq_true rfl) rfl rfl rfl (by rcases ahE_012 A x p c with q | q | q; exact absurd q hs4; (rw [if_pos q]; exact ex_th 0 (by unfold sinE; grind) rfl); (rw [if_neg (by omega)]; exact ex_th 1 (by unfold sinE; grind) rfl))

set_option maxHeartbeats 2000000 in
set_option maxRecDepth 20000 in
theorem c_X3_rat {L : Nat → Nat} {A : Mem} (hV : VC L A) (hX : XC L A) (hI : IV A) {p c : Int} (hp : -2147483648 ≤ p ∧ p < 2147483648) (hc : -2147483648 ≤ c ∧ c < 2147483648) : Ct mX3_rat [gr 0, gi p, gi c] L A (exP [xIOE, xISE] (ratE A p c) (some (gi (if A 17 c.toNat = -1 then A 14 c.toNat else -1))) (if A 17 c.toNat = -1 then uncL L A c else L) (ratC A p c) L A) := by
  have hL := vc_L hV
  have hnc := vc_nc hV; have hns := vc_ns hV; have hp0 := (vc_p hV).1
  refine Ct_of (ls := [(0, _), (1, _), (2, _)]) rfl (by decide) (fun _ => rfl) (fun _ => Nat.le_of_ble_eq_true rfl) ?_
  refine g_iload_n 1 dX3_rat_0 rfl rfl ?_
  by_cases hs1 : 0 ≤ p ∧ p < 8
  · skip
    refine g_cS_v (My := mX3_needPerson) (gs := [_]) (c_X3_needPerson hp hs1) mfX3_needPerson rfl wst_X3_needPerson wm_X3_86 dX3_rat_1 (Nat.le_of_ble_eq_true rfl) rfl (fun _ => Nat.le_of_ble_eq_true rfl) (Nat.le_of_ble_eq_true rfl) (Nat.le_of_ble_eq_true rfl) rfl rfl ?_
    refine g_iload_n 2 dX3_rat_4 rfl rfl ?_
    by_cases hs5 : 0 ≤ c ∧ c < 100
    · skip
      refine g_cS_v (My := mX3_needCell) (gs := [_]) (c_X3_needCell hc hs5) mfX3_needCell rfl wst_X3_needCell wm_X3_51 dX3_rat_5 (Nat.le_of_ble_eq_true rfl) rfl (fun _ => Nat.le_of_ble_eq_true rfl) (Nat.le_of_ble_eq_true rfl) (Nat.le_of_ble_eq_true rfl) rfl rfl ?_
      refine g_aload_n 0 dX3_rat_8 rfl rfl ?_
      refine g_cV_i (My := mX3_isNight) (gs := []) (c_X3_isNight hV) mfX3_isNight cf_4 wi_X3_isNight wsl_X3_isNight wm_X3_183 dX3_rat_9 (Nat.le_of_ble_eq_true rfl) rfl (by decide) (n2 (hL 0 rfl)) rfl (fun _ => Nat.le_of_ble_eq_true rfl) (Nat.le_of_ble_eq_true rfl) (Nat.le_of_ble_eq_true rfl) rfl rfl ?_
      refine g_ifb_ne (tgt := 25) dX3_rat_12 (by decide) (fun h12_1 => ?_) (fun h12_1 => ?_)
      · skip
        refine g_aload_n 0 dX3_rat_25 rfl rfl ?_
        refine g_iload_n 1 dX3_rat_26 rfl rfl ?_
        by_cases hs27 : brdC A p = 0
        · skip
          refine g_cV_v (My := mX3_needFree) (gs := [_]) (c_X3_needFree hV (by omega) hs27) mfX3_needFree cf_4 wi_X3_needFree wsl_X3_needFree wm_X3_100 dX3_rat_27 (Nat.le_of_ble_eq_true rfl) rfl (by decide) (n2 (hL 0 rfl)) rfl (fun _ => Nat.le_of_ble_eq_true rfl) (Nat.le_of_ble_eq_true rfl) (Nat.le_of_ble_eq_true rfl) rfl rfl ?_
          refine g_aload_n 0 dX3_rat_30 rfl rfl ?_
          refine g_iload_n 2 dX3_rat_31 rfl rfl ?_
          refine g_cV_i (My := mX3_holderOf) (gs := [_]) (c_X3_holderOf hV (by omega)) mfX3_holderOf cf_4 wi_X3_holderOf wsl_X3_holderOf wm_X3_189 dX3_rat_32 (Nat.le_of_ble_eq_true rfl) rfl (by decide) (n2 (hL 0 rfl)) rfl (fun _ => Nat.le_of_ble_eq_true rfl) (Nat.le_of_ble_eq_true rfl) (Nat.le_of_ble_eq_true rfl) rfl rfl ?_
          refine g_st (ls2 := [(3, _), (0, _), (1, _), (2, _)]) dX3_rat_35 rfl (by decide) (c1_cr (c1_ci (c1_ci c1_0))) rfl ?_
          have hhr := hldC_rg hV c
          refine g_iload_n 0 dX3_rat_36 rfl rfl ?_
          refine g_iconst dX3_rat_37 ?_
          refine g_icmp_eq (tgt := 64) (by omega) (by omega) dX3_rat_38 (by decide) (fun h38_2 => ?_) (fun h38_2 => ?_)
          · skip
            exact g_throw thX3_rat_64 (Nat.le_of_ble_eq_true rfl) (Nat.le_of_ble_eq_true rfl) (by decide) (ex_th 1 (by unfold ratE; grind) rfl)
          · skip
            obtain ⟨k, ek⟩ : ∃ k : Nat, hldC A c = k := ⟨(hldC A c).toNat, by omega⟩
            have hkh : (k : Int) < A 2 2 := by omega
            refine g_aload_n 1 dX3_rat_41 rfl rfl ?_
            refine g_iload_n 0 dX3_rat_42 rfl rfl ?_
            refine g_top ek ?_
            refine g_cV_i (My := mX3_claimAt) (gs := [_]) (c_X3_claimAt hV hkh) mfX3_claimAt cf_4 wi_X3_claimAt wsl_X3_claimAt wm_X3_112 dX3_rat_43 (Nat.le_of_ble_eq_true rfl) rfl (by decide) (n2 (hL 0 rfl)) rfl (fun _ => Nat.le_of_ble_eq_true rfl) (Nat.le_of_ble_eq_true rfl) (Nat.le_of_ble_eq_true rfl) rfl rfl ?_
            refine g_iload_n 2 dX3_rat_46 rfl rfl ?_
            refine g_cV_i (My := mX0_isOfPeople) (gs := [_]) (c_X0_isOfPeople (vc_k hV hkh) (vc_c hV hkh) (by omega)) mfX0_isOfPeople cf_1 wi_X0_isOfPeople wsl_X0_isOfPeople wm_X3_116 dX3_rat_47 (Nat.le_of_ble_eq_true rfl) (ly_c0 (vc_k hV hkh)) (by decide) (n2 (vc_c hV hkh).1) rfl (fun _ => Nat.le_of_ble_eq_true rfl) (Nat.le_of_ble_eq_true rfl) (Nat.le_of_ble_eq_true rfl) rfl rfl ?_
            refine g_ifb_ne (tgt := 64) dX3_rat_50 (by decide) (fun h50_3 => ?_) (fun h50_3 => ?_)
            · skip
              exact g_throw thX3_rat_64 (Nat.le_of_ble_eq_true rfl) (Nat.le_of_ble_eq_true rfl) (by decide) (ex_th 1 (by unfold ratE; grind) rfl)
            · skip
              refine g_aload_n 1 dX3_rat_53 rfl rfl ?_
              refine g_getfr2 (r := 1) cf_4 0 rfl (by decide) (by decide) rfl (by decide) wf_X3_12 dX3_rat_54 (hL 0 rfl) rfl ?_
              refine g_iload_n 3 dX3_rat_57 rfl rfl ?_
              refine g_cV_i (My := mX1_canBeDug) (gs := [_]) (c_X1_canBeDug hL (by omega)) mfX1_canBeDug cf_2 wi_X1_canBeDug wsl_X1_canBeDug wm_X3_145 dX3_rat_58 (Nat.le_of_ble_eq_true rfl) rfl (by decide) (n2 (hL 1 rfl)) rfl (fun _ => Nat.le_of_ble_eq_true rfl) (Nat.le_of_ble_eq_true rfl) (Nat.le_of_ble_eq_true rfl) rfl rfl ?_
              refine g_ifb_ne (tgt := 74) dX3_rat_61 (by decide) (fun h61_4 => ?_) (fun h61_4 => ?_)
              · skip
                refine g_aload_n 1 dX3_rat_74 rfl rfl ?_
                refine g_getfr2 (r := 1) cf_4 0 rfl (by decide) (by decide) rfl (by decide) wf_X3_12 dX3_rat_75 (hL 0 rfl) rfl ?_
                refine g_getfr2 (r := 17) cf_2 5 rfl (by decide) (by decide) rfl (by decide) wf_X3_172 dX3_rat_78 (hL 1 rfl) rfl ?_
                refine g_iload_n 3 dX3_rat_81 rfl rfl ?_
                refine g_ia (by omega) (by omega) rfl (by decide) dX3_rat_82 (n2 (hL 17 rfl)) (fun h82_5 => ?_)
                refine g_iconst dX3_rat_83 ?_
                have hg17 := (vc_g hV).2.2.2.2.2 c.toNat
                refine g_icmp_ne (tgt := 95) (by omega) (by omega) dX3_rat_84 (by decide) (fun h84_6 => ?_) (fun h84_6 => ?_)
                · skip
                  refine g_aload_n 1 dX3_rat_95 rfl rfl ?_
                  refine g_getfr2 (r := 1) cf_4 0 rfl (by decide) (by decide) rfl (by decide) wf_X3_12 dX3_rat_96 (hL 0 rfl) rfl ?_
                  refine g_getfr2 (r := 17) cf_2 5 rfl (by decide) (by decide) rfl (by decide) wf_X3_172 dX3_rat_99 (hL 1 rfl) rfl ?_
                  refine g_iload_n 3 dX3_rat_102 rfl rfl ?_
                  refine g_iconst dX3_rat_103 ?_
                  refine g_is (by omega) (by omega) (by omega) rfl (by decide) dX3_rat_104 (n2 (hL 17 rfl)) ?_
                  have hcaught := (vc_p hV).2.2.2.1 p.toNat
                  refine g_aload_n 1 dX3_rat_105 rfl rfl ?_
                  refine g_getfr2 (r := 7) cf_4 4 rfl (by decide) (by decide) rfl (by decide) wf_X3_30 dX3_rat_106 (hL 0 rfl) rfl ?_
                  refine g_iload_n 2 dX3_rat_109 rfl rfl ?_
                  refine g_aload_n 1 dX3_rat_110 rfl rfl ?_
                  refine g_getfi cf_4 9 rfl (by decide) (by decide) rfl (by decide) wf_X3_80 dX3_rat_111 (n2 (hL 0 rfl)) (fun h111_7 => ?_)
                  refine g_top (y := A 0 9) (by rw [gup_ne (by omega)]) ?_
                  refine g_sipush dX3_rat_114 (by decide) ?_
                  refine g_iadd dX3_rat_117 ?_
                  refine g_is (by omega) (by omega) (by omega) rfl (by decide) dX3_rat_118 (n2 (hL 7 rfl)) ?_
                  refine g_aload_n 1 dX3_rat_119 rfl rfl ?_
                  refine g_getfr2 (r := 8) cf_4 5 rfl (by decide) (by decide) rfl (by decide) wf_X3_33 dX3_rat_120 (hL 0 rfl) rfl ?_
                  refine g_iload_n 2 dX3_rat_123 rfl rfl ?_
                  refine g_dup2 dX3_rat_124 (c1_i _) (c1_r _) ?_
                  refine g_ia (by omega) (by omega) rfl (by decide) dX3_rat_125 (n2 (hL 8 rfl)) (fun h125_8 => ?_)
                  refine g_top (y := A 8 p.toNat) (by rw [gup_ne (by omega), gup_ne (by omega)]) ?_
                  refine g_iconst dX3_rat_126 ?_
                  refine g_iadd dX3_rat_127 ?_
                  refine g_is (by omega) (by omega) (by omega) rfl (by decide) dX3_rat_128 (n2 (hL 8 rfl)) ?_
                  refine g_iconst dX3_rat_129 ?_
                  exact g_iret dX3_rat_130 rfl (Nat.le_of_ble_eq_true rfl) (Nat.le_of_ble_eq_true rfl) (ex_ok (by unfold ratE; grind) (by rw [if_neg (by omega)]) (by rw [if_neg (by omega)]) (by unfold ratC; rw [if_neg (by omega)]))
                · skip
                  refine g_aload_n 1 dX3_rat_87 rfl rfl ?_
                  refine g_iload_n 3 dX3_rat_88 rfl rfl ?_
                  refine g_iconst dX3_rat_89 ?_
                  refine g_iload_n 2 dX3_rat_90 rfl rfl ?_
                  refine g_cVB_i (My := mX3_uncover) (gs := [_, _, _]) (c_X3_uncover (w := -1) (p := p) hV hX (by omega) (by omega) (by omega) (fun h => by have := iv_room hI (by omega) h; omega)) mfX3_uncover cf_4 wi_X3_uncover wsl_X3_uncover wm_X3_194 dX3_rat_91 (Nat.le_of_ble_eq_true rfl) rfl (by decide) (n2 (hL 0 rfl)) rfl (fun _ => Nat.le_of_ble_eq_true rfl) (Nat.le_of_ble_eq_true rfl) (Nat.le_of_ble_eq_true rfl) rfl ⟨(by simp only [List.forall_mem_cons]; exact ⟨okv_i _, okv_r (n2 (hL 0 rfl)) (by decide), okv_i _, okv_i _, fun _ h => absurd h List.not_mem_nil⟩), fun _ h => absurd h List.not_mem_nil⟩ rfl ?_
                  exact g_iret dX3_rat_94 rfl (Nat.le_of_ble_eq_true rfl) (Nat.le_of_ble_eq_true rfl) (ex_ok (by unfold ratE; grind) (by rw [if_pos (by omega)]) (by rw [if_pos (by omega)]) (by unfold ratC; rw [if_pos (by omega)]))
              · skip
                exact g_throw thX3_rat_64 (Nat.le_of_ble_eq_true rfl) (Nat.le_of_ble_eq_true rfl) (by decide) (ex_th 1 (by unfold ratE; grind) rfl)
        · skip
          exact g_cV_t (My := mX3_needFree_x) (gs := [_]) (c_X3_needFree_x hV (by omega) hs27) mfX3_needFree_x cf_4 wi_X3_needFree wsl_X3_needFree wm_X3_100 dX3_rat_27 (Nat.le_of_ble_eq_true rfl) rfl (by decide) (n2 (hL 0 rfl)) rfl (fun _ => Nat.le_of_ble_eq_true rfl) (Nat.le_of_ble_eq_true rfl) (Nat.le_of_ble_eq_true rfl) rfl rfl rfl (ex_th 1 (by unfold ratE; grind) rfl)
      · skip
        exact g_throw thX3_rat_15 (Nat.le_of_ble_eq_true rfl) (Nat.le_of_ble_eq_true rfl) (by decide) (ex_th 1 (by unfold ratE; grind) rfl)
    · skip
      exact g_cS_t (My := mX3_needCell_x) (gs := [_]) (c_X3_needCell_x hc hs5) mfX3_needCell_x rfl wst_X3_needCell wm_X3_51 dX3_rat_5 (Nat.le_of_ble_eq_true rfl) rfl (fun _ => Nat.le_of_ble_eq_true rfl) (Nat.le_of_ble_eq_true rfl) (Nat.le_of_ble_eq_true rfl) rfl rfl rfl (ex_th 0 (by unfold ratE; grind) rfl)
  · skip
    exact g_cS_t (My := mX3_needPerson_x) (gs := [_]) (c_X3_needPerson_x hp hs1) mfX3_needPerson_x rfl wst_X3_needPerson wm_X3_86 dX3_rat_1 (Nat.le_of_ble_eq_true rfl) rfl (fun _ => Nat.le_of_ble_eq_true rfl) (Nat.le_of_ble_eq_true rfl) (Nat.le_of_ble_eq_true rfl) rfl rfl rfl (ex_th 0 (by unfold ratE; grind) rfl)

