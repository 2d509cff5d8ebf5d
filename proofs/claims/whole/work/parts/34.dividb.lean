def clN (A : Mem) (m : Nat) : Nat → Mem
  | 0 => A
  | i + 1 => gup (clN A m i) m i 0
theorem clN_ne (A : Mem) (m n : Nat) {z : Nat} (h : z ≠ m) : clN A m n z = A z := by
  induction n with
  | zero => rfl
  | succ n ih => rw [clN, gup_ne h, ih]
theorem clN_v (A : Mem) (m n j : Nat) : clN A m n m j = if j < n then 0 else A m j := by
  induction n with
  | zero => rfl
  | succ n ih => rw [clN, gup_ap, ih]; grind
theorem dvS_inv {L : Nat → Nat} {B A : Mem} {k : Nat} {w : Int} (hV : VC L B) (hI : IV B) (hR : Rel B A) (hk : (k : Int) < B 2 2) (hc : cntF (inpC B k) (B 3 2).toNat ≠ 0) :
    (dvs B k : Int) < B 3 2 ∧ (1 ≤ B (200 + 3 * dvs B k) 3 ∧ B (200 + 3 * dvs B k) 3 ≤ 999) ∧ VC L (dvS B k w) ∧ IV (dvS B k w) ∧ (∀ z, Rel (dvS B k w) (gup (gup A 48 (dvs B k) (dvp B k w)) 43 (dvp B k w) z)) ∧ cntF (inpC (dvS B k w) k) (B 3 2).toNat = cntF (inpC B k) (B 3 2).toNat - 1 ∧ hvF (inpC B k) (fun s => B (200 + 3 * s) 3) (B 3 2).toNat = dvs B k := by
  have hns := vc_ns hV
  have h1 := hv_in (inp := inpC B k) (w := fun s => B (200 + 3 * s) 3) (n := (B 3 2).toNat) (fun i hi q => (inp_w hV hI i hi q).1) hc
  have e1 : hvF (inpC B k) (fun s => B (200 + 3 * s) 3) (B 3 2).toNat = dvs B k := by unfold dvs; omega
  rw [e1] at h1
  rw [show (((dvs B k : Nat) : Int)).toNat = dvs B k by omega] at h1
  have h2 := inp_w hV hI (dvs B k) (by omega) h1.2.2
  have hs : ((dvs B k : Nat) : Int) < B 3 2 := by omega
  have h3 := (vc_sv hV hs).2.2.2.1
  refine ⟨hs, by omega, ?_, ?_, ?_, ?_, e1⟩
  · exact (keep_giv (z := 0) hV hI hR hs (dvp_lt hV hk) h2.2.1).1
  · exact (keep_giv (z := 0) hV hI hR hs (dvp_lt hV hk) h2.2.1).2.1
  · exact fun z => (keep_giv hV hI hR hs (dvp_lt hV hk) h2.2.1).2.2
  · rw [cntF_one (f := inpC (dvS B k w) k) (g := inpC B k) (s := dvs B k) (by omega) (fun i hi => ?_), h1.2.2]
    · have h4 : inpC (dvS B k w) k (dvs B k) = false := by
        unfold inpC inpB plcC dvS
        rw [gup_ne (by omega), gup_at, decide_eq_false]
        rintro ⟨_, q⟩
        split at q
        · omega
        · rw [if_neg (by omega)] at q; omega
      rw [h4, b2_t, b2_f]; omega
    · unfold inpC dvS
      rw [gup_ne (by omega), gup_ne (by omega)]
theorem dv_inv {L : Nat → Nat} {B A : Mem} {k m : Nat} {w : Int} (hV : VC L B) (hI : IV B) (hR : Rel B A) (hk : (k : Int) < B 2 2) (hz : ∀ p, p < 8 → B 10 p = 0) (hA : ∀ p, p < 8 → A 43 p = 0) (hm : cntF (inpC B k) (B 3 2).toNat = m) (i : Nat) (hi : i ≤ m) :
    VC L (dvM B k w i) ∧ IV (dvM B k w i) ∧ Rel (dvM B k w i) (dvR B A k w i) ∧ (∀ p, p < 8 → dvR B A k w i 43 p = dvM B k w i 10 p ∧ 0 ≤ dvM B k w i 10 p ∧ dvM B k w i 10 p ≤ 999 * i) ∧ cntF (inpC (dvM B k w i) k) (B 3 2).toNat = m - i ∧ dvM B k w i 2 = B 2 ∧ dvM B k w i 3 = B 3 ∧ dvM B k w i (100 + 3 * k) = B (100 + 3 * k) ∧ dvM B k w i (101 + 3 * k) = B (101 + 3 * k) := by
  induction i with
  | zero => exact ⟨hV, hI, hR, fun p hp => ⟨by show A 43 p = B 10 p; rw [hA p hp, hz p hp], by show 0 ≤ B 10 p; rw [hz p hp]; exact Int.le_refl _, by show B 10 p ≤ _; rw [hz p hp]; omega⟩, by show cntF (inpC B k) _ = _; omega, rfl, rfl, rfl, rfl⟩
  | succ i ih =>
    obtain ⟨a1, a2, a3, a4, a5, a6, a7, a8, a9⟩ := ih (by omega)
    have hk12 := vc_k hV hk
    have hki : (k : Int) < dvM B k w i 2 2 := by rw [a6]; exact hk
    have e3 : (dvM B k w i 3 2).toNat = (B 3 2).toNat := by rw [a7]
    obtain ⟨b1, b2, b3, b4, b5, b6, b7⟩ := dvS_inv (w := w) a1 a2 a3 hki (by rw [e3, a5]; omega)
    have hp := dvp_lt (w := w) a1 hki
    have q : ∀ n, n ≠ 10 → n ≠ 200 + 3 * dvs (dvM B k w i) k → dvM B k w (i + 1) n = dvM B k w i n := fun n q1 q2 => by show dvS _ k w n = _; unfold dvS; rw [gup_ne q1, gup_ne q2]
    refine ⟨b3, b4, b5 _, fun p hp2 => ?_, ?_, ?_, ?_, ?_, ?_⟩
    · have r45 := (rl_s a3 b1).1
      have c1 := a4 p hp2
      have c2 := a4 _ hp
      have d1 : dvM B k w (i + 1) 10 p = if p = dvp (dvM B k w i) k w then dvM B k w i 10 (dvp (dvM B k w i) k w) + dvM B k w i (200 + 3 * dvs (dvM B k w i) k) 3 else dvM B k w i 10 p := by show dvS _ k w 10 p = _; unfold dvS; rw [gup_ap, gup_ne (by omega)]; simp
      have d2 : dvR B A k w (i + 1) 43 p = if p = dvp (dvM B k w i) k w then dvR B A k w i 43 (dvp (dvM B k w i) k w) + dvR B A k w i 45 (dvs (dvM B k w i) k) else dvR B A k w i 43 p := by show gup (gup _ _ _ _) _ _ _ 43 p = _; rw [gup_ap, gup_ne (by omega)]; simp
      rw [d1, d2]
      by_cases e : p = dvp (dvM B k w i) k w
      · rw [if_pos e, if_pos e]; omega
      · rw [if_neg e, if_neg e]; omega
    · rw [e3] at b6
      show cntF (inpC (dvS _ k w) k) _ = _
      rw [b6, a5]; omega
    · rw [q 2 (by omega) (by omega)]; exact a6
    · rw [q 3 (by omega) (by omega)]; exact a7
    · rw [q _ (by omega) (by omega)]; exact a8
    · rw [q _ (by omega) (by omega)]; exact a9
theorem cwP_rg {L : Nat → Nat} {B : Mem} (hV : VC L B) (k : Int) (n : Nat) (hn : n ≤ (B 3 2).toNat) : 0 ≤ sumF (cwP B k) n ∧ sumF (cwP B k) n ≤ 999 * n := by
  induction n with
  | zero => exact ⟨Int.le_refl _, Int.le_refl _⟩
  | succ n ih =>
    have h3 := (vc_sv hV (show (n : Int) < B 3 2 by omega)).2.2.2.1
    have := ih (by omega)
    simp only [sumF]
    unfold cwP at *
    split <;> omega
def divE (B : Mem) (x : Int) : Nat := if ¬ (0 ≤ x ∧ x < B 2 2) then 1 else if prcN B x = 0 then 2 else 0
/-- the reference's memory after a division -/
def divR (B A : Mem) (k : Nat) : Mem := dvR (clN B 10 8) (clN (gup A 20 0 0) 43 8) k (sumF (cwP B k) (B 3 2).toNat) (prcN B k).toNat
/-- the class's -/
def divA (B : Mem) (k : Nat) : Mem := dvM (clN B 10 8) k (sumF (cwP B k) (B 3 2).toNat) (prcN B k).toNat
theorem inp_cl (B : Mem) (k : Int) (n : Nat) : cntF (inpC (clN B 10 8) k) n = cntF (inpC B k) n := cntF_cg (fun i _ => by unfold inpC; rw [clN_ne _ _ _ (by omega)])
/-- the invariant of a division's steps -/
theorem div_inv {L : Nat → Nat} {B A : Mem} {k : Nat} (hV : VC L B) (hI : IV B) (hR : Rel B A) (hk : (k : Int) < B 2 2) (w : Int) (i : Nat) (hi : (i : Int) ≤ prcN B k) :
    VC L (dvM (clN B 10 8) k w i) ∧ IV (dvM (clN B 10 8) k w i) ∧ Rel (dvM (clN B 10 8) k w i) (dvR (clN B 10 8) (clN (gup A 20 0 0) 43 8) k w i) ∧ (∀ p, p < 8 → dvR (clN B 10 8) (clN (gup A 20 0 0) 43 8) k w i 43 p = dvM (clN B 10 8) k w i 10 p ∧ 0 ≤ dvM (clN B 10 8) k w i 10 p ∧ dvM (clN B 10 8) k w i 10 p ≤ 999 * i) ∧ cntF (inpC (dvM (clN B 10 8) k w i) k) (B 3 2).toNat = prcN B k - i ∧ dvM (clN B 10 8) k w i 2 = B 2 ∧ dvM (clN B 10 8) k w i 3 = B 3 ∧ dvM (clN B 10 8) k w i (100 + 3 * k) = B (100 + 3 * k) ∧ dvM (clN B 10 8) k w i (101 + 3 * k) = B (101 + 3 * k) := by
  have hcl : ∀ n, (n < 18 ∧ n ≠ 10 ∧ n ≠ 11) ∨ 100 ≤ n → clN B 10 8 n = B n := fun n q => clN_ne _ _ _ (by omega)
  have h0 : 0 ≤ prcN B k := (cntF_rg _ _).1
  have h := dv_inv (w := w) (m := (prcN B k).toNat) (vc_cg hcl hV) (iv_cg hcl hI) (rel_cg (A' := clN (gup A 20 0 0) 43 8) (A := A) hcl (fun n q => by rw [clN_ne _ _ _ (by omega), gup_ne (by omega)]) (fun j hj => by rw [clN_ne _ _ _ (by omega), gup_ap, if_neg (by omega)]) hR) (k := k) (by rw [hcl 2 (by omega)]; exact hk) (fun p hp => by rw [clN_v, if_pos hp]) (fun p hp => by rw [clN_v, if_pos hp]) (by rw [hcl 3 (by omega), inp_cl]; unfold prcN at *; omega) i (by omega)
  obtain ⟨a1, a2, a3, a4, a5, a6, a7, a8, a9⟩ := h
  rw [hcl 2 (by omega)] at a6
  rw [hcl 3 (by omega)] at a5 a7
  rw [hcl _ (by omega)] at a8 a9
  exact ⟨a1, a2, a3, a4, by omega, a6, a7, a8, a9⟩
theorem keep_div {L : Nat → Nat} {B A : Mem} {k : Nat} (hV : VC L B) (hI : IV B) (hR : Rel B A) (hk : (k : Int) < B 2 2) : VC L (divA B k) ∧ IV (divA B k) ∧ Rel (divA B k) (divR B A k) := by
  have h0 : 0 ≤ prcN B k := (cntF_rg _ _).1
  have h := div_inv hV hI hR hk (sumF (cwP B k) (B 3 2).toNat) (prcN B k).toNat (by omega)
  exact ⟨h.1, h.2.1, h.2.2.1⟩

set_option maxHeartbeats 2000000 in
set_option maxRecDepth 20000 in
theorem c_X4_divide {L : Nat → Nat} {A B : Mem} (hM : LM L) (hV : VC L B) (hR : Rel B A) (hI : IV B) {x : Int} (hx : -2147483648 ≤ x ∧ x < 2147483648) : Ct mX4_divide [gr 20, gi x] L A (pr (some (gi (if divE B x = 0 then prcN B x else 0))) L (if divE B x = 0 then divR B A x.toNat else gup A 20 0 (divE B x : Nat))) := by
  have hnc := vc_nc hV; have hns := vc_ns hV; have hp0 := (vc_p hV).1
  have rnow := rl_now hR; have rnc := rl_nc hR; have rns := rl_ns hR
  have hwz := cwP_rg hV
  refine Ct_of (ls := [(0, _), (1, _)]) rfl (by decide) (fun _ => rfl) (fun _ => Nat.le_of_ble_eq_true rfl) ?_
  refine g_aload_n 0 dX4_divide_0 rfl rfl ?_
  refine g_aload_n 0 dX4_divide_1 rfl rfl ?_
  refine g_iload_n 1 dX4_divide_2 rfl rfl ?_
  by_cases hs3 : 0 ≤ x ∧ x < B 2 2
  · skip
    obtain ⟨k, rfl⟩ : ∃ k : Nat, x = k := ⟨x.toNat, by omega⟩
    have hk : (k : Int) < B 2 2 := by omega
    have rk := rl_k hR hk; have hcv := vc_cv hV hk; have hk12 := vc_k hV hk
    refine g_cV_i (My := mX4_isClaim) (gs := [_]) (c_X4_isClaim hM hV hR (by omega)) mfX4_isClaim cf_5 wi_X4_isClaim wsl_X4_isClaim wm_X4_142 dX4_divide_3 (Nat.le_of_ble_eq_true rfl) rfl (by decide) (n2 (hM 20 rfl)) rfl (fun _ => Nat.le_of_ble_eq_true rfl) (Nat.le_of_ble_eq_true rfl) (Nat.le_of_ble_eq_true rfl) rfl rfl ?_
    refine g_top (y := 1) (by rw [decide_eq_true hs3]; rfl) ?_
    refine g_if_ne (tgt := 13) (by omega) dX4_divide_6 (by decide) (fun h6_1 => ?_) (fun h6_1 => absurd h6_1 (by omega))
    refine g_aload_n 0 dX4_divide_13 rfl rfl ?_
    refine g_iload_n 1 dX4_divide_14 rfl rfl ?_
    refine g_cV_i (My := mX4_parcel) (gs := [_]) (c_X4_parcel hM hV hR hI (k := (k : Int)) (by omega)) mfX4_parcel cf_5 wi_X4_parcel wsl_X4_parcel wm_X4_202 dX4_divide_15 (Nat.le_of_ble_eq_true rfl) rfl (by decide) (n2 (hM 20 rfl)) rfl (fun _ => Nat.le_of_ble_eq_true rfl) (Nat.le_of_ble_eq_true rfl) (Nat.le_of_ble_eq_true rfl) rfl rfl ?_
    refine g_top (y := prcN B k) rfl ?_
    have hpr0 : 0 ≤ prcN B k ∧ prcN B k ≤ 100 := by (have := cntF_rg (inpC B k) (B 3 2).toNat; unfold prcN; omega)
    refine g_if_ne (tgt := 25) (by omega) dX4_divide_18 (by decide) (fun h18_2 => ?_) (fun h18_2 => ?_)
    · skip
      refine g_iconst dX4_divide_25 ?_
      refine g_putfi cf_5 0 rfl (by decide) (by decide) rfl (by decide) wf_X4_104 (Or.inl rfl) rfl dX4_divide_26 (n2 (hM 20 rfl)) (by omega) ?_
      refine g_aload_n 0 dX4_divide_29 rfl rfl ?_
      refine g_getfi cf_5 0 rfl (by decide) (by decide) rfl (by decide) wf_X4_104 dX4_divide_30 (n2 (hM 20 rfl)) (fun h30_3 => ?_)
      refine g_top (y := 0) (gup_at _ _ _ _) ?_
      refine g_if_le (tgt := 38) (by omega) dX4_divide_33 (by decide) (fun h33_4 => ?_) (fun h33_4 => absurd h33_4 (by omega))
      have rns0 := rl_ns (rl_th hR 0)
      have hw : 0 ≤ (sumF (cwP B k) (B 3 2).toNat) ∧ (sumF (cwP B k) (B 3 2).toNat) ≤ 100000 := by (have := cwP_rg hV (k : Int) _ (Nat.le_refl _); omega)
      refine g_aload_n 0 dX4_divide_38 rfl rfl ?_
      refine g_iload_n 1 dX4_divide_39 rfl rfl ?_
      refine g_cV_i (My := mX4_parcel) (gs := [_]) (c_X4_parcel hM hV (rl_th hR _) hI (k := (k : Int)) (by omega)) mfX4_parcel cf_5 wi_X4_parcel wsl_X4_parcel wm_X4_202 dX4_divide_40 (Nat.le_of_ble_eq_true rfl) rfl (by decide) (n2 (hM 20 rfl)) rfl (fun _ => Nat.le_of_ble_eq_true rfl) (Nat.le_of_ble_eq_true rfl) (Nat.le_of_ble_eq_true rfl) rfl rfl ?_
      refine g_top (y := prcN B k) rfl ?_
      refine g_st (ls2 := [(2, _), (0, _), (1, _)]) dX4_divide_43 rfl (by decide) (c1_cr (c1_ci c1_0)) rfl ?_
      refine g_iconst dX4_divide_44 ?_
      refine g_st (ls2 := [(3, _), (2, _), (0, _), (1, _)]) dX4_divide_45 rfl (by decide) (c1_ci (c1_cr (c1_ci c1_0))) rfl ?_
      refine g_iconst dX4_divide_46 ?_
      refine g_st2 (ls2 := [(4, _), (3, _), (2, _), (0, _), (1, _)]) dX4_divide_47 (by decide) (c1_ci (c1_ci (c1_cr (c1_ci c1_0)))) rfl ?_
      refine g_sub [3, 4, 2, 1, 0] (ls2 := [(0, _), (1, _), (2, _), (3, _), (4, _)]) rfl ?_
      have hQ49 : (fun i : Nat => GW mX4_divide (pr (some (gi (if divE B (k : Int) = 0 then prcN B (k : Int) else 0))) L (if divE B (k : Int) = 0 then divR B A ((k : Int)).toNat else gup A 20 0 (divE B (k : Int) : Nat))) 0 0 49 [(0, gr (20)), (1, gi ((k : Int))), (2, gi (prcN B k)), (3, gi (sumF (cwP B k) i)), (4, gi ((i : Int)))] [] L (gup A 20 0 0)) 0 := by
        refine lp_up (Q := (fun i : Nat => GW mX4_divide (pr (some (gi (if divE B (k : Int) = 0 then prcN B (k : Int) else 0))) L (if divE B (k : Int) = 0 then divR B A ((k : Int)).toNat else gup A 20 0 (divE B (k : Int) : Nat))) 0 0 49 [(0, gr (20)), (1, gi ((k : Int))), (2, gi (prcN B k)), (3, gi (sumF (cwP B k) i)), (4, gi ((i : Int)))] [] L (gup A 20 0 0))) (n := (B 3 2).toNat) ?_ (fun i hi49 ih49 => ?_)
        · skip
          refine g_iload 4 dX4_divide_49 rfl ?_
          refine g_aload_n 0 dX4_divide_51 rfl rfl ?_
          refine g_getfi cf_5 23 rfl (by decide) (by decide) rfl (by decide) wf_X4_115 dX4_divide_52 (n2 (hM 20 rfl)) (fun h52_5 => ?_)
          refine g_icmp_ge (tgt := 88) (by omega) (by omega) dX4_divide_55 (by decide) (fun h55_6 => ?_) (fun h55_6 => absurd h55_6 (by omega))
          refine g_iconst dX4_divide_88 ?_
          refine g_st2 (ls2 := [(4, _), (0, _), (1, _), (2, _), (3, _)]) dX4_divide_89 (by decide) (c1_cr (c1_ci (c1_ci (c1_ci (c1_ci c1_0))))) rfl ?_
          refine g_sub [1, 2, 3, 4, 0] (ls2 := [(0, _), (1, _), (2, _), (3, _), (4, _)]) rfl ?_
          have hQ91 : (fun i : Nat => GW mX4_divide (pr (some (gi (if divE B (k : Int) = 0 then prcN B (k : Int) else 0))) L (if divE B (k : Int) = 0 then divR B A ((k : Int)).toNat else gup A 20 0 (divE B (k : Int) : Nat))) 0 0 91 [(0, gr (20)), (1, gi ((k : Int))), (2, gi (prcN B k)), (3, gi ((sumF (cwP B k) (B 3 2).toNat))), (4, gi ((i : Int)))] [] L (clN (gup A 20 0 0) 43 i)) 0 := by
            refine lp_up (Q := (fun i : Nat => GW mX4_divide (pr (some (gi (if divE B (k : Int) = 0 then prcN B (k : Int) else 0))) L (if divE B (k : Int) = 0 then divR B A ((k : Int)).toNat else gup A 20 0 (divE B (k : Int) : Nat))) 0 0 91 [(0, gr (20)), (1, gi ((k : Int))), (2, gi (prcN B k)), (3, gi ((sumF (cwP B k) (B 3 2).toNat))), (4, gi ((i : Int)))] [] L (clN (gup A 20 0 0) 43 i))) (n := 8) ?_ (fun i hi91 ih91 => ?_)
            · skip
              refine g_iload 4 dX4_divide_91 rfl ?_
              refine g_bipush dX4_divide_93 (by decide) ?_
              refine g_icmp_ge (tgt := 112) (by omega) (by omega) dX4_divide_95 (by decide) (fun h95_7 => ?_) (fun h95_7 => absurd h95_7 (by omega))
              refine g_iconst dX4_divide_112 ?_
              refine g_st2 (ls2 := [(4, _), (0, _), (1, _), (2, _), (3, _)]) dX4_divide_113 (by decide) (c1_cr (c1_ci (c1_ci (c1_ci (c1_ci c1_0))))) rfl ?_
              refine g_sub [1, 2, 3, 4, 0] (ls2 := [(0, _), (1, _), (2, _), (3, _), (4, _)]) rfl ?_
              have hQ115 : (fun i : Nat => GW mX4_divide (pr (some (gi (if divE B (k : Int) = 0 then prcN B (k : Int) else 0))) L (if divE B (k : Int) = 0 then divR B A ((k : Int)).toNat else gup A 20 0 (divE B (k : Int) : Nat))) 0 0 115 [(0, gr (20)), (1, gi ((k : Int))), (2, gi (prcN B k)), (3, gi ((sumF (cwP B k) (B 3 2).toNat))), (4, gi ((i : Int)))] [] L ((dvR (clN B 10 8) (clN (gup A 20 0 0) 43 8) k (sumF (cwP B k) (B 3 2).toNat) i))) 0 := by
                refine lp_up (Q := (fun i : Nat => GW mX4_divide (pr (some (gi (if divE B (k : Int) = 0 then prcN B (k : Int) else 0))) L (if divE B (k : Int) = 0 then divR B A ((k : Int)).toNat else gup A 20 0 (divE B (k : Int) : Nat))) 0 0 115 [(0, gr (20)), (1, gi ((k : Int))), (2, gi (prcN B k)), (3, gi ((sumF (cwP B k) (B 3 2).toNat))), (4, gi ((i : Int)))] [] L ((dvR (clN B 10 8) (clN (gup A 20 0 0) 43 8) k (sumF (cwP B k) (B 3 2).toNat) i)))) (n := (prcN B k).toNat) ?_ (fun i hi115 ih115 => ?_)
                · skip
                  refine g_iload 4 dX4_divide_115 rfl ?_
                  refine g_iload_n 2 dX4_divide_117 rfl rfl ?_
                  refine g_icmp_ge (tgt := 168) (by omega) (by omega) dX4_divide_118 (by decide) (fun h118_8 => ?_) (fun h118_8 => absurd h118_8 (by omega))
                  refine g_iload_n 2 dX4_divide_168 rfl rfl ?_
                  exact g_iret dX4_divide_169 rfl (Nat.le_of_ble_eq_true rfl) (Nat.le_of_ble_eq_true rfl) (pr_i (by first | (rw [show divE B x = 0 from by unfold divE prcN at *; grind, if_pos rfl]; (try unfold id); (first | done | (rfl))) | (rw [show divE B x = 1 from by unfold divE prcN at *; grind]; rfl) | (rw [show divE B x = 2 from by unfold divE prcN at *; grind]; rfl) | (rw [show divE B (k : Int) = 0 from by unfold divE prcN at *; grind, if_pos rfl]; (try unfold id); (first | done | (rfl))) | (rw [show divE B (k : Int) = 1 from by unfold divE prcN at *; grind]; rfl) | (rw [show divE B (k : Int) = 2 from by unfold divE prcN at *; grind]; rfl)) (by first | (rw [show divE B x = 0 from by unfold divE prcN at *; grind]; rfl) | (rw [show divE B x = 1 from by unfold divE prcN at *; grind]; rfl) | (rw [show divE B x = 2 from by unfold divE prcN at *; grind]; rfl) | (rw [show divE B (k : Int) = 0 from by unfold divE prcN at *; grind]; rfl) | (rw [show divE B (k : Int) = 1 from by unfold divE prcN at *; grind]; rfl) | (rw [show divE B (k : Int) = 2 from by unfold divE prcN at *; grind]; rfl)))
                · skip
                  have hinv := div_inv hV hI hR hk (sumF (cwP B k) (B 3 2).toNat) i (by omega)
                  have hki : (k : Int) < (dvM (clN B 10 8) k (sumF (cwP B k) (B 3 2).toNat) i) 2 2 := by rw [hinv.2.2.2.2.2.1]; exact hk
                  have e3 : ((dvM (clN B 10 8) k (sumF (cwP B k) (B 3 2).toNat) i) 3 2).toNat = (B 3 2).toNat := by rw [hinv.2.2.2.2.2.2.1]
                  have hds := dvS_inv (w := (sumF (cwP B k) (B 3 2).toNat)) hinv.1 hinv.2.1 hinv.2.2.1 hki (by rw [e3, hinv.2.2.2.2.1]; omega)
                  have hdp := dvp_lt (w := (sumF (cwP B k) (B 3 2).toNat)) hinv.1 hki
                  have hdn : ((dvs (dvM (clN B 10 8) k (sumF (cwP B k) (B 3 2).toNat) i) k : Nat) : Int) < 100 := by (have := hds.1; rw [hinv.2.2.2.2.2.2.1] at this; omega)
                  refine g_iload 4 dX4_divide_115 rfl ?_
                  refine g_iload_n 2 dX4_divide_117 rfl rfl ?_
                  refine g_icmp_ge (tgt := 168) (by omega) (by omega) dX4_divide_118 (by decide) (fun h118_9 => absurd h118_9 (by omega)) (fun h118_9 => ?_)
                  refine g_aload_n 0 dX4_divide_121 rfl rfl ?_
                  refine g_iload_n 1 dX4_divide_122 rfl rfl ?_
                  refine g_cV_i (My := mX4_greatest) (gs := [_]) (c_X4_greatest hM hinv.1 hinv.2.2.1 hinv.2.1 (k := (k : Int)) (by omega)) mfX4_greatest cf_5 wi_X4_greatest wsl_X4_greatest wm_X4_205 dX4_divide_123 (Nat.le_of_ble_eq_true rfl) rfl (by decide) (n2 (hM 20 rfl)) rfl (fun _ => Nat.le_of_ble_eq_true rfl) (Nat.le_of_ble_eq_true rfl) (Nat.le_of_ble_eq_true rfl) rfl rfl ?_
                  have q1 : grF (inpC (dvM (clN B 10 8) k (sumF (cwP B k) (B 3 2).toNat) i) k) (fun s => (dvM (clN B 10 8) k (sumF (cwP B k) (B 3 2).toNat) i) (200 + 3 * s) 3) ((dvM (clN B 10 8) k (sumF (cwP B k) (B 3 2).toNat) i) 3 2).toNat = ((dvs (dvM (clN B 10 8) k (sumF (cwP B k) (B 3 2).toNat) i) k : Nat) : Int) := by rw [gr_hv (fun j hj q => (inp_w hinv.1 hinv.2.1 j hj q).1)]; exact hds.2.2.2.2.2.2
                  refine g_top q1 ?_
                  refine g_st2 (ls2 := [(5, _), (0, _), (1, _), (2, _), (3, _), (4, _)]) dX4_divide_126 (by decide) (c1_cr (c1_ci (c1_ci (c1_ci (c1_ci c1_0))))) rfl ?_
                  refine g_aload_n 1 dX4_divide_128 rfl rfl ?_
                  refine g_iload_n 2 dX4_divide_129 rfl rfl ?_
                  refine g_iload_n 4 dX4_divide_130 rfl rfl ?_
                  refine g_cV_i (My := mX4_next) (gs := [_, _]) (c_X4_next hM hinv.1 hinv.2.2.1 hki (w := (sumF (cwP B k) (B 3 2).toNat)) hw (fun p hp => by have := hinv.2.2.2.1 p hp; omega)) mfX4_next cf_5 wi_X4_next wsl_X4_next wm_X4_208 dX4_divide_131 (Nat.le_of_ble_eq_true rfl) rfl (by decide) (n2 (hM 20 rfl)) rfl (fun _ => Nat.le_of_ble_eq_true rfl) (Nat.le_of_ble_eq_true rfl) (Nat.le_of_ble_eq_true rfl) rfl rfl ?_
                  have q2 : nxF ((dvM (clN B 10 8) k (sumF (cwP B k) (B 3 2).toNat) i) (101 + 3 * k)) ((dvR (clN B 10 8) (clN (gup A 20 0 0) 43 8) k (sumF (cwP B k) (B 3 2).toNat) i) 43) (sumF (cwP B k) (B 3 2).toNat) 8 = ((dvp (dvM (clN B 10 8) k (sumF (cwP B k) (B 3 2).toNat) i) k (sumF (cwP B k) (B 3 2).toNat) : Nat) : Int) := nx_mw (by have := (vc_cv hinv.1 hki).1; omega) (by have := (iv_k hinv.2.1 hki).1; omega) (fun p hp => (hinv.2.2.2.1 p hp).1)
                  refine g_top q2 ?_
                  refine g_st2 (ls2 := [(6, _), (5, _), (0, _), (1, _), (2, _), (3, _), (4, _)]) dX4_divide_134 (by decide) (c1_ci (c1_cr (c1_ci (c1_ci (c1_ci (c1_ci c1_0)))))) rfl ?_
                  refine g_aload_n 2 dX4_divide_136 rfl rfl ?_
                  refine g_getfr2 (r := 48) cf_5 27 rfl (by decide) (by decide) rfl (by decide) wf_X4_80 dX4_divide_137 (hM 20 rfl) rfl ?_
                  refine g_iload 1 dX4_divide_140 rfl ?_
                  refine g_iload 0 dX4_divide_142 rfl ?_
                  refine g_iast (dvs (dvM (clN B 10 8) k (sumF (cwP B k) (B 3 2).toNat) i) k) (by omega) (by omega) (by omega) rfl (by decide) dX4_divide_144 (n2 (hM 48 rfl)) ?_
                  refine g_aload_n 2 dX4_divide_145 rfl rfl ?_
                  refine g_getfr2 (r := 43) cf_5 22 rfl (by decide) (by decide) rfl (by decide) wf_X4_68 dX4_divide_146 (hM 20 rfl) rfl ?_
                  refine g_iload 0 dX4_divide_149 rfl ?_
                  refine g_dup2 dX4_divide_151 (c1_i _) (c1_r _) ?_
                  refine g_iald (dvp (dvM (clN B 10 8) k (sumF (cwP B k) (B 3 2).toNat) i) k (sumF (cwP B k) (B 3 2).toNat)) (by omega) (by omega) rfl (by decide) dX4_divide_152 (n2 (hM 43 rfl)) (fun h152_10 => ?_)
                  refine g_top (y := (dvR (clN B 10 8) (clN (gup A 20 0 0) 43 8) k (sumF (cwP B k) (B 3 2).toNat) i) 43 (dvp (dvM (clN B 10 8) k (sumF (cwP B k) (B 3 2).toNat) i) k (sumF (cwP B k) (B 3 2).toNat))) (by rw [gup_ne (by omega)]) ?_
                  have q3 := hinv.2.2.2.1 _ hdp
                  refine g_aload_n 2 dX4_divide_153 rfl rfl ?_
                  refine g_getfr2 (r := 45) cf_5 24 rfl (by decide) (by decide) rfl (by decide) wf_X4_71 dX4_divide_154 (hM 20 rfl) rfl ?_
                  refine g_iload 1 dX4_divide_157 rfl ?_
                  refine g_iald (dvs (dvM (clN B 10 8) k (sumF (cwP B k) (B 3 2).toNat) i) k) (by omega) (by omega) rfl (by decide) dX4_divide_159 (n2 (hM 45 rfl)) (fun h159_11 => ?_)
                  refine g_top (y := (dvR (clN B 10 8) (clN (gup A 20 0 0) 43 8) k (sumF (cwP B k) (B 3 2).toNat) i) 45 (dvs (dvM (clN B 10 8) k (sumF (cwP B k) (B 3 2).toNat) i) k)) (by rw [gup_ne (by omega)]) ?_
                  have q4 := (rl_s hinv.2.2.1 hds.1).1
                  refine g_iadd dX4_divide_160 ?_
                  refine g_iast (dvp (dvM (clN B 10 8) k (sumF (cwP B k) (B 3 2).toNat) i) k (sumF (cwP B k) (B 3 2).toNat)) (by omega) (by omega) (by omega) rfl (by decide) dX4_divide_161 (n2 (hM 43 rfl)) ?_
                  refine g_inc (ls2 := [(4, _), (6, _), (5, _), (0, _), (1, _), (2, _), (3, _)]) 6 dX4_divide_162 rfl (by decide) (c1_ci (c1_ci (c1_cr (c1_ci (c1_ci (c1_ci (c1_ci c1_0))))))) rfl ?_
                  refine g_goto (tgt := 115) dX4_divide_165 (by decide) ?_
                  refine g_sub [3, 4, 5, 6, 0] (ls2 := [(0, _), (1, _), (2, _), (3, _), (4, _)]) rfl ?_
                  exact g_ls (by rfl) rfl rfl ih115
              exact g_ls (by rfl) rfl rfl hQ115
            · skip
              refine g_iload 4 dX4_divide_91 rfl ?_
              refine g_bipush dX4_divide_93 (by decide) ?_
              refine g_icmp_ge (tgt := 112) (by omega) (by omega) dX4_divide_95 (by decide) (fun h95_12 => absurd h95_12 (by omega)) (fun h95_12 => ?_)
              refine g_aload_n 0 dX4_divide_98 rfl rfl ?_
              refine g_getfr2 (r := 43) cf_5 22 rfl (by decide) (by decide) rfl (by decide) wf_X4_68 dX4_divide_99 (hM 20 rfl) rfl ?_
              refine g_iload 4 dX4_divide_102 rfl ?_
              refine g_iconst dX4_divide_104 ?_
              refine g_iast (i) (by omega) (by omega) (by omega) rfl (by decide) dX4_divide_105 (n2 (hM 43 rfl)) ?_
              refine g_inc (ls2 := [(4, _), (0, _), (1, _), (2, _), (3, _)]) 4 dX4_divide_106 rfl (by decide) (c1_cr (c1_ci (c1_ci (c1_ci (c1_ci c1_0))))) rfl ?_
              refine g_goto (tgt := 91) dX4_divide_109 (by decide) ?_
              refine g_sub [1, 2, 3, 4, 0] (ls2 := [(0, _), (1, _), (2, _), (3, _), (4, _)]) rfl ?_
              exact g_ls (by rfl) rfl rfl ih91
          exact g_ls (by rfl) rfl rfl hQ91
        · skip
          have hs : (i : Int) < B 3 2 := by omega
          have e1 := (rl_s (rl_th hR 0) hs).1
          refine g_iload 4 dX4_divide_49 rfl ?_
          refine g_aload_n 0 dX4_divide_51 rfl rfl ?_
          refine g_getfi cf_5 23 rfl (by decide) (by decide) rfl (by decide) wf_X4_115 dX4_divide_52 (n2 (hM 20 rfl)) (fun h52_13 => ?_)
          refine g_icmp_ge (tgt := 88) (by omega) (by omega) dX4_divide_55 (by decide) (fun h55_14 => absurd h55_14 (by omega)) (fun h55_14 => ?_)
          refine g_iload_n 3 dX4_divide_58 rfl rfl ?_
          refine g_aload_n 0 dX4_divide_59 rfl rfl ?_
          refine g_iload 4 dX4_divide_60 rfl ?_
          refine g_iload_n 1 dX4_divide_62 rfl rfl ?_
          refine g_cV_i (My := mX4_isIn) (gs := [_, _]) (c_X4_isIn hM hV (rl_th hR _) hI (s := i) (by omega) (k := (k : Int)) (by omega)) mfX4_isIn cf_5 wi_X4_isIn wsl_X4_isIn wm_X4_199 dX4_divide_63 (Nat.le_of_ble_eq_true rfl) rfl (by decide) (n2 (hM 20 rfl)) rfl (fun _ => Nat.le_of_ble_eq_true rfl) (Nat.le_of_ble_eq_true rfl) (Nat.le_of_ble_eq_true rfl) rfl rfl ?_
          refine g_ifb_eq (tgt := 79) dX4_divide_66 (by decide) (fun h66_15 => ?_) (fun h66_15 => ?_)
          · skip
            refine g_iconst dX4_divide_79 ?_
            refine g_iadd dX4_divide_80 ?_
            refine g_st (ls2 := [(3, _), (0, _), (1, _), (2, _), (4, _)]) dX4_divide_81 rfl (by decide) (c1_cr (c1_ci (c1_ci (c1_ci (c1_ci c1_0))))) rfl ?_
            refine g_inc (ls2 := [(4, _), (3, _), (0, _), (1, _), (2, _)]) 4 dX4_divide_82 rfl (by decide) (c1_ci (c1_cr (c1_ci (c1_ci (c1_ci c1_0))))) rfl ?_
            refine g_goto (tgt := 49) dX4_divide_85 (by decide) ?_
            refine g_sub [2, 3, 4, 1, 0] (ls2 := [(0, _), (1, _), (2, _), (3, _), (4, _)]) rfl ?_
            first | exact g_ls (by simp only [sumF]; rw [show cwP B k i = B (200 + 3 * i) 3 from by unfold cwP; grind, e1]; rfl) rfl rfl ih49 | exact g_ls (by simp only [sumF]; rw [show cwP B k i = 0 from by unfold cwP; grind]; rfl) rfl rfl ih49
          · skip
            refine g_aload_n 0 dX4_divide_69 rfl rfl ?_
            refine g_getfr2 (r := 45) cf_5 24 rfl (by decide) (by decide) rfl (by decide) wf_X4_71 dX4_divide_70 (hM 20 rfl) rfl ?_
            refine g_iload 4 dX4_divide_73 rfl ?_
            refine g_iald (i) (by omega) (by omega) rfl (by decide) dX4_divide_75 (n2 (hM 45 rfl)) (fun h75_16 => ?_)
            refine g_goto (tgt := 80) dX4_divide_76 (by decide) ?_
            refine g_iadd dX4_divide_80 ?_
            refine g_st (ls2 := [(3, _), (0, _), (1, _), (2, _), (4, _)]) dX4_divide_81 rfl (by decide) (c1_cr (c1_ci (c1_ci (c1_ci (c1_ci c1_0))))) rfl ?_
            refine g_inc (ls2 := [(4, _), (3, _), (0, _), (1, _), (2, _)]) 4 dX4_divide_82 rfl (by decide) (c1_ci (c1_cr (c1_ci (c1_ci (c1_ci c1_0))))) rfl ?_
            refine g_goto (tgt := 49) dX4_divide_85 (by decide) ?_
            refine g_sub [2, 3, 4, 1, 0] (ls2 := [(0, _), (1, _), (2, _), (3, _), (4, _)]) rfl ?_
            first | exact g_ls (by simp only [sumF]; rw [show cwP B k i = B (200 + 3 * i) 3 from by unfold cwP; grind, e1]; rfl) rfl rfl ih49 | exact g_ls (by simp only [sumF]; rw [show cwP B k i = 0 from by unfold cwP; grind]; rfl) rfl rfl ih49
      exact g_ls (by rfl) rfl rfl hQ49
    · skip
      refine g_iconst dX4_divide_21 ?_
      refine g_goto (tgt := 26) dX4_divide_22 (by decide) ?_
      refine g_putfi cf_5 0 rfl (by decide) (by decide) rfl (by decide) wf_X4_104 (Or.inl rfl) rfl dX4_divide_26 (n2 (hM 20 rfl)) (by omega) ?_
      refine g_aload_n 0 dX4_divide_29 rfl rfl ?_
      refine g_getfi cf_5 0 rfl (by decide) (by decide) rfl (by decide) wf_X4_104 dX4_divide_30 (n2 (hM 20 rfl)) (fun h30_17 => ?_)
      refine g_top (y := 2) (gup_at _ _ _ _) ?_
      refine g_if_le (tgt := 38) (by omega) dX4_divide_33 (by decide) (fun h33_18 => absurd h33_18 (by omega)) (fun h33_18 => ?_)
      refine g_iconst dX4_divide_36 ?_
      exact g_iret dX4_divide_37 rfl (Nat.le_of_ble_eq_true rfl) (Nat.le_of_ble_eq_true rfl) (pr_i (by first | (rw [show divE B x = 0 from by unfold divE prcN at *; grind, if_pos rfl]; (try unfold id); (first | done | (rfl))) | (rw [show divE B x = 1 from by unfold divE prcN at *; grind]; rfl) | (rw [show divE B x = 2 from by unfold divE prcN at *; grind]; rfl) | (rw [show divE B (k : Int) = 0 from by unfold divE prcN at *; grind, if_pos rfl]; (try unfold id); (first | done | (rfl))) | (rw [show divE B (k : Int) = 1 from by unfold divE prcN at *; grind]; rfl) | (rw [show divE B (k : Int) = 2 from by unfold divE prcN at *; grind]; rfl)) (by first | (rw [show divE B x = 0 from by unfold divE prcN at *; grind]; rfl) | (rw [show divE B x = 1 from by unfold divE prcN at *; grind]; rfl) | (rw [show divE B x = 2 from by unfold divE prcN at *; grind]; rfl) | (rw [show divE B (k : Int) = 0 from by unfold divE prcN at *; grind]; rfl) | (rw [show divE B (k : Int) = 1 from by unfold divE prcN at *; grind]; rfl) | (rw [show divE B (k : Int) = 2 from by unfold divE prcN at *; grind]; rfl)))
  · skip
    refine g_cV_i (My := mX4_isClaim) (gs := [_]) (c_X4_isClaim hM hV hR (by omega)) mfX4_isClaim cf_5 wi_X4_isClaim wsl_X4_isClaim wm_X4_142 dX4_divide_3 (Nat.le_of_ble_eq_true rfl) rfl (by decide) (n2 (hM 20 rfl)) rfl (fun _ => Nat.le_of_ble_eq_true rfl) (Nat.le_of_ble_eq_true rfl) (Nat.le_of_ble_eq_true rfl) rfl rfl ?_
    refine g_top (y := 0) (by rw [decide_eq_false hs3]; rfl) ?_
    refine g_if_ne (tgt := 13) (by omega) dX4_divide_6 (by decide) (fun h6_19 => absurd h6_19 (by omega)) (fun h6_19 => ?_)
    refine g_iconst dX4_divide_9 ?_
    refine g_goto (tgt := 26) dX4_divide_10 (by decide) ?_
    refine g_putfi cf_5 0 rfl (by decide) (by decide) rfl (by decide) wf_X4_104 (Or.inl rfl) rfl dX4_divide_26 (n2 (hM 20 rfl)) (by omega) ?_
    refine g_aload_n 0 dX4_divide_29 rfl rfl ?_
    refine g_getfi cf_5 0 rfl (by decide) (by decide) rfl (by decide) wf_X4_104 dX4_divide_30 (n2 (hM 20 rfl)) (fun h30_20 => ?_)
    refine g_top (y := 1) (gup_at _ _ _ _) ?_
    refine g_if_le (tgt := 38) (by omega) dX4_divide_33 (by decide) (fun h33_21 => absurd h33_21 (by omega)) (fun h33_21 => ?_)
    refine g_iconst dX4_divide_36 ?_
    exact g_iret dX4_divide_37 rfl (Nat.le_of_ble_eq_true rfl) (Nat.le_of_ble_eq_true rfl) (pr_i (by first | (rw [show divE B x = 0 from by unfold divE prcN at *; grind, if_pos rfl]; (try unfold id); (first | done | (rfl))) | (rw [show divE B x = 1 from by unfold divE prcN at *; grind]; rfl) | (rw [show divE B x = 2 from by unfold divE prcN at *; grind]; rfl) | (rw [show divE B (k : Int) = 0 from by unfold divE prcN at *; grind, if_pos rfl]; (try unfold id); (first | done | (rfl))) | (rw [show divE B (k : Int) = 1 from by unfold divE prcN at *; grind]; rfl) | (rw [show divE B (k : Int) = 2 from by unfold divE prcN at *; grind]; rfl)) (by first | (rw [show divE B x = 0 from by unfold divE prcN at *; grind]; rfl) | (rw [show divE B x = 1 from by unfold divE prcN at *; grind]; rfl) | (rw [show divE B x = 2 from by unfold divE prcN at *; grind]; rfl) | (rw [show divE B (k : Int) = 0 from by unfold divE prcN at *; grind]; rfl) | (rw [show divE B (k : Int) = 1 from by unfold divE prcN at *; grind]; rfl) | (rw [show divE B (k : Int) = 2 from by unfold divE prcN at *; grind]; rfl)))

