/-- what holds of a claim, of a stone, of the class's world beside its values' ranges -/
def IVk (B : Mem) (k : Nat) : Prop := 1 ≤ B (101 + 3 * k) (B (100 + 3 * k) 0).toNat ∧ (1 ≤ B (100 + 3 * k) 3 ∧ 1 ≤ B (100 + 3 * k) 4 ∧ B (100 + 3 * k) 1 + B (100 + 3 * k) 3 ≤ 10 ∧ B (100 + 3 * k) 2 + B (100 + 3 * k) 4 ≤ 10) ∧ trapC B k 100 ≤ 3
def IVs (B : Mem) (s : Nat) : Prop := (B (200 + 3 * s) 6 = -1 → B (200 + 3 * s) 7 = -1 ∧ B (200 + 3 * s) 5 = 0 ∧ 1 ≤ B (200 + 3 * s) 3) ∧ (∀ b : Nat, b < 5 → 0 < B (201 + 3 * s) b → B (202 + 3 * s) b < B (200 + 3 * s) 8) ∧ (∀ b c : Nat, b < 5 → c < 5 → 0 < B (201 + 3 * s) b → 0 < B (201 + 3 * s) c → B (202 + 3 * s) b = B (202 + 3 * s) c → b = c) ∧ B (200 + 3 * s) 8 = cntF (fun b => decide (0 < B (201 + 3 * s) b)) 5 ∧ B (200 + 3 * s) 3 + B (200 + 3 * s) 4 ≤ 999
def IV (B : Mem) : Prop := (∀ c, B 12 c ≠ 1 → B 16 c = 0) ∧ (∀ c, 0 < B 14 c → 0 < B 13 c) ∧ B 3 2 + cntF (fun c => decide (0 < B 14 c)) 100 ≤ cntF (fun c => decide (0 < B 13 c)) 100 ∧ sumF (B 6) 8 + sumF (B 9) 5 = 100000 ∧ (∀ k : Nat, (k : Int) < B 2 2 → IVk B k) ∧ (∀ s : Nat, (s : Int) < B 3 2 → IVs B s) ∧ ∀ c : Nat, ¬ c < 100 → B 14 c = 0 ∧ B 17 c = -1
section GIV
variable {B : Mem}
theorem iv_p (h : IV B) : ∀ c, B 12 c ≠ 1 → B 16 c = 0 := h.1
theorem iv_t (h : IV B) : ∀ c, 0 < B 14 c → 0 < B 13 c := h.2.1
theorem iv_n (h : IV B) : B 3 2 + cntF (fun c => decide (0 < B 14 c)) 100 ≤ cntF (fun c => decide (0 < B 13 c)) 100 := h.2.2.1
theorem iv_m (h : IV B) : sumF (B 6) 8 + sumF (B 9) 5 = 100000 := h.2.2.2.1
theorem iv_k (h : IV B) {k : Nat} (hk : (k : Int) < B 2 2) : IVk B k := h.2.2.2.2.1 k hk
theorem iv_s (h : IV B) {s : Nat} (hs : (s : Int) < B 3 2) : IVs B s := h.2.2.2.2.2.1 s hs
theorem iv_z (h : IV B) : ∀ c : Nat, ¬ c < 100 → B 14 c = 0 ∧ B 17 c = -1 := h.2.2.2.2.2.2
end GIV
theorem cntF_pos {f : Nat → Bool} {n j : Nat} (hj : j < n) (h : f j = true) : 1 ≤ cntF f n := by
  induction n with
  | zero => omega
  | succ n ih =>
    have h1 := cntF_rg f n
    simp only [cntF]
    by_cases e : j = n
    · subst e; rw [h]; simp only [b2_t]; omega
    · have := ih (by omega)
      have h2 : 0 ≤ b2 (f n) := by rcases b2_01 (f n) with q | q <;> omega
      omega
theorem iv_room {B : Mem} (h : IV B) {c : Int} (hc : 0 ≤ c ∧ c < 100) (h0 : 0 < B 14 c.toNat) : B 3 2 < 100 := by
  have h1 := iv_n h
  have h2 := cntF_pos (f := fun c => decide (0 < B 14 c)) (n := 100) (j := c.toNat) (by omega) (decide_eq_true h0)
  have h3 := cntF_rg (fun c => decide (0 < B 13 c)) 100
  omega
def digE (B : Mem) (x p c : Int) : Nat := if ahE B x p c ≠ 0 then ahE B x p c else if digB B c = true then 0 else 2
def sinE (B : Mem) (x p c : Int) : Nat := if ahE B x p c ≠ 0 then ahE B x p c else if B 12 c.toNat = 1 ∨ 2 ≤ B (100 + 3 * x.toNat) 7 then 2 else 0
def ratE (B : Mem) (p c : Int) : Nat := if ¬ ((0 ≤ p ∧ p < 8) ∧ 0 ≤ c ∧ c < 100) then 1 else if nigB (B 0 9) = true ∧ brdC B p = 0 ∧ hldC B c ≠ -1 ∧ ¬ 0 < B (101 + 3 * (hldC B c).toNat) p.toNat ∧ digB B c = true then 0 else 2
theorem opB_in {B : Mem} {c : Int} (hc : 0 ≤ c ∧ c < 100) : opB B c = decide (B 12 c.toNat = 1) := by unfold opB; simp [hc]

set_option maxRecDepth 20000 in
theorem c_X4_pass {L : Nat → Nat} {A B : Mem} (hM : LM L) (hV : VC L B) (hR : Rel B A) {x : Int} (hx : -2147483648 ≤ x ∧ x < 2147483648) : Ct mX4_pass [gr 20, gi x] L A (pr (some (gi (if passE B x = 0 then A 20 1 + x else 0))) L (if passE B x = 0 then gup (gup A 20 0 0) 20 1 (A 20 1 + x) else gup A 20 0 (passE B x : Nat))) := by
  have hnc := vc_nc hV; have hns := vc_ns hV; have hp0 := (vc_p hV).1
  have rnow := rl_now hR; have rnc := rl_nc hR; have rns := rl_ns hR
  have hp0 := (vc_p hV).1
  refine Ct_of (ls := [(0, _), (1, _)]) rfl (by decide) (fun _ => rfl) (fun _ => Nat.le_of_ble_eq_true rfl) ?_
  refine g_aload_n 0 dX4_pass_0 rfl rfl ?_
  refine g_iload_n 1 dX4_pass_1 rfl rfl ?_
  refine g_iconst dX4_pass_2 ?_
  refine g_bipush dX4_pass_3 (by decide) ?_
  refine g_cS_i (My := mX4_in) (gs := [_, _, _]) (c_X4_in (by omega) (by omega) (by omega)) mfX4_in rfl wst_X4_in wm_X4_108 dX4_pass_5 (Nat.le_of_ble_eq_true rfl) rfl (fun _ => Nat.le_of_ble_eq_true rfl) (Nat.le_of_ble_eq_true rfl) (Nat.le_of_ble_eq_true rfl) rfl rfl ?_
  refine g_ifb_ne (tgt := 15) dX4_pass_8 (by decide) (fun h8_1 => ?_) (fun h8_1 => ?_)
  · skip
    refine g_aload_n 0 dX4_pass_15 rfl rfl ?_
    refine g_getfi cf_5 1 rfl (by decide) (by decide) rfl (by decide) wf_X4_118 dX4_pass_16 (n2 (hM 20 rfl)) (fun h16_2 => ?_)
    refine g_iload_n 1 dX4_pass_19 rfl rfl ?_
    refine g_iadd dX4_pass_20 ?_
    refine g_sipush dX4_pass_21 (by decide) ?_
    refine g_icmp_le (tgt := 31) (by first | omega | (simp only [inB, cellB, decide_eq_true_eq, decide_eq_false_iff_not] at *; omega)) (by first | omega | (simp only [inB, cellB, decide_eq_true_eq, decide_eq_false_iff_not] at *; omega)) dX4_pass_24 (by decide) (fun h24_3 => ?_) (fun h24_3 => ?_)
    · skip
      skip
      refine g_iconst dX4_pass_31 ?_
      refine g_putfi cf_5 0 rfl (by decide) (by decide) rfl (by decide) wf_X4_104 (Or.inl rfl) rfl dX4_pass_32 (n2 (hM 20 rfl)) (by first | omega | (simp only [inB, cellB, decide_eq_true_eq, decide_eq_false_iff_not] at *; omega)) ?_
      refine g_aload_n 0 dX4_pass_35 rfl rfl ?_
      refine g_getfi cf_5 0 rfl (by decide) (by decide) rfl (by decide) wf_X4_104 dX4_pass_36 (n2 (hM 20 rfl)) (fun h36_4 => ?_)
      refine g_top (y := 0) (gup_at _ _ _ _) ?_
      refine g_if_le (tgt := 44) (by first | omega | (simp only [inB, cellB, decide_eq_true_eq, decide_eq_false_iff_not] at *; omega)) dX4_pass_39 (by decide) (fun h39_5 => ?_) (fun h39_5 => absurd h39_5 (by omega))
      refine g_aload_n 0 dX4_pass_44 rfl rfl ?_
      refine g_dup dX4_pass_45 (c1_r _) ?_
      refine g_getfi cf_5 1 rfl (by decide) (by decide) rfl (by decide) wf_X4_118 dX4_pass_46 (n2 (hM 20 rfl)) (fun h46_6 => ?_)
      refine g_top (y := A 20 1) (by simp [gup_ap]) ?_
      refine g_iload_n 1 dX4_pass_49 rfl rfl ?_
      refine g_iadd dX4_pass_50 ?_
      refine g_putfi cf_5 1 rfl (by decide) (by decide) rfl (by decide) wf_X4_118 (Or.inl rfl) rfl dX4_pass_51 (n2 (hM 20 rfl)) (by first | omega | (simp only [inB, cellB, decide_eq_true_eq, decide_eq_false_iff_not] at *; omega)) ?_
      refine g_aload_n 0 dX4_pass_54 rfl rfl ?_
      refine g_getfi cf_5 1 rfl (by decide) (by decide) rfl (by decide) wf_X4_118 dX4_pass_55 (n2 (hM 20 rfl)) (fun h55_7 => ?_)
      refine g_top (y := A 20 1 + x) (by simp [gup_ap]) ?_
      exact g_iret dX4_pass_58 rfl (Nat.le_of_ble_eq_true rfl) (Nat.le_of_ble_eq_true rfl) (pr_i (by first | (rw [show passE B x = 0 from by simp only [passE, inB, cellB, decide_eq_true_eq, decide_eq_false_iff_not] at *; grind]; rfl) | (rw [show passE B (k : Int) = 0 from by simp only [passE, inB, cellB, decide_eq_true_eq, decide_eq_false_iff_not] at *; grind]; rfl) | (rw [show passE B x = 1 from by simp only [passE, inB, cellB, decide_eq_true_eq, decide_eq_false_iff_not] at *; grind]; rfl) | (rw [show passE B (k : Int) = 1 from by simp only [passE, inB, cellB, decide_eq_true_eq, decide_eq_false_iff_not] at *; grind]; rfl) | (rw [show passE B x = 2 from by simp only [passE, inB, cellB, decide_eq_true_eq, decide_eq_false_iff_not] at *; grind]; rfl) | (rw [show passE B (k : Int) = 2 from by simp only [passE, inB, cellB, decide_eq_true_eq, decide_eq_false_iff_not] at *; grind]; rfl)) (by first | (rw [show passE B x = 0 from by simp only [passE, inB, cellB, decide_eq_true_eq, decide_eq_false_iff_not] at *; grind]; rfl) | (rw [show passE B (k : Int) = 0 from by simp only [passE, inB, cellB, decide_eq_true_eq, decide_eq_false_iff_not] at *; grind]; rfl) | (rw [show passE B x = 1 from by simp only [passE, inB, cellB, decide_eq_true_eq, decide_eq_false_iff_not] at *; grind]; rfl) | (rw [show passE B (k : Int) = 1 from by simp only [passE, inB, cellB, decide_eq_true_eq, decide_eq_false_iff_not] at *; grind]; rfl) | (rw [show passE B x = 2 from by simp only [passE, inB, cellB, decide_eq_true_eq, decide_eq_false_iff_not] at *; grind]; rfl) | (rw [show passE B (k : Int) = 2 from by simp only [passE, inB, cellB, decide_eq_true_eq, decide_eq_false_iff_not] at *; grind]; rfl)))
    · skip
      refine g_iconst dX4_pass_27 ?_
      refine g_goto (tgt := 32) dX4_pass_28 (by decide) ?_
      refine g_putfi cf_5 0 rfl (by decide) (by decide) rfl (by decide) wf_X4_104 (Or.inl rfl) rfl dX4_pass_32 (n2 (hM 20 rfl)) (by first | omega | (simp only [inB, cellB, decide_eq_true_eq, decide_eq_false_iff_not] at *; omega)) ?_
      refine g_aload_n 0 dX4_pass_35 rfl rfl ?_
      refine g_getfi cf_5 0 rfl (by decide) (by decide) rfl (by decide) wf_X4_104 dX4_pass_36 (n2 (hM 20 rfl)) (fun h36_8 => ?_)
      refine g_top (y := 2) (gup_at _ _ _ _) ?_
      refine g_if_le (tgt := 44) (by first | omega | (simp only [inB, cellB, decide_eq_true_eq, decide_eq_false_iff_not] at *; omega)) dX4_pass_39 (by decide) (fun h39_9 => absurd h39_9 (by omega)) (fun h39_9 => ?_)
      refine g_iconst dX4_pass_42 ?_
      exact g_iret dX4_pass_43 rfl (Nat.le_of_ble_eq_true rfl) (Nat.le_of_ble_eq_true rfl) (pr_i (by first | (rw [show passE B x = 0 from by simp only [passE, inB, cellB, decide_eq_true_eq, decide_eq_false_iff_not] at *; grind]; rfl) | (rw [show passE B (k : Int) = 0 from by simp only [passE, inB, cellB, decide_eq_true_eq, decide_eq_false_iff_not] at *; grind]; rfl) | (rw [show passE B x = 1 from by simp only [passE, inB, cellB, decide_eq_true_eq, decide_eq_false_iff_not] at *; grind]; rfl) | (rw [show passE B (k : Int) = 1 from by simp only [passE, inB, cellB, decide_eq_true_eq, decide_eq_false_iff_not] at *; grind]; rfl) | (rw [show passE B x = 2 from by simp only [passE, inB, cellB, decide_eq_true_eq, decide_eq_false_iff_not] at *; grind]; rfl) | (rw [show passE B (k : Int) = 2 from by simp only [passE, inB, cellB, decide_eq_true_eq, decide_eq_false_iff_not] at *; grind]; rfl)) (by first | (rw [show passE B x = 0 from by simp only [passE, inB, cellB, decide_eq_true_eq, decide_eq_false_iff_not] at *; grind]; rfl) | (rw [show passE B (k : Int) = 0 from by simp only [passE, inB, cellB, decide_eq_true_eq, decide_eq_false_iff_not] at *; grind]; rfl) | (rw [show passE B x = 1 from by simp only [passE, inB, cellB, decide_eq_true_eq, decide_eq_false_iff_not] at *; grind]; rfl) | (rw [show passE B (k : Int) = 1 from by simp only [passE, inB, cellB, decide_eq_true_eq, decide_eq_false_iff_not] at *; grind]; rfl) | (rw [show passE B x = 2 from by simp only [passE, inB, cellB, decide_eq_true_eq, decide_eq_false_iff_not] at *; grind]; rfl) | (rw [show passE B (k : Int) = 2 from by simp only [passE, inB, cellB, decide_eq_true_eq, decide_eq_false_iff_not] at *; grind]; rfl)))
  · skip
    refine g_iconst dX4_pass_11 ?_
    refine g_goto (tgt := 32) dX4_pass_12 (by decide) ?_
    refine g_putfi cf_5 0 rfl (by decide) (by decide) rfl (by decide) wf_X4_104 (Or.inl rfl) rfl dX4_pass_32 (n2 (hM 20 rfl)) (by first | omega | (simp only [inB, cellB, decide_eq_true_eq, decide_eq_false_iff_not] at *; omega)) ?_
    refine g_aload_n 0 dX4_pass_35 rfl rfl ?_
    refine g_getfi cf_5 0 rfl (by decide) (by decide) rfl (by decide) wf_X4_104 dX4_pass_36 (n2 (hM 20 rfl)) (fun h36_10 => ?_)
    refine g_top (y := 1) (gup_at _ _ _ _) ?_
    refine g_if_le (tgt := 44) (by first | omega | (simp only [inB, cellB, decide_eq_true_eq, decide_eq_false_iff_not] at *; omega)) dX4_pass_39 (by decide) (fun h39_11 => absurd h39_11 (by omega)) (fun h39_11 => ?_)
    refine g_iconst dX4_pass_42 ?_
    exact g_iret dX4_pass_43 rfl (Nat.le_of_ble_eq_true rfl) (Nat.le_of_ble_eq_true rfl) (pr_i (by first | (rw [show passE B x = 0 from by simp only [passE, inB, cellB, decide_eq_true_eq, decide_eq_false_iff_not] at *; grind]; rfl) | (rw [show passE B (k : Int) = 0 from by simp only [passE, inB, cellB, decide_eq_true_eq, decide_eq_false_iff_not] at *; grind]; rfl) | (rw [show passE B x = 1 from by simp only [passE, inB, cellB, decide_eq_true_eq, decide_eq_false_iff_not] at *; grind]; rfl) | (rw [show passE B (k : Int) = 1 from by simp only [passE, inB, cellB, decide_eq_true_eq, decide_eq_false_iff_not] at *; grind]; rfl) | (rw [show passE B x = 2 from by simp only [passE, inB, cellB, decide_eq_true_eq, decide_eq_false_iff_not] at *; grind]; rfl) | (rw [show passE B (k : Int) = 2 from by simp only [passE, inB, cellB, decide_eq_true_eq, decide_eq_false_iff_not] at *; grind]; rfl)) (by first | (rw [show passE B x = 0 from by simp only [passE, inB, cellB, decide_eq_true_eq, decide_eq_false_iff_not] at *; grind]; rfl) | (rw [show passE B (k : Int) = 0 from by simp only [passE, inB, cellB, decide_eq_true_eq, decide_eq_false_iff_not] at *; grind]; rfl) | (rw [show passE B x = 1 from by simp only [passE, inB, cellB, decide_eq_true_eq, decide_eq_false_iff_not] at *; grind]; rfl) | (rw [show passE B (k : Int) = 1 from by simp only [passE, inB, cellB, decide_eq_true_eq, decide_eq_false_iff_not] at *; grind]; rfl) | (rw [show passE B x = 2 from by simp only [passE, inB, cellB, decide_eq_true_eq, decide_eq_false_iff_not] at *; grind]; rfl) | (rw [show passE B (k : Int) = 2 from by simp only [passE, inB, cellB, decide_eq_true_eq, decide_eq_false_iff_not] at *; grind]; rfl)))

set_option maxRecDepth 20000 in
theorem c_X4_prop {L : Nat → Nat} {A B : Mem} (hM : LM L) (hV : VC L B) (hR : Rel B A) {x p c : Int} (hx : -2147483648 ≤ x ∧ x < 2147483648) (hp : -2147483648 ≤ p ∧ p < 2147483648) (hc : -2147483648 ≤ c ∧ c < 2147483648) : Ct mX4_prop [gr 20, gi x, gi p, gi c] L A (pr none L (if proE B x p c = 0 then gup (gup A 20 0 0) 27 c.toNat 1 else gup A 20 0 (proE B x p c : Nat))) := by
  have hnc := vc_nc hV; have hns := vc_ns hV; have hp0 := (vc_p hV).1
  have rnow := rl_now hR; have rnc := rl_nc hR; have rns := rl_ns hR
  have hg := vc_g hV; have hpv := vc_p hV
  refine Ct_of (ls := [(0, _), (1, _), (2, _), (3, _)]) rfl (by decide) (fun _ => rfl) (fun _ => Nat.le_of_ble_eq_true rfl) ?_
  refine g_aload_n 0 dX4_prop_0 rfl rfl ?_
  refine g_iload_n 1 dX4_prop_1 rfl rfl ?_
  refine g_iload_n 2 dX4_prop_2 rfl rfl ?_
  refine g_iload_n 3 dX4_prop_3 rfl rfl ?_
  by_cases hs4 : ahE B x p c = 0
  · skip
    obtain ⟨k, rfl, hk, hp1, hc1, hk1, hk2, hk3⟩ := ahE_0 hs4
    have rk := rl_k hR hk; have hcv := vc_cv hV hk; have hk12 := vc_k hV hk
    refine g_cV_v (My := mX4_asks) (gs := [_, _, _]) (show Ct mX4_asks [gr 20, gi (k : Int), gi p, gi c] L A (pr none L (gup A 20 0 0)) from by (have q := c_X4_asks hM hV hR hx hp hc; rw [hs4] at q; exact q)) mfX4_asks cf_5 wi_X4_asks wsl_X4_asks wm_X4_178 dX4_prop_4 (Nat.le_of_ble_eq_true rfl) rfl (by decide) (n2 (hM 20 rfl)) rfl (fun _ => Nat.le_of_ble_eq_true rfl) (Nat.le_of_ble_eq_true rfl) (Nat.le_of_ble_eq_true rfl) rfl rfl ?_
    refine g_aload_n 0 dX4_prop_7 rfl rfl ?_
    refine g_getfi cf_5 0 rfl (by decide) (by decide) rfl (by decide) wf_X4_104 dX4_prop_8 (n2 (hM 20 rfl)) (fun h8_1 => ?_)
    refine g_top (y := 0) (gup_at _ _ _ _) ?_
    refine g_if_ne (tgt := 38) (by first | omega | (simp only [inB, cellB, decide_eq_true_eq, decide_eq_false_iff_not] at *; omega)) dX4_prop_11 (by decide) (fun h11_2 => absurd h11_2 (by omega)) (fun h11_2 => ?_)
    have r12 := congrFun (rl_st hR) c.toNat; have r14 := congrFun (rl_ca hR) c.toNat; have r15 := congrFun (rl_de hR) c.toNat; have r13 := rl_to hR c.toNat; have r16 := congrFun (rl_pr hR) c.toNat; have r17 := congrFun (rl_tr hR) c.toNat
    have g12 := hg.1 c.toNat; have g13 := hg.2.1 c.toNat; have g14 := hg.2.2.1 c.toNat; have g15 := hg.2.2.2.1 c.toNat; have g16 := hg.2.2.2.2.1 c.toNat; have g17 := hg.2.2.2.2.2 c.toNat
    have hR0 := rl_th hR 0; have s12 := congrFun (rl_st hR0) c.toNat; have s14 := congrFun (rl_ca hR0) c.toNat; have s15 := congrFun (rl_de hR0) c.toNat; have s13 := rl_to hR0 c.toNat; have s16 := congrFun (rl_pr hR0) c.toNat; have s17 := congrFun (rl_tr hR0) c.toNat
    refine g_aload_n 0 dX4_prop_14 rfl rfl ?_
    refine g_getfr2 (r := 23) cf_5 2 rfl (by decide) (by decide) rfl (by decide) wf_X4_7 dX4_prop_15 (hM 20 rfl) rfl ?_
    refine g_iload_n 3 dX4_prop_18 rfl rfl ?_
    refine g_iald (c.toNat) (by first | omega | (simp only [inB, cellB, decide_eq_true_eq, decide_eq_false_iff_not] at *; omega)) (by first | omega | (simp only [inB, cellB, decide_eq_true_eq, decide_eq_false_iff_not] at *; omega)) rfl (by decide) dX4_prop_19 (n2 (hM 23 rfl)) (fun h19_3 => ?_)
    refine g_iconst dX4_prop_20 ?_
    refine g_icmp_ne (tgt := 33) (by first | omega | (simp only [inB, cellB, decide_eq_true_eq, decide_eq_false_iff_not] at *; omega)) (by first | omega | (simp only [inB, cellB, decide_eq_true_eq, decide_eq_false_iff_not] at *; omega)) dX4_prop_21 (by decide) (fun h21_4 => ?_) (fun h21_4 => ?_)
    · skip
      refine g_aload_n 0 dX4_prop_33 rfl rfl ?_
      refine g_iconst dX4_prop_34 ?_
      refine g_putfi cf_5 0 rfl (by decide) (by decide) rfl (by decide) wf_X4_104 (Or.inl rfl) rfl dX4_prop_35 (n2 (hM 20 rfl)) (by first | omega | (simp only [inB, cellB, decide_eq_true_eq, decide_eq_false_iff_not] at *; omega)) ?_
      refine g_ls (A2 := gup A 20 0 2) rfl rfl (gup_tw _ _ _ _ _) ?_
      refine g_aload_n 0 dX4_prop_38 rfl rfl ?_
      refine g_getfi cf_5 0 rfl (by decide) (by decide) rfl (by decide) wf_X4_104 dX4_prop_39 (n2 (hM 20 rfl)) (fun h39_5 => ?_)
      refine g_top (y := 2) (gup_at _ _ _ _) ?_
      refine g_if_ne (tgt := 52) (by first | omega | (simp only [inB, cellB, decide_eq_true_eq, decide_eq_false_iff_not] at *; omega)) dX4_prop_42 (by decide) (fun h42_6 => ?_) (fun h42_6 => absurd h42_6 (by omega))
      exact g_vret dX4_prop_52 rfl (Nat.le_of_ble_eq_true rfl) (Nat.le_of_ble_eq_true rfl) (pr_v (by first | (rw [show proE B x p c = ahE B x p c from by simp only [proE]; rw [if_pos (by assumption)], if_neg (by assumption)]) | (rw [show proE B x p c = 0 from by simp only [proE, inB, cellB, decide_eq_true_eq, decide_eq_false_iff_not] at *; grind]; rfl) | (rw [show proE B (k : Int) p c = 0 from by simp only [proE, inB, cellB, decide_eq_true_eq, decide_eq_false_iff_not] at *; grind]; rfl) | (rw [show proE B x p c = 2 from by simp only [proE, inB, cellB, decide_eq_true_eq, decide_eq_false_iff_not] at *; grind]; rfl) | (rw [show proE B (k : Int) p c = 2 from by simp only [proE, inB, cellB, decide_eq_true_eq, decide_eq_false_iff_not] at *; grind]; rfl)))
    · skip
      refine g_aload_n 0 dX4_prop_24 rfl rfl ?_
      refine g_getfr2 (r := 27) cf_5 6 rfl (by decide) (by decide) rfl (by decide) wf_X4_23 dX4_prop_25 (hM 20 rfl) rfl ?_
      refine g_iload_n 3 dX4_prop_28 rfl rfl ?_
      refine g_zald (c.toNat) (by first | omega | (simp only [inB, cellB, decide_eq_true_eq, decide_eq_false_iff_not] at *; omega)) (by first | omega | (simp only [inB, cellB, decide_eq_true_eq, decide_eq_false_iff_not] at *; omega)) rfl (by decide) dX4_prop_29 (n2 (hM 27 rfl)) (fun h29_7 => ?_)
      refine g_if_eq (tgt := 38) (by first | omega | (simp only [inB, cellB, decide_eq_true_eq, decide_eq_false_iff_not] at *; omega)) dX4_prop_30 (by decide) (fun h30_8 => ?_) (fun h30_8 => ?_)
      · skip
        refine g_aload_n 0 dX4_prop_38 rfl rfl ?_
        refine g_getfi cf_5 0 rfl (by decide) (by decide) rfl (by decide) wf_X4_104 dX4_prop_39 (n2 (hM 20 rfl)) (fun h39_9 => ?_)
        refine g_top (y := 0) (gup_at _ _ _ _) ?_
        refine g_if_ne (tgt := 52) (by first | omega | (simp only [inB, cellB, decide_eq_true_eq, decide_eq_false_iff_not] at *; omega)) dX4_prop_42 (by decide) (fun h42_10 => absurd h42_10 (by omega)) (fun h42_10 => ?_)
        refine g_aload_n 0 dX4_prop_45 rfl rfl ?_
        refine g_getfr2 (r := 27) cf_5 6 rfl (by decide) (by decide) rfl (by decide) wf_X4_23 dX4_prop_46 (hM 20 rfl) rfl ?_
        refine g_iload_n 3 dX4_prop_49 rfl rfl ?_
        refine g_iconst dX4_prop_50 ?_
        refine g_zast (c.toNat) (by first | omega | (simp only [inB, cellB, decide_eq_true_eq, decide_eq_false_iff_not] at *; omega)) (by first | omega | (simp only [inB, cellB, decide_eq_true_eq, decide_eq_false_iff_not] at *; omega)) (Or.inr rfl) rfl (by decide) dX4_prop_51 (n2 (hM 27 rfl)) ?_
        exact g_vret dX4_prop_52 rfl (Nat.le_of_ble_eq_true rfl) (Nat.le_of_ble_eq_true rfl) (pr_v (by first | (rw [show proE B x p c = ahE B x p c from by simp only [proE]; rw [if_pos (by assumption)], if_neg (by assumption)]) | (rw [show proE B x p c = 0 from by simp only [proE, inB, cellB, decide_eq_true_eq, decide_eq_false_iff_not] at *; grind]; rfl) | (rw [show proE B (k : Int) p c = 0 from by simp only [proE, inB, cellB, decide_eq_true_eq, decide_eq_false_iff_not] at *; grind]; rfl) | (rw [show proE B x p c = 2 from by simp only [proE, inB, cellB, decide_eq_true_eq, decide_eq_false_iff_not] at *; grind]; rfl) | (rw [show proE B (k : Int) p c = 2 from by simp only [proE, inB, cellB, decide_eq_true_eq, decide_eq_false_iff_not] at *; grind]; rfl)))
      · skip
        refine g_aload_n 0 dX4_prop_33 rfl rfl ?_
        refine g_iconst dX4_prop_34 ?_
        refine g_putfi cf_5 0 rfl (by decide) (by decide) rfl (by decide) wf_X4_104 (Or.inl rfl) rfl dX4_prop_35 (n2 (hM 20 rfl)) (by first | omega | (simp only [inB, cellB, decide_eq_true_eq, decide_eq_false_iff_not] at *; omega)) ?_
        refine g_ls (A2 := gup A 20 0 2) rfl rfl (gup_tw _ _ _ _ _) ?_
        refine g_aload_n 0 dX4_prop_38 rfl rfl ?_
        refine g_getfi cf_5 0 rfl (by decide) (by decide) rfl (by decide) wf_X4_104 dX4_prop_39 (n2 (hM 20 rfl)) (fun h39_11 => ?_)
        refine g_top (y := 2) (gup_at _ _ _ _) ?_
        refine g_if_ne (tgt := 52) (by first | omega | (simp only [inB, cellB, decide_eq_true_eq, decide_eq_false_iff_not] at *; omega)) dX4_prop_42 (by decide) (fun h42_12 => ?_) (fun h42_12 => absurd h42_12 (by omega))
        exact g_vret dX4_prop_52 rfl (Nat.le_of_ble_eq_true rfl) (Nat.le_of_ble_eq_true rfl) (pr_v (by first | (rw [show proE B x p c = ahE B x p c from by simp only [proE]; rw [if_pos (by assumption)], if_neg (by assumption)]) | (rw [show proE B x p c = 0 from by simp only [proE, inB, cellB, decide_eq_true_eq, decide_eq_false_iff_not] at *; grind]; rfl) | (rw [show proE B (k : Int) p c = 0 from by simp only [proE, inB, cellB, decide_eq_true_eq, decide_eq_false_iff_not] at *; grind]; rfl) | (rw [show proE B x p c = 2 from by simp only [proE, inB, cellB, decide_eq_true_eq, decide_eq_false_iff_not] at *; grind]; rfl) | (rw [show proE B (k : Int) p c = 2 from by simp only [proE, inB, cellB, decide_eq_true_eq, decide_eq_false_iff_not] at *; grind]; rfl)))
  · skip
    have hae := ahE_012 B x p c
    refine g_cV_v (My := mX4_asks) (gs := [_, _, _]) (c_X4_asks hM hV hR hx hp hc) mfX4_asks cf_5 wi_X4_asks wsl_X4_asks wm_X4_178 dX4_prop_4 (Nat.le_of_ble_eq_true rfl) rfl (by decide) (n2 (hM 20 rfl)) rfl (fun _ => Nat.le_of_ble_eq_true rfl) (Nat.le_of_ble_eq_true rfl) (Nat.le_of_ble_eq_true rfl) rfl rfl ?_
    refine g_aload_n 0 dX4_prop_7 rfl rfl ?_
    refine g_getfi cf_5 0 rfl (by decide) (by decide) rfl (by decide) wf_X4_104 dX4_prop_8 (n2 (hM 20 rfl)) (fun h8_13 => ?_)
    refine g_top (y := ((ahE B x p c : Nat) : Int)) (gup_at _ _ _ _) ?_
    refine g_if_ne (tgt := 38) (by first | omega | (simp only [inB, cellB, decide_eq_true_eq, decide_eq_false_iff_not] at *; omega)) dX4_prop_11 (by decide) (fun h11_14 => ?_) (fun h11_14 => absurd h11_14 (by omega))
    refine g_aload_n 0 dX4_prop_38 rfl rfl ?_
    refine g_getfi cf_5 0 rfl (by decide) (by decide) rfl (by decide) wf_X4_104 dX4_prop_39 (n2 (hM 20 rfl)) (fun h39_15 => ?_)
    refine g_top (y := ((ahE B x p c : Nat) : Int)) (gup_at _ _ _ _) ?_
    refine g_if_ne (tgt := 52) (by first | omega | (simp only [inB, cellB, decide_eq_true_eq, decide_eq_false_iff_not] at *; omega)) dX4_prop_42 (by decide) (fun h42_16 => ?_) (fun h42_16 => absurd h42_16 (by omega))
    exact g_vret dX4_prop_52 rfl (Nat.le_of_ble_eq_true rfl) (Nat.le_of_ble_eq_true rfl) (pr_v (by first | (rw [show proE B x p c = ahE B x p c from by simp only [proE]; rw [if_pos (by assumption)], if_neg (by assumption)]) | (rw [show proE B x p c = 0 from by simp only [proE, inB, cellB, decide_eq_true_eq, decide_eq_false_iff_not] at *; grind]; rfl) | (rw [show proE B (k : Int) p c = 0 from by simp only [proE, inB, cellB, decide_eq_true_eq, decide_eq_false_iff_not] at *; grind]; rfl) | (rw [show proE B x p c = 2 from by simp only [proE, inB, cellB, decide_eq_true_eq, decide_eq_false_iff_not] at *; grind]; rfl) | (rw [show proE B (k : Int) p c = 2 from by simp only [proE, inB, cellB, decide_eq_true_eq, decide_eq_false_iff_not] at *; grind]; rfl)))

set_option maxRecDepth 20000 in
theorem c_X4_trap {L : Nat → Nat} {A B : Mem} (hM : LM L) (hV : VC L B) (hR : Rel B A) (hI : IV B) {x p c : Int} (hx : -2147483648 ≤ x ∧ x < 2147483648) (hp : -2147483648 ≤ p ∧ p < 2147483648) (hc : -2147483648 ≤ c ∧ c < 2147483648) : Ct mX4_trap [gr 20, gi x, gi p, gi c] L A (pr (some (gi (if trpE B x p c = 0 then trapC (gup B 17 c.toNat x) x 100 else 0))) L (if trpE B x p c = 0 then gup (gup A 20 0 0) 28 c.toNat x else gup A 20 0 (trpE B x p c : Nat))) := by
  have hnc := vc_nc hV; have hns := vc_ns hV; have hp0 := (vc_p hV).1
  have rnow := rl_now hR; have rnc := rl_nc hR; have rns := rl_ns hR
  have hg := vc_g hV; have hpv := vc_p hV
  refine Ct_of (ls := [(0, _), (1, _), (2, _), (3, _)]) rfl (by decide) (fun _ => rfl) (fun _ => Nat.le_of_ble_eq_true rfl) ?_
  refine g_aload_n 0 dX4_trap_0 rfl rfl ?_
  refine g_iload_n 1 dX4_trap_1 rfl rfl ?_
  refine g_iload_n 2 dX4_trap_2 rfl rfl ?_
  refine g_iload_n 3 dX4_trap_3 rfl rfl ?_
  by_cases hs4 : ahE B x p c = 0
  · skip
    obtain ⟨k, rfl, hk, hp1, hc1, hk1, hk2, hk3⟩ := ahE_0 hs4
    have rk := rl_k hR hk; have hcv := vc_cv hV hk; have hk12 := vc_k hV hk
    refine g_cV_v (My := mX4_asks) (gs := [_, _, _]) (show Ct mX4_asks [gr 20, gi (k : Int), gi p, gi c] L A (pr none L (gup A 20 0 0)) from by (have q := c_X4_asks hM hV hR hx hp hc; rw [hs4] at q; exact q)) mfX4_asks cf_5 wi_X4_asks wsl_X4_asks wm_X4_178 dX4_trap_4 (Nat.le_of_ble_eq_true rfl) rfl (by decide) (n2 (hM 20 rfl)) rfl (fun _ => Nat.le_of_ble_eq_true rfl) (Nat.le_of_ble_eq_true rfl) (Nat.le_of_ble_eq_true rfl) rfl rfl ?_
    refine g_aload_n 0 dX4_trap_7 rfl rfl ?_
    refine g_getfi cf_5 0 rfl (by decide) (by decide) rfl (by decide) wf_X4_104 dX4_trap_8 (n2 (hM 20 rfl)) (fun h8_1 => ?_)
    refine g_top (y := 0) (gup_at _ _ _ _) ?_
    refine g_if_ne (tgt := 48) (by first | omega | (simp only [inB, cellB, decide_eq_true_eq, decide_eq_false_iff_not] at *; omega)) dX4_trap_11 (by decide) (fun h11_2 => absurd h11_2 (by omega)) (fun h11_2 => ?_)
    have r12 := congrFun (rl_st hR) c.toNat; have r14 := congrFun (rl_ca hR) c.toNat; have r15 := congrFun (rl_de hR) c.toNat; have r13 := rl_to hR c.toNat; have r16 := congrFun (rl_pr hR) c.toNat; have r17 := congrFun (rl_tr hR) c.toNat
    have g12 := hg.1 c.toNat; have g13 := hg.2.1 c.toNat; have g14 := hg.2.2.1 c.toNat; have g15 := hg.2.2.2.1 c.toNat; have g16 := hg.2.2.2.2.1 c.toNat; have g17 := hg.2.2.2.2.2 c.toNat
    have hR0 := rl_th hR 0; have s12 := congrFun (rl_st hR0) c.toNat; have s14 := congrFun (rl_ca hR0) c.toNat; have s15 := congrFun (rl_de hR0) c.toNat; have s13 := rl_to hR0 c.toNat; have s16 := congrFun (rl_pr hR0) c.toNat; have s17 := congrFun (rl_tr hR0) c.toNat
    have ivk := (iv_k hI hk).2.2; have htr := trapC_rg B (k : Int) 100
    refine g_aload_n 0 dX4_trap_14 rfl rfl ?_
    refine g_getfr2 (r := 23) cf_5 2 rfl (by decide) (by decide) rfl (by decide) wf_X4_7 dX4_trap_15 (hM 20 rfl) rfl ?_
    refine g_iload_n 3 dX4_trap_18 rfl rfl ?_
    refine g_iald (c.toNat) (by first | omega | (simp only [inB, cellB, decide_eq_true_eq, decide_eq_false_iff_not] at *; omega)) (by first | omega | (simp only [inB, cellB, decide_eq_true_eq, decide_eq_false_iff_not] at *; omega)) rfl (by decide) dX4_trap_19 (n2 (hM 23 rfl)) (fun h19_3 => ?_)
    refine g_iconst dX4_trap_20 ?_
    refine g_icmp_eq (tgt := 43) (by first | omega | (simp only [inB, cellB, decide_eq_true_eq, decide_eq_false_iff_not] at *; omega)) (by first | omega | (simp only [inB, cellB, decide_eq_true_eq, decide_eq_false_iff_not] at *; omega)) dX4_trap_21 (by decide) (fun h21_4 => ?_) (fun h21_4 => ?_)
    · skip
      refine g_aload_n 0 dX4_trap_43 rfl rfl ?_
      refine g_iconst dX4_trap_44 ?_
      refine g_putfi cf_5 0 rfl (by decide) (by decide) rfl (by decide) wf_X4_104 (Or.inl rfl) rfl dX4_trap_45 (n2 (hM 20 rfl)) (by first | omega | (simp only [inB, cellB, decide_eq_true_eq, decide_eq_false_iff_not] at *; omega)) ?_
      refine g_ls (A2 := gup A 20 0 2) rfl rfl (gup_tw _ _ _ _ _) ?_
      refine g_aload_n 0 dX4_trap_48 rfl rfl ?_
      refine g_getfi cf_5 0 rfl (by decide) (by decide) rfl (by decide) wf_X4_104 dX4_trap_49 (n2 (hM 20 rfl)) (fun h49_5 => ?_)
      refine g_top (y := 2) (gup_at _ _ _ _) ?_
      refine g_if_le (tgt := 57) (by first | omega | (simp only [inB, cellB, decide_eq_true_eq, decide_eq_false_iff_not] at *; omega)) dX4_trap_52 (by decide) (fun h52_6 => absurd h52_6 (by omega)) (fun h52_6 => ?_)
      refine g_iconst dX4_trap_55 ?_
      exact g_iret dX4_trap_56 rfl (Nat.le_of_ble_eq_true rfl) (Nat.le_of_ble_eq_true rfl) (pr_i (by first | (rw [show trpE B x p c = ahE B x p c from by simp only [trpE]; rw [if_pos (by assumption)], if_neg (by assumption)]) | (rw [show trpE B x p c = 0 from by simp only [trpE, inB, cellB, decide_eq_true_eq, decide_eq_false_iff_not] at *; grind]; rfl) | (rw [show trpE B (k : Int) p c = 0 from by simp only [trpE, inB, cellB, decide_eq_true_eq, decide_eq_false_iff_not] at *; grind]; rfl) | (rw [show trpE B x p c = 2 from by simp only [trpE, inB, cellB, decide_eq_true_eq, decide_eq_false_iff_not] at *; grind]; rfl) | (rw [show trpE B (k : Int) p c = 2 from by simp only [trpE, inB, cellB, decide_eq_true_eq, decide_eq_false_iff_not] at *; grind]; rfl)) (by first | (rw [show trpE B x p c = ahE B x p c from by simp only [trpE]; rw [if_pos (by assumption)], if_neg (by assumption)]) | (rw [show trpE B x p c = 0 from by simp only [trpE, inB, cellB, decide_eq_true_eq, decide_eq_false_iff_not] at *; grind]; rfl) | (rw [show trpE B (k : Int) p c = 0 from by simp only [trpE, inB, cellB, decide_eq_true_eq, decide_eq_false_iff_not] at *; grind]; rfl) | (rw [show trpE B x p c = 2 from by simp only [trpE, inB, cellB, decide_eq_true_eq, decide_eq_false_iff_not] at *; grind]; rfl) | (rw [show trpE B (k : Int) p c = 2 from by simp only [trpE, inB, cellB, decide_eq_true_eq, decide_eq_false_iff_not] at *; grind]; rfl)))
    · skip
      refine g_aload_n 0 dX4_trap_24 rfl rfl ?_
      refine g_getfr2 (r := 28) cf_5 7 rfl (by decide) (by decide) rfl (by decide) wf_X4_26 dX4_trap_25 (hM 20 rfl) rfl ?_
      refine g_iload_n 3 dX4_trap_28 rfl rfl ?_
      refine g_iald (c.toNat) (by first | omega | (simp only [inB, cellB, decide_eq_true_eq, decide_eq_false_iff_not] at *; omega)) (by first | omega | (simp only [inB, cellB, decide_eq_true_eq, decide_eq_false_iff_not] at *; omega)) rfl (by decide) dX4_trap_29 (n2 (hM 28 rfl)) (fun h29_7 => ?_)
      refine g_iconst dX4_trap_30 ?_
      refine g_icmp_ne (tgt := 43) (by first | omega | (simp only [inB, cellB, decide_eq_true_eq, decide_eq_false_iff_not] at *; omega)) (by first | omega | (simp only [inB, cellB, decide_eq_true_eq, decide_eq_false_iff_not] at *; omega)) dX4_trap_31 (by decide) (fun h31_8 => ?_) (fun h31_8 => ?_)
      · skip
        refine g_aload_n 0 dX4_trap_43 rfl rfl ?_
        refine g_iconst dX4_trap_44 ?_
        refine g_putfi cf_5 0 rfl (by decide) (by decide) rfl (by decide) wf_X4_104 (Or.inl rfl) rfl dX4_trap_45 (n2 (hM 20 rfl)) (by first | omega | (simp only [inB, cellB, decide_eq_true_eq, decide_eq_false_iff_not] at *; omega)) ?_
        refine g_ls (A2 := gup A 20 0 2) rfl rfl (gup_tw _ _ _ _ _) ?_
        refine g_aload_n 0 dX4_trap_48 rfl rfl ?_
        refine g_getfi cf_5 0 rfl (by decide) (by decide) rfl (by decide) wf_X4_104 dX4_trap_49 (n2 (hM 20 rfl)) (fun h49_9 => ?_)
        refine g_top (y := 2) (gup_at _ _ _ _) ?_
        refine g_if_le (tgt := 57) (by first | omega | (simp only [inB, cellB, decide_eq_true_eq, decide_eq_false_iff_not] at *; omega)) dX4_trap_52 (by decide) (fun h52_10 => absurd h52_10 (by omega)) (fun h52_10 => ?_)
        refine g_iconst dX4_trap_55 ?_
        exact g_iret dX4_trap_56 rfl (Nat.le_of_ble_eq_true rfl) (Nat.le_of_ble_eq_true rfl) (pr_i (by first | (rw [show trpE B x p c = ahE B x p c from by simp only [trpE]; rw [if_pos (by assumption)], if_neg (by assumption)]) | (rw [show trpE B x p c = 0 from by simp only [trpE, inB, cellB, decide_eq_true_eq, decide_eq_false_iff_not] at *; grind]; rfl) | (rw [show trpE B (k : Int) p c = 0 from by simp only [trpE, inB, cellB, decide_eq_true_eq, decide_eq_false_iff_not] at *; grind]; rfl) | (rw [show trpE B x p c = 2 from by simp only [trpE, inB, cellB, decide_eq_true_eq, decide_eq_false_iff_not] at *; grind]; rfl) | (rw [show trpE B (k : Int) p c = 2 from by simp only [trpE, inB, cellB, decide_eq_true_eq, decide_eq_false_iff_not] at *; grind]; rfl)) (by first | (rw [show trpE B x p c = ahE B x p c from by simp only [trpE]; rw [if_pos (by assumption)], if_neg (by assumption)]) | (rw [show trpE B x p c = 0 from by simp only [trpE, inB, cellB, decide_eq_true_eq, decide_eq_false_iff_not] at *; grind]; rfl) | (rw [show trpE B (k : Int) p c = 0 from by simp only [trpE, inB, cellB, decide_eq_true_eq, decide_eq_false_iff_not] at *; grind]; rfl) | (rw [show trpE B x p c = 2 from by simp only [trpE, inB, cellB, decide_eq_true_eq, decide_eq_false_iff_not] at *; grind]; rfl) | (rw [show trpE B (k : Int) p c = 2 from by simp only [trpE, inB, cellB, decide_eq_true_eq, decide_eq_false_iff_not] at *; grind]; rfl)))
      · skip
        refine g_aload_n 0 dX4_trap_34 rfl rfl ?_
        refine g_iload_n 1 dX4_trap_35 rfl rfl ?_
        refine g_cV_i (My := mX4_trapsOf) (gs := [_]) (c_X4_trapsOf (A := _) hM (k := (k : Int)) (by omega)) mfX4_trapsOf cf_5 wi_X4_trapsOf wsl_X4_trapsOf wm_X4_189 dX4_trap_36 (Nat.le_of_ble_eq_true rfl) rfl (by decide) (n2 (hM 20 rfl)) rfl (fun _ => Nat.le_of_ble_eq_true rfl) (Nat.le_of_ble_eq_true rfl) (Nat.le_of_ble_eq_true rfl) rfl rfl ?_
        refine g_top (y := trapC B (k : Int) 100) (trapC_cg (by rw [← rl_tr hR]; rfl) _ _) ?_
        refine g_iconst dX4_trap_39 ?_
        refine g_icmp_ne (tgt := 48) (by first | omega | (simp only [inB, cellB, decide_eq_true_eq, decide_eq_false_iff_not] at *; omega)) (by first | omega | (simp only [inB, cellB, decide_eq_true_eq, decide_eq_false_iff_not] at *; omega)) dX4_trap_40 (by decide) (fun h40_11 => ?_) (fun h40_11 => ?_)
        · skip
          refine g_aload_n 0 dX4_trap_48 rfl rfl ?_
          refine g_getfi cf_5 0 rfl (by decide) (by decide) rfl (by decide) wf_X4_104 dX4_trap_49 (n2 (hM 20 rfl)) (fun h49_12 => ?_)
          refine g_top (y := 0) (gup_at _ _ _ _) ?_
          refine g_if_le (tgt := 57) (by first | omega | (simp only [inB, cellB, decide_eq_true_eq, decide_eq_false_iff_not] at *; omega)) dX4_trap_52 (by decide) (fun h52_13 => ?_) (fun h52_13 => absurd h52_13 (by omega))
          refine g_aload_n 0 dX4_trap_57 rfl rfl ?_
          refine g_getfr2 (r := 28) cf_5 7 rfl (by decide) (by decide) rfl (by decide) wf_X4_26 dX4_trap_58 (hM 20 rfl) rfl ?_
          refine g_iload_n 3 dX4_trap_61 rfl rfl ?_
          refine g_iload_n 1 dX4_trap_62 rfl rfl ?_
          refine g_iast (c.toNat) (by first | omega | (simp only [inB, cellB, decide_eq_true_eq, decide_eq_false_iff_not] at *; omega)) (by first | omega | (simp only [inB, cellB, decide_eq_true_eq, decide_eq_false_iff_not] at *; omega)) (by first | omega | (simp only [inB, cellB, decide_eq_true_eq, decide_eq_false_iff_not] at *; omega)) rfl (by decide) dX4_trap_63 (n2 (hM 28 rfl)) ?_
          refine g_aload_n 0 dX4_trap_64 rfl rfl ?_
          refine g_iload_n 1 dX4_trap_65 rfl rfl ?_
          refine g_cV_i (My := mX4_trapsOf) (gs := [_]) (c_X4_trapsOf (A := _) hM (k := (k : Int)) (by omega)) mfX4_trapsOf cf_5 wi_X4_trapsOf wsl_X4_trapsOf wm_X4_189 dX4_trap_66 (Nat.le_of_ble_eq_true rfl) rfl (by decide) (n2 (hM 20 rfl)) rfl (fun _ => Nat.le_of_ble_eq_true rfl) (Nat.le_of_ble_eq_true rfl) (Nat.le_of_ble_eq_true rfl) rfl rfl ?_
          refine g_top (y := trapC (gup B 17 c.toNat (k : Int)) (k : Int) 100) (trapC_cg (by funext j; show gup (gup A 20 0 0) 28 c.toNat (k : Int) 28 j = _; simp [gup_ap, ← rl_tr hR]) _ _) ?_
          exact g_iret dX4_trap_69 rfl (Nat.le_of_ble_eq_true rfl) (Nat.le_of_ble_eq_true rfl) (pr_i (by first | (rw [show trpE B x p c = ahE B x p c from by simp only [trpE]; rw [if_pos (by assumption)], if_neg (by assumption)]) | (rw [show trpE B x p c = 0 from by simp only [trpE, inB, cellB, decide_eq_true_eq, decide_eq_false_iff_not] at *; grind]; rfl) | (rw [show trpE B (k : Int) p c = 0 from by simp only [trpE, inB, cellB, decide_eq_true_eq, decide_eq_false_iff_not] at *; grind]; rfl) | (rw [show trpE B x p c = 2 from by simp only [trpE, inB, cellB, decide_eq_true_eq, decide_eq_false_iff_not] at *; grind]; rfl) | (rw [show trpE B (k : Int) p c = 2 from by simp only [trpE, inB, cellB, decide_eq_true_eq, decide_eq_false_iff_not] at *; grind]; rfl)) (by first | (rw [show trpE B x p c = ahE B x p c from by simp only [trpE]; rw [if_pos (by assumption)], if_neg (by assumption)]) | (rw [show trpE B x p c = 0 from by simp only [trpE, inB, cellB, decide_eq_true_eq, decide_eq_false_iff_not] at *; grind]; rfl) | (rw [show trpE B (k : Int) p c = 0 from by simp only [trpE, inB, cellB, decide_eq_true_eq, decide_eq_false_iff_not] at *; grind]; rfl) | (rw [show trpE B x p c = 2 from by simp only [trpE, inB, cellB, decide_eq_true_eq, decide_eq_false_iff_not] at *; grind]; rfl) | (rw [show trpE B (k : Int) p c = 2 from by simp only [trpE, inB, cellB, decide_eq_true_eq, decide_eq_false_iff_not] at *; grind]; rfl)))
        · skip
          refine g_aload_n 0 dX4_trap_43 rfl rfl ?_
          refine g_iconst dX4_trap_44 ?_
          refine g_putfi cf_5 0 rfl (by decide) (by decide) rfl (by decide) wf_X4_104 (Or.inl rfl) rfl dX4_trap_45 (n2 (hM 20 rfl)) (by first | omega | (simp only [inB, cellB, decide_eq_true_eq, decide_eq_false_iff_not] at *; omega)) ?_
          refine g_ls (A2 := gup A 20 0 2) rfl rfl (gup_tw _ _ _ _ _) ?_
          refine g_aload_n 0 dX4_trap_48 rfl rfl ?_
          refine g_getfi cf_5 0 rfl (by decide) (by decide) rfl (by decide) wf_X4_104 dX4_trap_49 (n2 (hM 20 rfl)) (fun h49_14 => ?_)
          refine g_top (y := 2) (gup_at _ _ _ _) ?_
          refine g_if_le (tgt := 57) (by first | omega | (simp only [inB, cellB, decide_eq_true_eq, decide_eq_false_iff_not] at *; omega)) dX4_trap_52 (by decide) (fun h52_15 => absurd h52_15 (by omega)) (fun h52_15 => ?_)
          refine g_iconst dX4_trap_55 ?_
          exact g_iret dX4_trap_56 rfl (Nat.le_of_ble_eq_true rfl) (Nat.le_of_ble_eq_true rfl) (pr_i (by first | (rw [show trpE B x p c = ahE B x p c from by simp only [trpE]; rw [if_pos (by assumption)], if_neg (by assumption)]) | (rw [show trpE B x p c = 0 from by simp only [trpE, inB, cellB, decide_eq_true_eq, decide_eq_false_iff_not] at *; grind]; rfl) | (rw [show trpE B (k : Int) p c = 0 from by simp only [trpE, inB, cellB, decide_eq_true_eq, decide_eq_false_iff_not] at *; grind]; rfl) | (rw [show trpE B x p c = 2 from by simp only [trpE, inB, cellB, decide_eq_true_eq, decide_eq_false_iff_not] at *; grind]; rfl) | (rw [show trpE B (k : Int) p c = 2 from by simp only [trpE, inB, cellB, decide_eq_true_eq, decide_eq_false_iff_not] at *; grind]; rfl)) (by first | (rw [show trpE B x p c = ahE B x p c from by simp only [trpE]; rw [if_pos (by assumption)], if_neg (by assumption)]) | (rw [show trpE B x p c = 0 from by simp only [trpE, inB, cellB, decide_eq_true_eq, decide_eq_false_iff_not] at *; grind]; rfl) | (rw [show trpE B (k : Int) p c = 0 from by simp only [trpE, inB, cellB, decide_eq_true_eq, decide_eq_false_iff_not] at *; grind]; rfl) | (rw [show trpE B x p c = 2 from by simp only [trpE, inB, cellB, decide_eq_true_eq, decide_eq_false_iff_not] at *; grind]; rfl) | (rw [show trpE B (k : Int) p c = 2 from by simp only [trpE, inB, cellB, decide_eq_true_eq, decide_eq_false_iff_not] at *; grind]; rfl)))
  · skip
    have hae := ahE_012 B x p c
    refine g_cV_v (My := mX4_asks) (gs := [_, _, _]) (c_X4_asks hM hV hR hx hp hc) mfX4_asks cf_5 wi_X4_asks wsl_X4_asks wm_X4_178 dX4_trap_4 (Nat.le_of_ble_eq_true rfl) rfl (by decide) (n2 (hM 20 rfl)) rfl (fun _ => Nat.le_of_ble_eq_true rfl) (Nat.le_of_ble_eq_true rfl) (Nat.le_of_ble_eq_true rfl) rfl rfl ?_
    refine g_aload_n 0 dX4_trap_7 rfl rfl ?_
    refine g_getfi cf_5 0 rfl (by decide) (by decide) rfl (by decide) wf_X4_104 dX4_trap_8 (n2 (hM 20 rfl)) (fun h8_16 => ?_)
    refine g_top (y := ((ahE B x p c : Nat) : Int)) (gup_at _ _ _ _) ?_
    refine g_if_ne (tgt := 48) (by first | omega | (simp only [inB, cellB, decide_eq_true_eq, decide_eq_false_iff_not] at *; omega)) dX4_trap_11 (by decide) (fun h11_17 => ?_) (fun h11_17 => absurd h11_17 (by omega))
    refine g_aload_n 0 dX4_trap_48 rfl rfl ?_
    refine g_getfi cf_5 0 rfl (by decide) (by decide) rfl (by decide) wf_X4_104 dX4_trap_49 (n2 (hM 20 rfl)) (fun h49_18 => ?_)
    refine g_top (y := ((ahE B x p c : Nat) : Int)) (gup_at _ _ _ _) ?_
    refine g_if_le (tgt := 57) (by first | omega | (simp only [inB, cellB, decide_eq_true_eq, decide_eq_false_iff_not] at *; omega)) dX4_trap_52 (by decide) (fun h52_19 => absurd h52_19 (by omega)) (fun h52_19 => ?_)
    refine g_iconst dX4_trap_55 ?_
    exact g_iret dX4_trap_56 rfl (Nat.le_of_ble_eq_true rfl) (Nat.le_of_ble_eq_true rfl) (pr_i (by first | (rw [show trpE B x p c = ahE B x p c from by simp only [trpE]; rw [if_pos (by assumption)], if_neg (by assumption)]) | (rw [show trpE B x p c = 0 from by simp only [trpE, inB, cellB, decide_eq_true_eq, decide_eq_false_iff_not] at *; grind]; rfl) | (rw [show trpE B (k : Int) p c = 0 from by simp only [trpE, inB, cellB, decide_eq_true_eq, decide_eq_false_iff_not] at *; grind]; rfl) | (rw [show trpE B x p c = 2 from by simp only [trpE, inB, cellB, decide_eq_true_eq, decide_eq_false_iff_not] at *; grind]; rfl) | (rw [show trpE B (k : Int) p c = 2 from by simp only [trpE, inB, cellB, decide_eq_true_eq, decide_eq_false_iff_not] at *; grind]; rfl)) (by first | (rw [show trpE B x p c = ahE B x p c from by simp only [trpE]; rw [if_pos (by assumption)], if_neg (by assumption)]) | (rw [show trpE B x p c = 0 from by simp only [trpE, inB, cellB, decide_eq_true_eq, decide_eq_false_iff_not] at *; grind]; rfl) | (rw [show trpE B (k : Int) p c = 0 from by simp only [trpE, inB, cellB, decide_eq_true_eq, decide_eq_false_iff_not] at *; grind]; rfl) | (rw [show trpE B x p c = 2 from by simp only [trpE, inB, cellB, decide_eq_true_eq, decide_eq_false_iff_not] at *; grind]; rfl) | (rw [show trpE B (k : Int) p c = 2 from by simp only [trpE, inB, cellB, decide_eq_true_eq, decide_eq_false_iff_not] at *; grind]; rfl)))

set_option maxHeartbeats 1000000 in
set_option maxRecDepth 20000 in
theorem c_X4_dig {L : Nat → Nat} {A B : Mem} (hM : LM L) (hV : VC L B) (hR : Rel B A) (hI : IV B) {x p c : Int} (hx : -2147483648 ≤ x ∧ x < 2147483648) (hp : -2147483648 ≤ p ∧ p < 2147483648) (hc : -2147483648 ≤ c ∧ c < 2147483648) : Ct mX4_dig [gr 20, gi x, gi p, gi c] L A (pr (some (gi (if digE B x p c = 0 then A 24 c.toNat else 0))) L (if digE B x p c = 0 then opnR (gup (gup A 20 0 0) 36 x.toNat (A 20 1)) c (-1) x else gup A 20 0 (digE B x p c : Nat))) := by
  have hnc := vc_nc hV; have hns := vc_ns hV; have hp0 := (vc_p hV).1
  have rnow := rl_now hR; have rnc := rl_nc hR; have rns := rl_ns hR
  have hg := vc_g hV; have hpv := vc_p hV
  refine Ct_of (ls := [(0, _), (1, _), (2, _), (3, _)]) rfl (by decide) (fun _ => rfl) (fun _ => Nat.le_of_ble_eq_true rfl) ?_
  refine g_aload_n 0 dX4_dig_0 rfl rfl ?_
  refine g_iload_n 1 dX4_dig_1 rfl rfl ?_
  refine g_iload_n 2 dX4_dig_2 rfl rfl ?_
  refine g_iload_n 3 dX4_dig_3 rfl rfl ?_
  by_cases hs4 : ahE B x p c = 0
  · skip
    obtain ⟨k, rfl, hk, hp1, hc1, hk1, hk2, hk3⟩ := ahE_0 hs4
    have rk := rl_k hR hk; have hcv := vc_cv hV hk; have hk12 := vc_k hV hk
    refine g_cV_v (My := mX4_asks) (gs := [_, _, _]) (show Ct mX4_asks [gr 20, gi (k : Int), gi p, gi c] L A (pr none L (gup A 20 0 0)) from by (have q := c_X4_asks hM hV hR hx hp hc; rw [hs4] at q; exact q)) mfX4_asks cf_5 wi_X4_asks wsl_X4_asks wm_X4_178 dX4_dig_4 (Nat.le_of_ble_eq_true rfl) rfl (by decide) (n2 (hM 20 rfl)) rfl (fun _ => Nat.le_of_ble_eq_true rfl) (Nat.le_of_ble_eq_true rfl) (Nat.le_of_ble_eq_true rfl) rfl rfl ?_
    refine g_aload_n 0 dX4_dig_7 rfl rfl ?_
    refine g_getfi cf_5 0 rfl (by decide) (by decide) rfl (by decide) wf_X4_104 dX4_dig_8 (n2 (hM 20 rfl)) (fun h8_1 => ?_)
    refine g_top (y := 0) (gup_at _ _ _ _) ?_
    refine g_if_ne (tgt := 37) (by first | omega | (simp only [inB, cellB, decide_eq_true_eq, decide_eq_false_iff_not] at *; omega)) dX4_dig_11 (by decide) (fun h11_2 => absurd h11_2 (by omega)) (fun h11_2 => ?_)
    have r12 := congrFun (rl_st hR) c.toNat; have r14 := congrFun (rl_ca hR) c.toNat; have r15 := congrFun (rl_de hR) c.toNat; have r13 := rl_to hR c.toNat; have r16 := congrFun (rl_pr hR) c.toNat; have r17 := congrFun (rl_tr hR) c.toNat
    have g12 := hg.1 c.toNat; have g13 := hg.2.1 c.toNat; have g14 := hg.2.2.1 c.toNat; have g15 := hg.2.2.2.1 c.toNat; have g16 := hg.2.2.2.2.1 c.toNat; have g17 := hg.2.2.2.2.2 c.toNat
    have hR0 := rl_th hR 0; have s12 := congrFun (rl_st hR0) c.toNat; have s14 := congrFun (rl_ca hR0) c.toNat; have s15 := congrFun (rl_de hR0) c.toNat; have s13 := rl_to hR0 c.toNat; have s16 := congrFun (rl_pr hR0) c.toNat; have s17 := congrFun (rl_tr hR0) c.toNat
    have hdb := digB_eq B c; rw [opB_in hc1] at hdb
    refine g_aload_n 0 dX4_dig_14 rfl rfl ?_
    refine g_getfr2 (r := 23) cf_5 2 rfl (by decide) (by decide) rfl (by decide) wf_X4_7 dX4_dig_15 (hM 20 rfl) rfl ?_
    refine g_iload_n 3 dX4_dig_18 rfl rfl ?_
    refine g_iald (c.toNat) (by first | omega | (simp only [inB, cellB, decide_eq_true_eq, decide_eq_false_iff_not] at *; omega)) (by first | omega | (simp only [inB, cellB, decide_eq_true_eq, decide_eq_false_iff_not] at *; omega)) rfl (by decide) dX4_dig_19 (n2 (hM 23 rfl)) (fun h19_3 => ?_)
    refine g_iconst dX4_dig_20 ?_
    refine g_icmp_eq (tgt := 32) (by first | omega | (simp only [inB, cellB, decide_eq_true_eq, decide_eq_false_iff_not] at *; omega)) (by first | omega | (simp only [inB, cellB, decide_eq_true_eq, decide_eq_false_iff_not] at *; omega)) dX4_dig_21 (by decide) (fun h21_4 => ?_) (fun h21_4 => ?_)
    · skip
      refine g_aload_n 0 dX4_dig_32 rfl rfl ?_
      refine g_iconst dX4_dig_33 ?_
      refine g_putfi cf_5 0 rfl (by decide) (by decide) rfl (by decide) wf_X4_104 (Or.inl rfl) rfl dX4_dig_34 (n2 (hM 20 rfl)) (by first | omega | (simp only [inB, cellB, decide_eq_true_eq, decide_eq_false_iff_not] at *; omega)) ?_
      refine g_ls (A2 := gup A 20 0 2) rfl rfl (gup_tw _ _ _ _ _) ?_
      refine g_aload_n 0 dX4_dig_37 rfl rfl ?_
      refine g_getfi cf_5 0 rfl (by decide) (by decide) rfl (by decide) wf_X4_104 dX4_dig_38 (n2 (hM 20 rfl)) (fun h38_5 => ?_)
      refine g_top (y := 2) (gup_at _ _ _ _) ?_
      refine g_if_le (tgt := 46) (by first | omega | (simp only [inB, cellB, decide_eq_true_eq, decide_eq_false_iff_not] at *; omega)) dX4_dig_41 (by decide) (fun h41_6 => absurd h41_6 (by omega)) (fun h41_6 => ?_)
      refine g_iconst dX4_dig_44 ?_
      exact g_iret dX4_dig_45 rfl (Nat.le_of_ble_eq_true rfl) (Nat.le_of_ble_eq_true rfl) (pr_i (by first | (rw [show digE B x p c = ahE B x p c from by simp only [digE]; rw [if_pos (by assumption)], if_neg (by assumption)]) | (rw [show digE B x p c = 0 from by simp only [digE, inB, cellB, decide_eq_true_eq, decide_eq_false_iff_not] at *; grind]; rfl) | (rw [show digE B (k : Int) p c = 0 from by simp only [digE, inB, cellB, decide_eq_true_eq, decide_eq_false_iff_not] at *; grind]; rfl) | (rw [show digE B x p c = 2 from by simp only [digE, inB, cellB, decide_eq_true_eq, decide_eq_false_iff_not] at *; grind]; rfl) | (rw [show digE B (k : Int) p c = 2 from by simp only [digE, inB, cellB, decide_eq_true_eq, decide_eq_false_iff_not] at *; grind]; rfl)) (by first | (rw [show digE B x p c = ahE B x p c from by simp only [digE]; rw [if_pos (by assumption)], if_neg (by assumption)]) | (rw [show digE B x p c = 0 from by simp only [digE, inB, cellB, decide_eq_true_eq, decide_eq_false_iff_not] at *; grind]; rfl) | (rw [show digE B (k : Int) p c = 0 from by simp only [digE, inB, cellB, decide_eq_true_eq, decide_eq_false_iff_not] at *; grind]; rfl) | (rw [show digE B x p c = 2 from by simp only [digE, inB, cellB, decide_eq_true_eq, decide_eq_false_iff_not] at *; grind]; rfl) | (rw [show digE B (k : Int) p c = 2 from by simp only [digE, inB, cellB, decide_eq_true_eq, decide_eq_false_iff_not] at *; grind]; rfl)))
    · skip
      refine g_aload_n 0 dX4_dig_24 rfl rfl ?_
      refine g_iload_n 3 dX4_dig_25 rfl rfl ?_
      refine g_cV_i (My := mX4_isBesideOpen) (gs := [_]) (c_X4_isBesideOpen hM hV (rl_th hR _) hc1) mfX4_isBesideOpen cf_5 wi_X4_isBesideOpen wsl_X4_isBesideOpen wm_X4_182 dX4_dig_26 (Nat.le_of_ble_eq_true rfl) rfl (by decide) (n2 (hM 20 rfl)) rfl (fun _ => Nat.le_of_ble_eq_true rfl) (Nat.le_of_ble_eq_true rfl) (Nat.le_of_ble_eq_true rfl) rfl rfl ?_
      refine g_ifb_ne (tgt := 37) dX4_dig_29 (by decide) (fun h29_7 => ?_) (fun h29_7 => ?_)
      · skip
        refine g_aload_n 0 dX4_dig_37 rfl rfl ?_
        refine g_getfi cf_5 0 rfl (by decide) (by decide) rfl (by decide) wf_X4_104 dX4_dig_38 (n2 (hM 20 rfl)) (fun h38_8 => ?_)
        refine g_top (y := 0) (gup_at _ _ _ _) ?_
        refine g_if_le (tgt := 46) (by first | omega | (simp only [inB, cellB, decide_eq_true_eq, decide_eq_false_iff_not] at *; omega)) dX4_dig_41 (by decide) (fun h41_9 => ?_) (fun h41_9 => absurd h41_9 (by omega))
        refine g_aload_n 0 dX4_dig_46 rfl rfl ?_
        refine g_getfr2 (r := 36) cf_5 15 rfl (by decide) (by decide) rfl (by decide) wf_X4_47 dX4_dig_47 (hM 20 rfl) rfl ?_
        refine g_iload_n 1 dX4_dig_50 rfl rfl ?_
        refine g_aload_n 0 dX4_dig_51 rfl rfl ?_
        refine g_getfi cf_5 1 rfl (by decide) (by decide) rfl (by decide) wf_X4_118 dX4_dig_52 (n2 (hM 20 rfl)) (fun h52_10 => ?_)
        refine g_top (y := A 20 1) (by simp [gup_ap]) ?_
        refine g_iast (k) (by first | omega | (simp only [inB, cellB, decide_eq_true_eq, decide_eq_false_iff_not] at *; omega)) (by first | omega | (simp only [inB, cellB, decide_eq_true_eq, decide_eq_false_iff_not] at *; omega)) (by first | omega | (simp only [inB, cellB, decide_eq_true_eq, decide_eq_false_iff_not] at *; omega)) rfl (by decide) dX4_dig_55 (n2 (hM 36 rfl)) ?_
        refine g_aload_n 0 dX4_dig_56 rfl rfl ?_
        refine g_iload_n 3 dX4_dig_57 rfl rfl ?_
        refine g_iconst dX4_dig_58 ?_
        refine g_iload_n 1 dX4_dig_59 rfl rfl ?_
        refine g_cV_i (My := mX4_opens) (gs := [_, _, _]) (c_X4_opens (A := gup (gup A 20 0 0) 36 k (A 20 1)) hM (fun z => by (simp only [gup_ap]; have := rl_pr hR; have h9 := hg.2.2.2.2.1 z; simp [this]; omega)) hc1 (p := -1) (k := (k : Int)) (by omega) (by omega) (by simp only [gup_ap]; simp; omega) (by simp only [gup_ap]; simp; intro h9; have := iv_room hI hc1 (by omega); omega) (by simp only [gup_ap]; simp; rw [r16]; exact iv_p hI _ (by omega))) mfX4_opens cf_5 wi_X4_opens wsl_X4_opens wm_X4_185 dX4_dig_60 (Nat.le_of_ble_eq_true rfl) rfl (by decide) (n2 (hM 20 rfl)) rfl (fun _ => Nat.le_of_ble_eq_true rfl) (Nat.le_of_ble_eq_true rfl) (Nat.le_of_ble_eq_true rfl) rfl rfl ?_
        refine g_top (y := A 24 c.toNat) (by simp [gup_ap]) ?_
        exact g_iret dX4_dig_63 rfl (Nat.le_of_ble_eq_true rfl) (Nat.le_of_ble_eq_true rfl) (pr_i (by first | (rw [show digE B x p c = ahE B x p c from by simp only [digE]; rw [if_pos (by assumption)], if_neg (by assumption)]) | (rw [show digE B x p c = 0 from by simp only [digE, inB, cellB, decide_eq_true_eq, decide_eq_false_iff_not] at *; grind]; rfl) | (rw [show digE B (k : Int) p c = 0 from by simp only [digE, inB, cellB, decide_eq_true_eq, decide_eq_false_iff_not] at *; grind]; rfl) | (rw [show digE B x p c = 2 from by simp only [digE, inB, cellB, decide_eq_true_eq, decide_eq_false_iff_not] at *; grind]; rfl) | (rw [show digE B (k : Int) p c = 2 from by simp only [digE, inB, cellB, decide_eq_true_eq, decide_eq_false_iff_not] at *; grind]; rfl)) (by first | (rw [show digE B x p c = ahE B x p c from by simp only [digE]; rw [if_pos (by assumption)], if_neg (by assumption)]) | (rw [show digE B x p c = 0 from by simp only [digE, inB, cellB, decide_eq_true_eq, decide_eq_false_iff_not] at *; grind]; rfl) | (rw [show digE B (k : Int) p c = 0 from by simp only [digE, inB, cellB, decide_eq_true_eq, decide_eq_false_iff_not] at *; grind]; rfl) | (rw [show digE B x p c = 2 from by simp only [digE, inB, cellB, decide_eq_true_eq, decide_eq_false_iff_not] at *; grind]; rfl) | (rw [show digE B (k : Int) p c = 2 from by simp only [digE, inB, cellB, decide_eq_true_eq, decide_eq_false_iff_not] at *; grind]; rfl)))
      · skip
        refine g_aload_n 0 dX4_dig_32 rfl rfl ?_
        refine g_iconst dX4_dig_33 ?_
        refine g_putfi cf_5 0 rfl (by decide) (by decide) rfl (by decide) wf_X4_104 (Or.inl rfl) rfl dX4_dig_34 (n2 (hM 20 rfl)) (by first | omega | (simp only [inB, cellB, decide_eq_true_eq, decide_eq_false_iff_not] at *; omega)) ?_
        refine g_ls (A2 := gup A 20 0 2) rfl rfl (gup_tw _ _ _ _ _) ?_
        refine g_aload_n 0 dX4_dig_37 rfl rfl ?_
        refine g_getfi cf_5 0 rfl (by decide) (by decide) rfl (by decide) wf_X4_104 dX4_dig_38 (n2 (hM 20 rfl)) (fun h38_11 => ?_)
        refine g_top (y := 2) (gup_at _ _ _ _) ?_
        refine g_if_le (tgt := 46) (by first | omega | (simp only [inB, cellB, decide_eq_true_eq, decide_eq_false_iff_not] at *; omega)) dX4_dig_41 (by decide) (fun h41_12 => absurd h41_12 (by omega)) (fun h41_12 => ?_)
        refine g_iconst dX4_dig_44 ?_
        exact g_iret dX4_dig_45 rfl (Nat.le_of_ble_eq_true rfl) (Nat.le_of_ble_eq_true rfl) (pr_i (by first | (rw [show digE B x p c = ahE B x p c from by simp only [digE]; rw [if_pos (by assumption)], if_neg (by assumption)]) | (rw [show digE B x p c = 0 from by simp only [digE, inB, cellB, decide_eq_true_eq, decide_eq_false_iff_not] at *; grind]; rfl) | (rw [show digE B (k : Int) p c = 0 from by simp only [digE, inB, cellB, decide_eq_true_eq, decide_eq_false_iff_not] at *; grind]; rfl) | (rw [show digE B x p c = 2 from by simp only [digE, inB, cellB, decide_eq_true_eq, decide_eq_false_iff_not] at *; grind]; rfl) | (rw [show digE B (k : Int) p c = 2 from by simp only [digE, inB, cellB, decide_eq_true_eq, decide_eq_false_iff_not] at *; grind]; rfl)) (by first | (rw [show digE B x p c = ahE B x p c from by simp only [digE]; rw [if_pos (by assumption)], if_neg (by assumption)]) | (rw [show digE B x p c = 0 from by simp only [digE, inB, cellB, decide_eq_true_eq, decide_eq_false_iff_not] at *; grind]; rfl) | (rw [show digE B (k : Int) p c = 0 from by simp only [digE, inB, cellB, decide_eq_true_eq, decide_eq_false_iff_not] at *; grind]; rfl) | (rw [show digE B x p c = 2 from by simp only [digE, inB, cellB, decide_eq_true_eq, decide_eq_false_iff_not] at *; grind]; rfl) | (rw [show digE B (k : Int) p c = 2 from by simp only [digE, inB, cellB, decide_eq_true_eq, decide_eq_false_iff_not] at *; grind]; rfl)))
  · skip
    have hae := ahE_012 B x p c
    refine g_cV_v (My := mX4_asks) (gs := [_, _, _]) (c_X4_asks hM hV hR hx hp hc) mfX4_asks cf_5 wi_X4_asks wsl_X4_asks wm_X4_178 dX4_dig_4 (Nat.le_of_ble_eq_true rfl) rfl (by decide) (n2 (hM 20 rfl)) rfl (fun _ => Nat.le_of_ble_eq_true rfl) (Nat.le_of_ble_eq_true rfl) (Nat.le_of_ble_eq_true rfl) rfl rfl ?_
    refine g_aload_n 0 dX4_dig_7 rfl rfl ?_
    refine g_getfi cf_5 0 rfl (by decide) (by decide) rfl (by decide) wf_X4_104 dX4_dig_8 (n2 (hM 20 rfl)) (fun h8_13 => ?_)
    refine g_top (y := ((ahE B x p c : Nat) : Int)) (gup_at _ _ _ _) ?_
    refine g_if_ne (tgt := 37) (by first | omega | (simp only [inB, cellB, decide_eq_true_eq, decide_eq_false_iff_not] at *; omega)) dX4_dig_11 (by decide) (fun h11_14 => ?_) (fun h11_14 => absurd h11_14 (by omega))
    refine g_aload_n 0 dX4_dig_37 rfl rfl ?_
    refine g_getfi cf_5 0 rfl (by decide) (by decide) rfl (by decide) wf_X4_104 dX4_dig_38 (n2 (hM 20 rfl)) (fun h38_15 => ?_)
    refine g_top (y := ((ahE B x p c : Nat) : Int)) (gup_at _ _ _ _) ?_
    refine g_if_le (tgt := 46) (by first | omega | (simp only [inB, cellB, decide_eq_true_eq, decide_eq_false_iff_not] at *; omega)) dX4_dig_41 (by decide) (fun h41_16 => absurd h41_16 (by omega)) (fun h41_16 => ?_)
    refine g_iconst dX4_dig_44 ?_
    exact g_iret dX4_dig_45 rfl (Nat.le_of_ble_eq_true rfl) (Nat.le_of_ble_eq_true rfl) (pr_i (by first | (rw [show digE B x p c = ahE B x p c from by simp only [digE]; rw [if_pos (by assumption)], if_neg (by assumption)]) | (rw [show digE B x p c = 0 from by simp only [digE, inB, cellB, decide_eq_true_eq, decide_eq_false_iff_not] at *; grind]; rfl) | (rw [show digE B (k : Int) p c = 0 from by simp only [digE, inB, cellB, decide_eq_true_eq, decide_eq_false_iff_not] at *; grind]; rfl) | (rw [show digE B x p c = 2 from by simp only [digE, inB, cellB, decide_eq_true_eq, decide_eq_false_iff_not] at *; grind]; rfl) | (rw [show digE B (k : Int) p c = 2 from by simp only [digE, inB, cellB, decide_eq_true_eq, decide_eq_false_iff_not] at *; grind]; rfl)) (by first | (rw [show digE B x p c = ahE B x p c from by simp only [digE]; rw [if_pos (by assumption)], if_neg (by assumption)]) | (rw [show digE B x p c = 0 from by simp only [digE, inB, cellB, decide_eq_true_eq, decide_eq_false_iff_not] at *; grind]; rfl) | (rw [show digE B (k : Int) p c = 0 from by simp only [digE, inB, cellB, decide_eq_true_eq, decide_eq_false_iff_not] at *; grind]; rfl) | (rw [show digE B x p c = 2 from by simp only [digE, inB, cellB, decide_eq_true_eq, decide_eq_false_iff_not] at *; grind]; rfl) | (rw [show digE B (k : Int) p c = 2 from by simp only [digE, inB, cellB, decide_eq_true_eq, decide_eq_false_iff_not] at *; grind]; rfl)))

set_option maxHeartbeats 1000000 in
set_option maxRecDepth 20000 in
theorem c_X4_sink {L : Nat → Nat} {A B : Mem} (hM : LM L) (hV : VC L B) (hR : Rel B A) (hI : IV B) {x p c : Int} (hx : -2147483648 ≤ x ∧ x < 2147483648) (hp : -2147483648 ≤ p ∧ p < 2147483648) (hc : -2147483648 ≤ c ∧ c < 2147483648) : Ct mX4_sink [gr 20, gi x, gi p, gi c] L A (pr (some (gi (if sinE B x p c = 0 then A 24 c.toNat else 0))) L (if sinE B x p c = 0 then opnR (gup (gup (gup A 20 0 0) 36 x.toNat (A 20 1)) 37 x.toNat (A 37 x.toNat + 1)) c (-1) x else gup A 20 0 (sinE B x p c : Nat))) := by
  have hnc := vc_nc hV; have hns := vc_ns hV; have hp0 := (vc_p hV).1
  have rnow := rl_now hR; have rnc := rl_nc hR; have rns := rl_ns hR
  have hg := vc_g hV; have hpv := vc_p hV
  refine Ct_of (ls := [(0, _), (1, _), (2, _), (3, _)]) rfl (by decide) (fun _ => rfl) (fun _ => Nat.le_of_ble_eq_true rfl) ?_
  refine g_aload_n 0 dX4_sink_0 rfl rfl ?_
  refine g_iload_n 1 dX4_sink_1 rfl rfl ?_
  refine g_iload_n 2 dX4_sink_2 rfl rfl ?_
  refine g_iload_n 3 dX4_sink_3 rfl rfl ?_
  by_cases hs4 : ahE B x p c = 0
  · skip
    obtain ⟨k, rfl, hk, hp1, hc1, hk1, hk2, hk3⟩ := ahE_0 hs4
    have rk := rl_k hR hk; have hcv := vc_cv hV hk; have hk12 := vc_k hV hk
    refine g_cV_v (My := mX4_asks) (gs := [_, _, _]) (show Ct mX4_asks [gr 20, gi (k : Int), gi p, gi c] L A (pr none L (gup A 20 0 0)) from by (have q := c_X4_asks hM hV hR hx hp hc; rw [hs4] at q; exact q)) mfX4_asks cf_5 wi_X4_asks wsl_X4_asks wm_X4_178 dX4_sink_4 (Nat.le_of_ble_eq_true rfl) rfl (by decide) (n2 (hM 20 rfl)) rfl (fun _ => Nat.le_of_ble_eq_true rfl) (Nat.le_of_ble_eq_true rfl) (Nat.le_of_ble_eq_true rfl) rfl rfl ?_
    refine g_aload_n 0 dX4_sink_7 rfl rfl ?_
    refine g_getfi cf_5 0 rfl (by decide) (by decide) rfl (by decide) wf_X4_104 dX4_sink_8 (n2 (hM 20 rfl)) (fun h8_1 => ?_)
    refine g_top (y := 0) (gup_at _ _ _ _) ?_
    refine g_if_ne (tgt := 39) (by first | omega | (simp only [inB, cellB, decide_eq_true_eq, decide_eq_false_iff_not] at *; omega)) dX4_sink_11 (by decide) (fun h11_2 => absurd h11_2 (by omega)) (fun h11_2 => ?_)
    have r12 := congrFun (rl_st hR) c.toNat; have r14 := congrFun (rl_ca hR) c.toNat; have r15 := congrFun (rl_de hR) c.toNat; have r13 := rl_to hR c.toNat; have r16 := congrFun (rl_pr hR) c.toNat; have r17 := congrFun (rl_tr hR) c.toNat
    have g12 := hg.1 c.toNat; have g13 := hg.2.1 c.toNat; have g14 := hg.2.2.1 c.toNat; have g15 := hg.2.2.2.1 c.toNat; have g16 := hg.2.2.2.2.1 c.toNat; have g17 := hg.2.2.2.2.2 c.toNat
    have hR0 := rl_th hR 0; have s12 := congrFun (rl_st hR0) c.toNat; have s14 := congrFun (rl_ca hR0) c.toNat; have s15 := congrFun (rl_de hR0) c.toNat; have s13 := rl_to hR0 c.toNat; have s16 := congrFun (rl_pr hR0) c.toNat; have s17 := congrFun (rl_tr hR0) c.toNat
    have hk7 := (rl_k hR0 hk).2.2.2.2.2.1; have hk9 := rk.2.2.2.2.2.1; have hk8 := hcv.2.2.2.2.1
    refine g_aload_n 0 dX4_sink_14 rfl rfl ?_
    refine g_getfr2 (r := 23) cf_5 2 rfl (by decide) (by decide) rfl (by decide) wf_X4_7 dX4_sink_15 (hM 20 rfl) rfl ?_
    refine g_iload_n 3 dX4_sink_18 rfl rfl ?_
    refine g_iald (c.toNat) (by first | omega | (simp only [inB, cellB, decide_eq_true_eq, decide_eq_false_iff_not] at *; omega)) (by first | omega | (simp only [inB, cellB, decide_eq_true_eq, decide_eq_false_iff_not] at *; omega)) rfl (by decide) dX4_sink_19 (n2 (hM 23 rfl)) (fun h19_3 => ?_)
    refine g_iconst dX4_sink_20 ?_
    refine g_icmp_eq (tgt := 34) (by first | omega | (simp only [inB, cellB, decide_eq_true_eq, decide_eq_false_iff_not] at *; omega)) (by first | omega | (simp only [inB, cellB, decide_eq_true_eq, decide_eq_false_iff_not] at *; omega)) dX4_sink_21 (by decide) (fun h21_4 => ?_) (fun h21_4 => ?_)
    · skip
      refine g_aload_n 0 dX4_sink_34 rfl rfl ?_
      refine g_iconst dX4_sink_35 ?_
      refine g_putfi cf_5 0 rfl (by decide) (by decide) rfl (by decide) wf_X4_104 (Or.inl rfl) rfl dX4_sink_36 (n2 (hM 20 rfl)) (by first | omega | (simp only [inB, cellB, decide_eq_true_eq, decide_eq_false_iff_not] at *; omega)) ?_
      refine g_ls (A2 := gup A 20 0 2) rfl rfl (gup_tw _ _ _ _ _) ?_
      refine g_aload_n 0 dX4_sink_39 rfl rfl ?_
      refine g_getfi cf_5 0 rfl (by decide) (by decide) rfl (by decide) wf_X4_104 dX4_sink_40 (n2 (hM 20 rfl)) (fun h40_5 => ?_)
      refine g_top (y := 2) (gup_at _ _ _ _) ?_
      refine g_if_le (tgt := 48) (by first | omega | (simp only [inB, cellB, decide_eq_true_eq, decide_eq_false_iff_not] at *; omega)) dX4_sink_43 (by decide) (fun h43_6 => absurd h43_6 (by omega)) (fun h43_6 => ?_)
      refine g_iconst dX4_sink_46 ?_
      exact g_iret dX4_sink_47 rfl (Nat.le_of_ble_eq_true rfl) (Nat.le_of_ble_eq_true rfl) (pr_i (by first | (rw [show sinE B x p c = ahE B x p c from by simp only [sinE]; rw [if_pos (by assumption)], if_neg (by assumption)]) | (rw [show sinE B x p c = 0 from by simp only [sinE, inB, cellB, decide_eq_true_eq, decide_eq_false_iff_not] at *; grind]; rfl) | (rw [show sinE B (k : Int) p c = 0 from by simp only [sinE, inB, cellB, decide_eq_true_eq, decide_eq_false_iff_not] at *; grind]; rfl) | (rw [show sinE B x p c = 2 from by simp only [sinE, inB, cellB, decide_eq_true_eq, decide_eq_false_iff_not] at *; grind]; rfl) | (rw [show sinE B (k : Int) p c = 2 from by simp only [sinE, inB, cellB, decide_eq_true_eq, decide_eq_false_iff_not] at *; grind]; rfl)) (by first | (rw [show sinE B x p c = ahE B x p c from by simp only [sinE]; rw [if_pos (by assumption)], if_neg (by assumption)]) | (rw [show sinE B x p c = 0 from by simp only [sinE, inB, cellB, decide_eq_true_eq, decide_eq_false_iff_not] at *; grind]; rfl) | (rw [show sinE B (k : Int) p c = 0 from by simp only [sinE, inB, cellB, decide_eq_true_eq, decide_eq_false_iff_not] at *; grind]; rfl) | (rw [show sinE B x p c = 2 from by simp only [sinE, inB, cellB, decide_eq_true_eq, decide_eq_false_iff_not] at *; grind]; rfl) | (rw [show sinE B (k : Int) p c = 2 from by simp only [sinE, inB, cellB, decide_eq_true_eq, decide_eq_false_iff_not] at *; grind]; rfl)))
    · skip
      refine g_aload_n 0 dX4_sink_24 rfl rfl ?_
      refine g_getfr2 (r := 37) cf_5 16 rfl (by decide) (by decide) rfl (by decide) wf_X4_50 dX4_sink_25 (hM 20 rfl) rfl ?_
      refine g_iload_n 1 dX4_sink_28 rfl rfl ?_
      refine g_iald (k) (by first | omega | (simp only [inB, cellB, decide_eq_true_eq, decide_eq_false_iff_not] at *; omega)) (by first | omega | (simp only [inB, cellB, decide_eq_true_eq, decide_eq_false_iff_not] at *; omega)) rfl (by decide) dX4_sink_29 (n2 (hM 37 rfl)) (fun h29_7 => ?_)
      refine g_iconst dX4_sink_30 ?_
      refine g_icmp_ne (tgt := 39) (by first | omega | (simp only [inB, cellB, decide_eq_true_eq, decide_eq_false_iff_not] at *; omega)) (by first | omega | (simp only [inB, cellB, decide_eq_true_eq, decide_eq_false_iff_not] at *; omega)) dX4_sink_31 (by decide) (fun h31_8 => ?_) (fun h31_8 => ?_)
      · skip
        refine g_aload_n 0 dX4_sink_39 rfl rfl ?_
        refine g_getfi cf_5 0 rfl (by decide) (by decide) rfl (by decide) wf_X4_104 dX4_sink_40 (n2 (hM 20 rfl)) (fun h40_9 => ?_)
        refine g_top (y := 0) (gup_at _ _ _ _) ?_
        refine g_if_le (tgt := 48) (by first | omega | (simp only [inB, cellB, decide_eq_true_eq, decide_eq_false_iff_not] at *; omega)) dX4_sink_43 (by decide) (fun h43_10 => ?_) (fun h43_10 => absurd h43_10 (by omega))
        refine g_aload_n 0 dX4_sink_48 rfl rfl ?_
        refine g_getfr2 (r := 36) cf_5 15 rfl (by decide) (by decide) rfl (by decide) wf_X4_47 dX4_sink_49 (hM 20 rfl) rfl ?_
        refine g_iload_n 1 dX4_sink_52 rfl rfl ?_
        refine g_aload_n 0 dX4_sink_53 rfl rfl ?_
        refine g_getfi cf_5 1 rfl (by decide) (by decide) rfl (by decide) wf_X4_118 dX4_sink_54 (n2 (hM 20 rfl)) (fun h54_11 => ?_)
        refine g_top (y := A 20 1) (by simp [gup_ap]) ?_
        refine g_iast (k) (by first | omega | (simp only [inB, cellB, decide_eq_true_eq, decide_eq_false_iff_not] at *; omega)) (by first | omega | (simp only [inB, cellB, decide_eq_true_eq, decide_eq_false_iff_not] at *; omega)) (by first | omega | (simp only [inB, cellB, decide_eq_true_eq, decide_eq_false_iff_not] at *; omega)) rfl (by decide) dX4_sink_57 (n2 (hM 36 rfl)) ?_
        refine g_aload_n 0 dX4_sink_58 rfl rfl ?_
        refine g_getfr2 (r := 37) cf_5 16 rfl (by decide) (by decide) rfl (by decide) wf_X4_50 dX4_sink_59 (hM 20 rfl) rfl ?_
        refine g_iload_n 1 dX4_sink_62 rfl rfl ?_
        refine g_dup2 dX4_sink_63 (c1_i _) (c1_r _) ?_
        refine g_iald (k) (by first | omega | (simp only [inB, cellB, decide_eq_true_eq, decide_eq_false_iff_not] at *; omega)) (by first | omega | (simp only [inB, cellB, decide_eq_true_eq, decide_eq_false_iff_not] at *; omega)) rfl (by decide) dX4_sink_64 (n2 (hM 37 rfl)) (fun h64_12 => ?_)
        refine g_top (y := A 37 k) (by simp [gup_ap]) ?_
        refine g_iconst dX4_sink_65 ?_
        refine g_iadd dX4_sink_66 ?_
        refine g_iast (k) (by first | omega | (simp only [inB, cellB, decide_eq_true_eq, decide_eq_false_iff_not] at *; omega)) (by first | omega | (simp only [inB, cellB, decide_eq_true_eq, decide_eq_false_iff_not] at *; omega)) (by first | omega | (simp only [inB, cellB, decide_eq_true_eq, decide_eq_false_iff_not] at *; omega)) rfl (by decide) dX4_sink_67 (n2 (hM 37 rfl)) ?_
        refine g_aload_n 0 dX4_sink_68 rfl rfl ?_
        refine g_iload_n 3 dX4_sink_69 rfl rfl ?_
        refine g_iconst dX4_sink_70 ?_
        refine g_iload_n 1 dX4_sink_71 rfl rfl ?_
        refine g_cV_i (My := mX4_opens) (gs := [_, _, _]) (c_X4_opens (A := gup (gup (gup A 20 0 0) 36 k (A 20 1)) 37 k (A 37 k + 1)) hM (fun z => by (simp only [gup_ap]; have := rl_pr hR; have h9 := hg.2.2.2.2.1 z; simp [this]; omega)) hc1 (p := -1) (k := (k : Int)) (by omega) (by omega) (by simp only [gup_ap]; simp; omega) (by simp only [gup_ap]; simp; intro h9; have := iv_room hI hc1 (by omega); omega) (by simp only [gup_ap]; simp; rw [r16]; exact iv_p hI _ (by omega))) mfX4_opens cf_5 wi_X4_opens wsl_X4_opens wm_X4_185 dX4_sink_72 (Nat.le_of_ble_eq_true rfl) rfl (by decide) (n2 (hM 20 rfl)) rfl (fun _ => Nat.le_of_ble_eq_true rfl) (Nat.le_of_ble_eq_true rfl) (Nat.le_of_ble_eq_true rfl) rfl rfl ?_
        refine g_top (y := A 24 c.toNat) (by simp [gup_ap]) ?_
        exact g_iret dX4_sink_75 rfl (Nat.le_of_ble_eq_true rfl) (Nat.le_of_ble_eq_true rfl) (pr_i (by first | (rw [show sinE B x p c = ahE B x p c from by simp only [sinE]; rw [if_pos (by assumption)], if_neg (by assumption)]) | (rw [show sinE B x p c = 0 from by simp only [sinE, inB, cellB, decide_eq_true_eq, decide_eq_false_iff_not] at *; grind]; rfl) | (rw [show sinE B (k : Int) p c = 0 from by simp only [sinE, inB, cellB, decide_eq_true_eq, decide_eq_false_iff_not] at *; grind]; rfl) | (rw [show sinE B x p c = 2 from by simp only [sinE, inB, cellB, decide_eq_true_eq, decide_eq_false_iff_not] at *; grind]; rfl) | (rw [show sinE B (k : Int) p c = 2 from by simp only [sinE, inB, cellB, decide_eq_true_eq, decide_eq_false_iff_not] at *; grind]; rfl)) (by first | (rw [show sinE B x p c = ahE B x p c from by simp only [sinE]; rw [if_pos (by assumption)], if_neg (by assumption)]) | (rw [show sinE B x p c = 0 from by simp only [sinE, inB, cellB, decide_eq_true_eq, decide_eq_false_iff_not] at *; grind]; rfl) | (rw [show sinE B (k : Int) p c = 0 from by simp only [sinE, inB, cellB, decide_eq_true_eq, decide_eq_false_iff_not] at *; grind]; rfl) | (rw [show sinE B x p c = 2 from by simp only [sinE, inB, cellB, decide_eq_true_eq, decide_eq_false_iff_not] at *; grind]; rfl) | (rw [show sinE B (k : Int) p c = 2 from by simp only [sinE, inB, cellB, decide_eq_true_eq, decide_eq_false_iff_not] at *; grind]; rfl)))
      · skip
        refine g_aload_n 0 dX4_sink_34 rfl rfl ?_
        refine g_iconst dX4_sink_35 ?_
        refine g_putfi cf_5 0 rfl (by decide) (by decide) rfl (by decide) wf_X4_104 (Or.inl rfl) rfl dX4_sink_36 (n2 (hM 20 rfl)) (by first | omega | (simp only [inB, cellB, decide_eq_true_eq, decide_eq_false_iff_not] at *; omega)) ?_
        refine g_ls (A2 := gup A 20 0 2) rfl rfl (gup_tw _ _ _ _ _) ?_
        refine g_aload_n 0 dX4_sink_39 rfl rfl ?_
        refine g_getfi cf_5 0 rfl (by decide) (by decide) rfl (by decide) wf_X4_104 dX4_sink_40 (n2 (hM 20 rfl)) (fun h40_13 => ?_)
        refine g_top (y := 2) (gup_at _ _ _ _) ?_
        refine g_if_le (tgt := 48) (by first | omega | (simp only [inB, cellB, decide_eq_true_eq, decide_eq_false_iff_not] at *; omega)) dX4_sink_43 (by decide) (fun h43_14 => absurd h43_14 (by omega)) (fun h43_14 => ?_)
        refine g_iconst dX4_sink_46 ?_
        exact g_iret dX4_sink_47 rfl (Nat.le_of_ble_eq_true rfl) (Nat.le_of_ble_eq_true rfl) (pr_i (by first | (rw [show sinE B x p c = ahE B x p c from by simp only [sinE]; rw [if_pos (by assumption)], if_neg (by assumption)]) | (rw [show sinE B x p c = 0 from by simp only [sinE, inB, cellB, decide_eq_true_eq, decide_eq_false_iff_not] at *; grind]; rfl) | (rw [show sinE B (k : Int) p c = 0 from by simp only [sinE, inB, cellB, decide_eq_true_eq, decide_eq_false_iff_not] at *; grind]; rfl) | (rw [show sinE B x p c = 2 from by simp only [sinE, inB, cellB, decide_eq_true_eq, decide_eq_false_iff_not] at *; grind]; rfl) | (rw [show sinE B (k : Int) p c = 2 from by simp only [sinE, inB, cellB, decide_eq_true_eq, decide_eq_false_iff_not] at *; grind]; rfl)) (by first | (rw [show sinE B x p c = ahE B x p c from by simp only [sinE]; rw [if_pos (by assumption)], if_neg (by assumption)]) | (rw [show sinE B x p c = 0 from by simp only [sinE, inB, cellB, decide_eq_true_eq, decide_eq_false_iff_not] at *; grind]; rfl) | (rw [show sinE B (k : Int) p c = 0 from by simp only [sinE, inB, cellB, decide_eq_true_eq, decide_eq_false_iff_not] at *; grind]; rfl) | (rw [show sinE B x p c = 2 from by simp only [sinE, inB, cellB, decide_eq_true_eq, decide_eq_false_iff_not] at *; grind]; rfl) | (rw [show sinE B (k : Int) p c = 2 from by simp only [sinE, inB, cellB, decide_eq_true_eq, decide_eq_false_iff_not] at *; grind]; rfl)))
  · skip
    have hae := ahE_012 B x p c
    refine g_cV_v (My := mX4_asks) (gs := [_, _, _]) (c_X4_asks hM hV hR hx hp hc) mfX4_asks cf_5 wi_X4_asks wsl_X4_asks wm_X4_178 dX4_sink_4 (Nat.le_of_ble_eq_true rfl) rfl (by decide) (n2 (hM 20 rfl)) rfl (fun _ => Nat.le_of_ble_eq_true rfl) (Nat.le_of_ble_eq_true rfl) (Nat.le_of_ble_eq_true rfl) rfl rfl ?_
    refine g_aload_n 0 dX4_sink_7 rfl rfl ?_
    refine g_getfi cf_5 0 rfl (by decide) (by decide) rfl (by decide) wf_X4_104 dX4_sink_8 (n2 (hM 20 rfl)) (fun h8_15 => ?_)
    refine g_top (y := ((ahE B x p c : Nat) : Int)) (gup_at _ _ _ _) ?_
    refine g_if_ne (tgt := 39) (by first | omega | (simp only [inB, cellB, decide_eq_true_eq, decide_eq_false_iff_not] at *; omega)) dX4_sink_11 (by decide) (fun h11_16 => ?_) (fun h11_16 => absurd h11_16 (by omega))
    refine g_aload_n 0 dX4_sink_39 rfl rfl ?_
    refine g_getfi cf_5 0 rfl (by decide) (by decide) rfl (by decide) wf_X4_104 dX4_sink_40 (n2 (hM 20 rfl)) (fun h40_17 => ?_)
    refine g_top (y := ((ahE B x p c : Nat) : Int)) (gup_at _ _ _ _) ?_
    refine g_if_le (tgt := 48) (by first | omega | (simp only [inB, cellB, decide_eq_true_eq, decide_eq_false_iff_not] at *; omega)) dX4_sink_43 (by decide) (fun h43_18 => absurd h43_18 (by omega)) (fun h43_18 => ?_)
    refine g_iconst dX4_sink_46 ?_
    exact g_iret dX4_sink_47 rfl (Nat.le_of_ble_eq_true rfl) (Nat.le_of_ble_eq_true rfl) (pr_i (by first | (rw [show sinE B x p c = ahE B x p c from by simp only [sinE]; rw [if_pos (by assumption)], if_neg (by assumption)]) | (rw [show sinE B x p c = 0 from by simp only [sinE, inB, cellB, decide_eq_true_eq, decide_eq_false_iff_not] at *; grind]; rfl) | (rw [show sinE B (k : Int) p c = 0 from by simp only [sinE, inB, cellB, decide_eq_true_eq, decide_eq_false_iff_not] at *; grind]; rfl) | (rw [show sinE B x p c = 2 from by simp only [sinE, inB, cellB, decide_eq_true_eq, decide_eq_false_iff_not] at *; grind]; rfl) | (rw [show sinE B (k : Int) p c = 2 from by simp only [sinE, inB, cellB, decide_eq_true_eq, decide_eq_false_iff_not] at *; grind]; rfl)) (by first | (rw [show sinE B x p c = ahE B x p c from by simp only [sinE]; rw [if_pos (by assumption)], if_neg (by assumption)]) | (rw [show sinE B x p c = 0 from by simp only [sinE, inB, cellB, decide_eq_true_eq, decide_eq_false_iff_not] at *; grind]; rfl) | (rw [show sinE B (k : Int) p c = 0 from by simp only [sinE, inB, cellB, decide_eq_true_eq, decide_eq_false_iff_not] at *; grind]; rfl) | (rw [show sinE B x p c = 2 from by simp only [sinE, inB, cellB, decide_eq_true_eq, decide_eq_false_iff_not] at *; grind]; rfl) | (rw [show sinE B (k : Int) p c = 2 from by simp only [sinE, inB, cellB, decide_eq_true_eq, decide_eq_false_iff_not] at *; grind]; rfl)))

set_option maxHeartbeats 1000000 in
set_option maxRecDepth 20000 in
theorem c_X4_canRat {L : Nat → Nat} {A B : Mem} (hM : LM L) (hV : VC L B) (hR : Rel B A) {p c : Int} (hp : 0 ≤ p ∧ p < 8) (hc : 0 ≤ c ∧ c < 100) : Ct mX4_canRat [gr 20, gi p, gi c] L A (pr (some (gi (b2 (decide (nigB (B 0 9) = true ∧ brdC B p = 0 ∧ hldC B c ≠ -1 ∧ ¬ 0 < B (101 + 3 * (hldC B c).toNat) p.toNat ∧ digB B c = true))))) L A) := by
  have hnc := vc_nc hV; have hns := vc_ns hV; have hp0 := (vc_p hV).1
  have rnow := rl_now hR; have rnc := rl_nc hR; have rns := rl_ns hR
  have hg := vc_g hV; have hpv := vc_p hV
  have r12 := congrFun (rl_st hR) c.toNat; have r14 := congrFun (rl_ca hR) c.toNat; have r15 := congrFun (rl_de hR) c.toNat; have r13 := rl_to hR c.toNat; have r16 := congrFun (rl_pr hR) c.toNat; have r17 := congrFun (rl_tr hR) c.toNat
  have g12 := hg.1 c.toNat; have g13 := hg.2.1 c.toNat; have g14 := hg.2.2.1 c.toNat; have g15 := hg.2.2.2.1 c.toNat; have g16 := hg.2.2.2.2.1 c.toNat; have g17 := hg.2.2.2.2.2 c.toNat
  have hhr := hldC_rg hV c
  have hbp : 0 ≤ brdC B p := by unfold brdC; split <;> omega
  have hdb := digB_eq B c; rw [opB_in hc] at hdb
  refine Ct_of (ls := [(0, _), (1, _), (2, _)]) rfl (by decide) (fun _ => rfl) (fun _ => Nat.le_of_ble_eq_true rfl) ?_
  refine g_aload_n 0 dX4_canRat_0 rfl rfl ?_
  refine g_iload_n 2 dX4_canRat_1 rfl rfl ?_
  refine g_cV_i (My := mX4_holder) (gs := [_]) (c_X4_holder hM hV hR hc) mfX4_holder cf_5 wi_X4_holder wsl_X4_holder wm_X4_175 dX4_canRat_2 (Nat.le_of_ble_eq_true rfl) rfl (by decide) (n2 (hM 20 rfl)) rfl (fun _ => Nat.le_of_ble_eq_true rfl) (Nat.le_of_ble_eq_true rfl) (Nat.le_of_ble_eq_true rfl) rfl rfl ?_
  refine g_st (ls2 := [(3, _), (0, _), (1, _), (2, _)]) dX4_canRat_5 rfl (by decide) (c1_cr (c1_ci (c1_ci c1_0))) rfl ?_
  refine g_aload_n 1 dX4_canRat_6 rfl rfl ?_
  refine g_cV_i (My := mX4_isNight) (gs := []) (c_X4_isNight hM hV hR) mfX4_isNight cf_5 wi_X4_isNight wsl_X4_isNight wm_X4_192 dX4_canRat_7 (Nat.le_of_ble_eq_true rfl) rfl (by decide) (n2 (hM 20 rfl)) rfl (fun _ => Nat.le_of_ble_eq_true rfl) (Nat.le_of_ble_eq_true rfl) (Nat.le_of_ble_eq_true rfl) rfl rfl ?_
  refine g_ifb_eq (tgt := 39) dX4_canRat_10 (by decide) (fun h10_1 => ?_) (fun h10_1 => ?_)
  · skip
    refine g_iconst dX4_canRat_39 ?_
    refine g_st2 (ls2 := [(4, _), (3, _), (0, _), (1, _), (2, _)]) dX4_canRat_40 (by decide) (c1_ci (c1_cr (c1_ci (c1_ci c1_0)))) rfl ?_
    refine g_iload 0 dX4_canRat_42 rfl ?_
    refine g_if_eq (tgt := 69) (by omega) dX4_canRat_44 (by decide) (fun h44_2 => ?_) (fun h44_2 => absurd h44_2 (by omega))
    refine g_iconst dX4_canRat_69 ?_
    exact g_zret dX4_canRat_70 rfl (Or.inl rfl) (Nat.le_of_ble_eq_true rfl) (Nat.le_of_ble_eq_true rfl) (pr_i (b2_0 (by simp only [decide_eq_true_eq, decide_eq_false_iff_not] at *; grind)) (rfl))
  · skip
    refine g_aload_n 1 dX4_canRat_13 rfl rfl ?_
    refine g_iload_n 2 dX4_canRat_14 rfl rfl ?_
    refine g_cV_i (My := mX4_isBarred) (gs := [_]) (c_X4_isBarred hM hV hR hp) mfX4_isBarred cf_5 wi_X4_isBarred wsl_X4_isBarred wm_X4_131 dX4_canRat_15 (Nat.le_of_ble_eq_true rfl) rfl (by decide) (n2 (hM 20 rfl)) rfl (fun _ => Nat.le_of_ble_eq_true rfl) (Nat.le_of_ble_eq_true rfl) (Nat.le_of_ble_eq_true rfl) rfl rfl ?_
    refine g_ifb_ne (tgt := 39) dX4_canRat_18 (by decide) (fun h18_3 => ?_) (fun h18_3 => ?_)
    · skip
      refine g_iconst dX4_canRat_39 ?_
      refine g_st2 (ls2 := [(4, _), (3, _), (0, _), (1, _), (2, _)]) dX4_canRat_40 (by decide) (c1_ci (c1_cr (c1_ci (c1_ci c1_0)))) rfl ?_
      refine g_iload 0 dX4_canRat_42 rfl ?_
      refine g_if_eq (tgt := 69) (by omega) dX4_canRat_44 (by decide) (fun h44_4 => ?_) (fun h44_4 => absurd h44_4 (by omega))
      refine g_iconst dX4_canRat_69 ?_
      exact g_zret dX4_canRat_70 rfl (Or.inl rfl) (Nat.le_of_ble_eq_true rfl) (Nat.le_of_ble_eq_true rfl) (pr_i (b2_0 (by simp only [decide_eq_true_eq, decide_eq_false_iff_not] at *; grind)) (rfl))
    · skip
      refine g_iload_n 0 dX4_canRat_21 rfl rfl ?_
      refine g_iconst dX4_canRat_22 ?_
      refine g_icmp_eq (tgt := 39) (by omega) (by omega) dX4_canRat_23 (by decide) (fun h23_5 => ?_) (fun h23_5 => ?_)
      · skip
        refine g_iconst dX4_canRat_39 ?_
        refine g_st2 (ls2 := [(4, _), (3, _), (0, _), (1, _), (2, _)]) dX4_canRat_40 (by decide) (c1_ci (c1_cr (c1_ci (c1_ci c1_0)))) rfl ?_
        refine g_iload 0 dX4_canRat_42 rfl ?_
        refine g_if_eq (tgt := 69) (by omega) dX4_canRat_44 (by decide) (fun h44_6 => ?_) (fun h44_6 => absurd h44_6 (by omega))
        refine g_iconst dX4_canRat_69 ?_
        exact g_zret dX4_canRat_70 rfl (Or.inl rfl) (Nat.le_of_ble_eq_true rfl) (Nat.le_of_ble_eq_true rfl) (pr_i (b2_0 (by simp only [decide_eq_true_eq, decide_eq_false_iff_not] at *; grind)) (rfl))
      · skip
        refine g_aload_n 1 dX4_canRat_26 rfl rfl ?_
        refine g_iload_n 0 dX4_canRat_27 rfl rfl ?_
        refine g_top (y := (((hldC B c).toNat : Nat) : Int)) (by omega) ?_
        refine g_iload_n 2 dX4_canRat_28 rfl rfl ?_
        refine g_cV_i (My := mX4_shareOf) (gs := [_, _]) (c_X4_shareOf hM hV hR (k := (hldC B c).toNat) (by omega) hp) mfX4_shareOf cf_5 wi_X4_shareOf wsl_X4_shareOf wm_X4_145 dX4_canRat_29 (Nat.le_of_ble_eq_true rfl) rfl (by decide) (n2 (hM 20 rfl)) rfl (fun _ => Nat.le_of_ble_eq_true rfl) (Nat.le_of_ble_eq_true rfl) (Nat.le_of_ble_eq_true rfl) rfl rfl ?_
        have hsr := (vc_cv hV (show (((hldC B c).toNat : Nat) : Int) < B 2 2 by omega)).2.2.2.2.2.1 p.toNat
        refine g_if_ne (tgt := 39) (by omega) dX4_canRat_32 (by decide) (fun h32_7 => ?_) (fun h32_7 => ?_)
        · skip
          refine g_iconst dX4_canRat_39 ?_
          refine g_st2 (ls2 := [(4, _), (3, _), (0, _), (1, _), (2, _)]) dX4_canRat_40 (by decide) (c1_ci (c1_cr (c1_ci (c1_ci c1_0)))) rfl ?_
          refine g_iload 0 dX4_canRat_42 rfl ?_
          refine g_if_eq (tgt := 69) (by omega) dX4_canRat_44 (by decide) (fun h44_8 => ?_) (fun h44_8 => absurd h44_8 (by omega))
          refine g_iconst dX4_canRat_69 ?_
          exact g_zret dX4_canRat_70 rfl (Or.inl rfl) (Nat.le_of_ble_eq_true rfl) (Nat.le_of_ble_eq_true rfl) (pr_i (b2_0 (by simp only [decide_eq_true_eq, decide_eq_false_iff_not] at *; grind)) (rfl))
        · skip
          refine g_iconst dX4_canRat_35 ?_
          refine g_goto (tgt := 40) dX4_canRat_36 (by decide) ?_
          refine g_st2 (ls2 := [(4, _), (3, _), (0, _), (1, _), (2, _)]) dX4_canRat_40 (by decide) (c1_ci (c1_cr (c1_ci (c1_ci c1_0)))) rfl ?_
          refine g_iload 0 dX4_canRat_42 rfl ?_
          refine g_if_eq (tgt := 69) (by omega) dX4_canRat_44 (by decide) (fun h44_9 => absurd h44_9 (by omega)) (fun h44_9 => ?_)
          refine g_aload_n 2 dX4_canRat_47 rfl rfl ?_
          refine g_getfr2 (r := 23) cf_5 2 rfl (by decide) (by decide) rfl (by decide) wf_X4_7 dX4_canRat_48 (hM 20 rfl) rfl ?_
          refine g_iload_n 4 dX4_canRat_51 rfl rfl ?_
          refine g_iald (c.toNat) (by omega) (by omega) rfl (by decide) dX4_canRat_52 (n2 (hM 23 rfl)) (fun h52_10 => ?_)
          refine g_iconst dX4_canRat_53 ?_
          refine g_icmp_eq (tgt := 69) (by omega) (by omega) dX4_canRat_54 (by decide) (fun h54_11 => ?_) (fun h54_11 => ?_)
          · skip
            refine g_iconst dX4_canRat_69 ?_
            exact g_zret dX4_canRat_70 rfl (Or.inl rfl) (Nat.le_of_ble_eq_true rfl) (Nat.le_of_ble_eq_true rfl) (pr_i (b2_0 (by simp only [decide_eq_true_eq, decide_eq_false_iff_not] at *; grind)) (rfl))
          · skip
            refine g_aload_n 2 dX4_canRat_57 rfl rfl ?_
            refine g_iload_n 4 dX4_canRat_58 rfl rfl ?_
            refine g_cV_i (My := mX4_isBesideOpen) (gs := [_]) (c_X4_isBesideOpen hM hV hR hc) mfX4_isBesideOpen cf_5 wi_X4_isBesideOpen wsl_X4_isBesideOpen wm_X4_182 dX4_canRat_59 (Nat.le_of_ble_eq_true rfl) rfl (by decide) (n2 (hM 20 rfl)) rfl (fun _ => Nat.le_of_ble_eq_true rfl) (Nat.le_of_ble_eq_true rfl) (Nat.le_of_ble_eq_true rfl) rfl rfl ?_
            refine g_ifb_eq (tgt := 69) dX4_canRat_62 (by decide) (fun h62_12 => ?_) (fun h62_12 => ?_)
            · skip
              refine g_iconst dX4_canRat_69 ?_
              exact g_zret dX4_canRat_70 rfl (Or.inl rfl) (Nat.le_of_ble_eq_true rfl) (Nat.le_of_ble_eq_true rfl) (pr_i (b2_0 (by simp only [decide_eq_true_eq, decide_eq_false_iff_not] at *; grind)) (rfl))
            · skip
              refine g_iconst dX4_canRat_65 ?_
              refine g_goto (tgt := 70) dX4_canRat_66 (by decide) ?_
              exact g_zret dX4_canRat_70 rfl (Or.inr rfl) (Nat.le_of_ble_eq_true rfl) (Nat.le_of_ble_eq_true rfl) (pr_i (b2_1 (by simp only [decide_eq_true_eq, decide_eq_false_iff_not] at *; grind)) (rfl))

