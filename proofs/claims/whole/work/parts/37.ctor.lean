set_option maxRecDepth 100000 in
theorem ly_low1 : ∀ m, m < 100 → (ly m).1 ≠ 1 ∧ (ly m).1 ≠ 3 ∧ ((ly m).1 = 9 → m = 4 ∨ m = 5) ∧ ((ly m).1 = 0 → m = 2 ∨ m = 3) := by decide +kernel
set_option maxRecDepth 100000 in
theorem ly_low2 : ∀ m, m < 100 → ((ly m).1 = 2 → (ly m).2 = 6) ∧ ((ly m).1 = 4 → (ly m).2 = 10) ∧ ((ly m).1 = 5 → (ly m).2 = 37) := by decide +kernel
theorem rf_low {m k : Nat} (hm : m < 100) (hk : k < (ly m).2) (h : rfk (ly m).1 k = true) : rfn (ly m).1 m k < 100 := by
  have h1 := ly_low1 m hm
  have h2 := ly_low2 m hm
  generalize hc : (ly m).1 = c at *
  match c, hc, h, h1, h2 with
  | 0, _, h, _, _ => exact absurd h (by simp [rfk])
  | 1, _, _, h1, _ => exact absurd rfl h1.1
  | 2, _, _, _, h2 => rw [h2.1 rfl] at hk; show 12 + k < 100; omega
  | 3, _, _, h1, _ => exact absurd rfl h1.2.1
  | 4, _, _, _, h2 =>
    rw [h2.2.1 rfl] at hk
    show [1, 2, 3, 6, 7, 8, 9, 10, 11].getD k 0 < 100
    rcases (show k = 0 ∨ k = 1 ∨ k = 2 ∨ k = 3 ∨ k = 4 ∨ k = 5 ∨ k = 6 ∨ k = 7 ∨ k = 8 ∨ k = 9 by omega) with rfl | rfl | rfl | rfl | rfl | rfl | rfl | rfl | rfl | rfl <;> decide
  | 5, _, _, _, h2 => rw [h2.2.2 rfl] at hk; show 21 + k < 100; omega
  | c + 6, _, h, _, _ => exact absurd h (by simp [rfk])
theorem ly_mid {m : Nat} (h1 : 100 ≤ m) (h2 : m < 200) : ly m = (1, 10) ∨ ly m = (6, 8) := by
  unfold ly; rw [if_neg (by omega), if_pos h2]; split <;> simp
theorem ly_hi {m : Nat} (h1 : 200 ≤ m) : (ly m = (3, 11) ∧ (m - 200) % 3 = 0) ∨ ly m = (6, 5) := by
  unfold ly; rw [if_neg (by omega), if_neg (by omega)]; split <;> simp [*]
/-- nothing refers to the next stone's names -/
theorem nr_stone {L : Nat → Nat} {A : Mem} {s t n : Nat} (hn : n = 200 + 3 * s + t) (ht : t ≤ 2) (hL : ∀ n, 136 ≤ n → n < 200 → L n = 0) (hS : ∀ m, n ≤ m → L m = 0) (h4 : L 4 ≠ 0 → A 4 1 ≤ 12) (h5 : L 5 ≠ 0 → A 5 1 ≤ s) (h0 : 1 ≤ t → A (200 + 3 * s) (8 + t) = 0) : NoRef L A n := by
  intro m hm
  have hmn : m < n := by
    rcases Nat.lt_or_ge m n with h | h
    · exact h
    · exact absurd (hS m h) hm
  have hm2 : m < 136 ∨ 200 ≤ m := by
    rcases Nat.lt_or_ge m 136 with h | h
    · exact Or.inl h
    · rcases Nat.lt_or_ge m 200 with h9 | h9
      · exact absurd (hL m h h9) hm
      · exact Or.inr h9
  refine ⟨by omega, fun k hk hr he => ?_, fun h9 h8 => ?_, fun h9 j hj => ?_⟩
  · rcases Nat.lt_or_ge m 100 with h | h
    · have := rf_low h hk hr; omega
    · rcases hm2 with h2 | h2
      · rcases ly_mid h (by omega) with e | e
        · rw [e] at hk he; have : m + (k - 7) = n := he; have : k < 10 := hk; omega
        · rw [e] at hr; exact absurd hr (by simp [rfk])
      · rcases ly_hi h2 with ⟨e, e3⟩ | e
        · rw [e] at hk he
          have h6 : m + (k - 8) = n := he
          have h7 : k < 11 := hk
          have h8 : m = 200 + 3 * s := by omega
          have h9 : k = 8 + t := by omega
          rw [h8, h9]; exact h0 (by omega)
        · rw [e] at hr; exact absurd hr (by simp [rfk])
  · rcases Nat.lt_or_ge m 100 with h | h
    · have := (ly_low1 m h).2.2.2 h9; omega
    · rcases hm2 with h2 | h2
      · rcases ly_mid h (by omega) with e | e <;> rw [e] at h9 <;> exact absurd h9 (by decide)
      · rcases ly_hi h2 with ⟨e, _⟩ | e <;> rw [e] at h9 <;> exact absurd h9 (by decide)
  · rcases Nat.lt_or_ge m 100 with h | h
    · rcases (ly_low1 m h).2.2.1 h9 with e | e
      · rw [e] at hj hm; have := h4 hm; rw [e, eln_4]; omega
      · rw [e] at hj hm; have := h5 hm; rw [e, eln_5]; omega
    · rcases hm2 with h2 | h2
      · rcases ly_mid h (by omega) with e | e <;> rw [e] at h9 <;> exact absurd h9 (by decide)
      · rcases ly_hi h2 with ⟨e, _⟩ | e <;> rw [e] at h9 <;> exact absurd h9 (by decide)
/-- a stone as its constructor leaves it -/
def stnA (A : Mem) (s : Nat) (c w d k p : Int) : Mem := gup (gup (gup (gup (gup (gup (gz (gup (gz (gup A (200 + 3 * s) 7 (-1)) (201 + 3 * s)) (200 + 3 * s) 9 1) (202 + 3 * s)) (200 + 3 * s) 10 1) (200 + 3 * s) 0 c) (200 + 3 * s) 3 w) (200 + 3 * s) 1 d) (200 + 3 * s) 2 k) (200 + 3 * s) 6 p

set_option maxHeartbeats 1000000 in
set_option maxRecDepth 20000 in
theorem c_X2_init {L : Nat → Nat} {A : Mem} {s : Nat} {c w d k p : Int} (hc : -2147483648 ≤ c ∧ c < 2147483648) (hw : -2147483648 ≤ w ∧ w < 2147483648) (hd : -2147483648 ≤ d ∧ d < 2147483648) (hk : -2147483648 ≤ k ∧ k < 2147483648) (hp : -2147483648 ≤ p ∧ p < 2147483648) (h0 : L (200 + 3 * s) = 1) (hL : ∀ n, 136 ≤ n → n < 200 → L n = 0) (hS : ∀ n, 201 + 3 * s ≤ n → L n = 0) (h4 : L 4 ≠ 0 → A 4 1 ≤ 12) (h5 : L 5 ≠ 0 → A 5 1 ≤ s) (hz : ∀ j, A (200 + 3 * s) j = 0) : Ct mX2_init [gr (200 + 3 * s), gi c, gi w, gi d, gi k, gi p] L A (pr none (gset (gset (gset L (201 + 3 * s) 2) (202 + 3 * s) 2) (200 + 3 * s) 2) (stnA A s c w d k p)) := by
  refine Ct_of (ls := [(0, _), (1, _), (2, _), (3, _), (4, _), (5, _)]) rfl (by decide) (fun _ => rfl) (fun _ => Nat.le_of_ble_eq_true rfl) ?_
  refine g_aload_n 0 dX2_init_0 rfl rfl ?_
  refine g_oinit wm_X2_3 dX2_init_1 (fun _ => Nat.le_of_ble_eq_true rfl) ?_
  refine g_aload_n 0 dX2_init_4 rfl rfl ?_
  refine g_iconst dX2_init_5 ?_
  refine g_putfi cf_3 7 (ly_s0 s) (by decide) (by decide) rfl (by decide) wf_X2_9 (Or.inl rfl) rfl dX2_init_6 (by (repeat (first | rw [gset_eq] | rw [gset_ne (by omega)])); omega) (by omega) ?_
  refine g_aload_n 0 dX2_init_9 rfl rfl ?_
  refine g_iconst dX2_init_10 ?_
  refine g_newi2 (n := 201 + 3 * s) 5 rfl (by decide) (ly_s1 s) (by (repeat rw [gset_ne (by omega)]); exact hS _ (by omega)) rfl (Nat.le_of_ble_eq_true rfl) (Nat.le_of_ble_eq_true rfl) wa_int dX2_init_11 (nr_stone (s := s) (t := 1) (by omega) (by omega) (fun n q1 q2 => hL n q1 q2) (fun n q => hS n (by omega)) (fun q => by rw [gup_ne (by omega)]; exact h4 q) (fun q => by rw [gup_ne (by omega)]; exact h5 q) (fun _ => by rw [gup_ap, if_neg (by omega)]; exact hz 9)) ⟨by (simp only [List.forall_mem_cons]; exact ⟨okv_r (by (repeat (first | rw [gset_eq] | rw [gset_ne (by omega)])); omega) (by rw [ly_s0]; decide), okv_i _, okv_i _, okv_i _, okv_i _, okv_i _, fun _ h => absurd h List.not_mem_nil⟩), by (simp only [List.forall_mem_cons]; exact ⟨okv_r (by (repeat (first | rw [gset_eq] | rw [gset_ne (by omega)])); omega) (by rw [ly_s0]; decide), fun _ h => absurd h List.not_mem_nil⟩)⟩ ?_
  refine g_putfr cf_3 9 (ly_s0 s) (by decide) (by decide) rfl (Eq.symm (rfn_s9 s)) (by decide) wf_X2_15 (Or.inr ⟨rfl, rfl, rfl⟩) (Or.inr ⟨_, rfl⟩) dX2_init_13 (by (repeat (first | rw [gset_eq] | rw [gset_ne (by omega)])); omega) ?_
  refine g_aload_n 0 dX2_init_16 rfl rfl ?_
  refine g_iconst dX2_init_17 ?_
  refine g_newi2 (n := 202 + 3 * s) 5 rfl (by decide) (ly_s2 s) (by (repeat rw [gset_ne (by omega)]); exact hS _ (by omega)) rfl (Nat.le_of_ble_eq_true rfl) (Nat.le_of_ble_eq_true rfl) wa_int dX2_init_18 (nr_stone (s := s) (t := 2) (by omega) (by omega) (fun n q1 q2 => by rw [gset_ne (by omega)]; exact hL n q1 q2) (fun n q => by rw [gset_ne (by omega)]; exact hS n (by omega)) (fun q => by rw [gset_ne (by omega)] at q; rw [gup_ne (by omega), gz_ne (by omega), gup_ne (by omega)]; exact h4 q) (fun q => by rw [gset_ne (by omega)] at q; rw [gup_ne (by omega), gz_ne (by omega), gup_ne (by omega)]; exact h5 q) (fun _ => by rw [gup_ap, if_neg (by omega), gz_ne (by omega), gup_ap, if_neg (by omega)]; exact hz 10)) ⟨by (simp only [List.forall_mem_cons]; exact ⟨okv_r (by (repeat (first | rw [gset_eq] | rw [gset_ne (by omega)])); omega) (by rw [ly_s0]; decide), okv_i _, okv_i _, okv_i _, okv_i _, okv_i _, fun _ h => absurd h List.not_mem_nil⟩), by (simp only [List.forall_mem_cons]; exact ⟨okv_r (by (repeat (first | rw [gset_eq] | rw [gset_ne (by omega)])); omega) (by rw [ly_s0]; decide), fun _ h => absurd h List.not_mem_nil⟩)⟩ ?_
  refine g_putfr cf_3 10 (ly_s0 s) (by decide) (by decide) rfl (Eq.symm (rfn_s10 s)) (by decide) wf_X2_19 (Or.inr ⟨rfl, rfl, rfl⟩) (Or.inr ⟨_, rfl⟩) dX2_init_20 (by (repeat (first | rw [gset_eq] | rw [gset_ne (by omega)])); omega) ?_
  refine g_aload_n 0 dX2_init_23 rfl rfl ?_
  refine g_iload_n 1 dX2_init_24 rfl rfl ?_
  refine g_putfi cf_3 0 (ly_s0 s) (by decide) (by decide) rfl (by decide) wf_X2_22 (Or.inr ⟨rfl, rfl, rfl⟩) rfl dX2_init_25 (by (repeat (first | rw [gset_eq] | rw [gset_ne (by omega)])); omega) (by omega) ?_
  refine g_aload_n 0 dX2_init_28 rfl rfl ?_
  refine g_iload_n 2 dX2_init_29 rfl rfl ?_
  refine g_putfi cf_3 3 (ly_s0 s) (by decide) (by decide) rfl (by decide) wf_X2_25 (Or.inl rfl) rfl dX2_init_30 (by (repeat (first | rw [gset_eq] | rw [gset_ne (by omega)])); omega) (by omega) ?_
  refine g_aload_n 0 dX2_init_33 rfl rfl ?_
  refine g_iload_n 3 dX2_init_34 rfl rfl ?_
  refine g_putfi cf_3 1 (ly_s0 s) (by decide) (by decide) rfl (by decide) wf_X2_28 (Or.inr ⟨rfl, rfl, rfl⟩) rfl dX2_init_35 (by (repeat (first | rw [gset_eq] | rw [gset_ne (by omega)])); omega) (by omega) ?_
  refine g_aload_n 0 dX2_init_38 rfl rfl ?_
  refine g_iload 4 dX2_init_39 rfl ?_
  refine g_putfi cf_3 2 (ly_s0 s) (by decide) (by decide) rfl (by decide) wf_X2_31 (Or.inr ⟨rfl, rfl, rfl⟩) rfl dX2_init_41 (by (repeat (first | rw [gset_eq] | rw [gset_ne (by omega)])); omega) (by omega) ?_
  refine g_aload_n 0 dX2_init_44 rfl rfl ?_
  refine g_iload 5 dX2_init_45 rfl ?_
  refine g_putfi cf_3 6 (ly_s0 s) (by decide) (by decide) rfl (by decide) wf_X2_34 (Or.inl rfl) rfl dX2_init_47 (by (repeat (first | rw [gset_eq] | rw [gset_ne (by omega)])); omega) (by omega) ?_
  refine g_made (n := 200 + 3 * s) rfl (by (repeat (first | rw [gset_eq] | rw [gset_ne (by omega)])); omega) (fun j hj hr => ?_) ?_
  · rw [ly_s0] at hj hr
    have h7 : j < 11 := hj
    rcases (show j = 0 ∨ j = 1 ∨ j = 2 ∨ j = 3 ∨ j = 4 ∨ j = 5 ∨ j = 6 ∨ j = 7 ∨ j = 8 ∨ j = 9 ∨ j = 10 by omega) with rfl | rfl | rfl | rfl | rfl | rfl | rfl | rfl | rfl | rfl | rfl <;> first | exact absurd hr (by decide) | simp [gup_ap, gz]
  exact g_vret dX2_init_50 rfl (Nat.le_of_ble_eq_true rfl) (Nat.le_of_ble_eq_true rfl) (pr_v (rfl))

