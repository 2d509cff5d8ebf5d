/-- nothing refers to the next claim's names -/
theorem nr_claim {L : Nat → Nat} {A : Mem} {s t n : Nat} (hn : n = 100 + 3 * s + t) (ht : t ≤ 2) (hs : s < 12) (hS : ∀ m, n ≤ m → m < 200 → L m = 0) (h4 : L 4 ≠ 0 → A 4 1 ≤ s) (h0 : 1 ≤ t → A (100 + 3 * s) (7 + t) = 0) : NoRef L A n := by
  intro m hm
  have hmn : m < n ∨ 200 ≤ m := by
    rcases Nat.lt_or_ge m n with h | h
    · exact Or.inl h
    · rcases Nat.lt_or_ge m 200 with h9 | h9
      · exact absurd (hS m h h9) hm
      · exact Or.inr h9
  refine ⟨by omega, fun k hk hr he => ?_, fun h9 h8 => ?_, fun h9 j hj => ?_⟩
  · rcases Nat.lt_or_ge m 100 with h | h
    · have := rf_low h hk hr; omega
    · rcases hmn with h2 | h2
      · rcases ly_mid h (by omega) with e | e
        · have h3 : (m - 100) % 3 = 0 := by
            unfold ly at e
            rw [if_neg (by omega), if_pos (by omega)] at e
            split at e
            · assumption
            · exact absurd e (by decide)
          rw [e] at hk hr he
          have h6 : m + (k - 7) = n := he
          have h7 : k < 10 := hk
          have h8 : m = 100 + 3 * s := by omega
          have h9 : k = 7 + t := by omega
          rw [h8, h9]; exact h0 (by omega)
        · rw [e] at hr; exact absurd hr (by simp [rfk])
      · rcases ly_hi h2 with ⟨e, e3⟩ | e
        · rw [e] at he; have : m + (k - 8) = n := he; omega
        · rw [e] at hr; exact absurd hr (by simp [rfk])
  · rcases Nat.lt_or_ge m 100 with h | h
    · have := (ly_low1 m h).2.2.2 h9; omega
    · rcases hmn with h2 | h2
      · rcases ly_mid h (by omega) with e | e <;> rw [e] at h9 <;> exact absurd h9 (by decide)
      · rcases ly_hi h2 with ⟨e, _⟩ | e <;> rw [e] at h9 <;> exact absurd h9 (by decide)
  · rcases Nat.lt_or_ge m 100 with h | h
    · rcases (ly_low1 m h).2.2.1 h9 with e | e
      · rw [e] at hj hm; have := h4 hm; rw [e, eln_4]; omega
      · rw [e, eln_5]; omega
    · rcases hmn with h2 | h2
      · rcases ly_mid h (by omega) with e | e <;> rw [e] at h9 <;> exact absurd h9 (by decide)
      · rcases ly_hi h2 with ⟨e, _⟩ | e <;> rw [e] at h9 <;> exact absurd h9 (by decide)
/-- a claim as its constructor leaves it -/
def clmB (A : Mem) (s : Nat) (p x r c w : Int) : Mem := gup (gup (gup (gup (gup (gup (gup (gup (gz (gup (gz A (101 + 3 * s)) (100 + 3 * s) 8 1) (102 + 3 * s)) (100 + 3 * s) 9 1) (100 + 3 * s) 0 p) (100 + 3 * s) 1 (x / 10)) (100 + 3 * s) 2 (x % 10)) (100 + 3 * s) 3 r) (100 + 3 * s) 4 c) (100 + 3 * s) 5 w) (100 + 3 * s) 6 w
def clmA (A : Mem) (s : Nat) (p x r c w : Int) : Mem := filA (gup (clmB A s p x r c w) (101 + 3 * s) p.toNat 12) (102 + 3 * s) (-1) 8

set_option maxHeartbeats 1000000 in
set_option maxRecDepth 20000 in
theorem c_X0_init {L : Nat → Nat} {A : Mem} {s : Nat} (hs : s < 12) {p x r c w : Int} (hp : 0 ≤ p ∧ p < 8) (hx : 0 ≤ x ∧ x < 100) (hr : -2147483648 ≤ r ∧ r < 2147483648) (hc : -2147483648 ≤ c ∧ c < 2147483648) (hw : -2147483648 ≤ w ∧ w < 2147483648) (h0 : L (100 + 3 * s) = 1) (hS : ∀ n, 101 + 3 * s ≤ n → n < 200 → L n = 0) (h4 : L 4 ≠ 0 → A 4 1 ≤ s) (hz : ∀ j, A (100 + 3 * s) j = 0) : Ct mX0_init [gr (100 + 3 * s), gi p, gi x, gi r, gi c, gi w] L A (pr none (gset (gset (gset L (101 + 3 * s) 2) (102 + 3 * s) 2) (100 + 3 * s) 2) (clmA A s p x r c w)) := by
  refine Ct_of (ls := [(0, _), (1, _), (2, _), (3, _), (4, _), (5, _)]) rfl (by decide) (fun _ => rfl) (fun _ => Nat.le_of_ble_eq_true rfl) ?_
  refine g_aload_n 0 dX0_init_0 rfl rfl ?_
  refine g_oinit wm_X0_3 dX0_init_1 (fun _ => Nat.le_of_ble_eq_true rfl) ?_
  refine g_aload_n 0 dX0_init_4 rfl rfl ?_
  refine g_bipush dX0_init_5 (by decide) ?_
  refine g_newi2 (n := 101 + 3 * s) 8 rfl (by decide) (ly_c1 hs) (by (repeat rw [gset_ne (by omega)]); exact hS _ (by omega) (by omega)) rfl (Nat.le_of_ble_eq_true rfl) (Nat.le_of_ble_eq_true rfl) wa_int dX0_init_7 (nr_claim (s := s) (t := 1) (by omega) (by omega) hs (fun n q1 q2 => hS n (by omega) q2) (fun q => h4 q) (fun _ => hz 8)) ⟨by (simp only [List.forall_mem_cons]; exact ⟨okv_r (by (repeat (first | rw [gset_eq] | rw [gset_ne (by omega)])); omega) (by rw [ly_c0 hs]; decide), okv_i _, okv_i _, okv_i _, okv_i _, okv_i _, fun _ h => absurd h List.not_mem_nil⟩), by (simp only [List.forall_mem_cons]; exact ⟨okv_r (by (repeat (first | rw [gset_eq] | rw [gset_ne (by omega)])); omega) (by rw [ly_c0 hs]; decide), fun _ h => absurd h List.not_mem_nil⟩)⟩ ?_
  refine g_putfr cf_1 8 (ly_c0 hs) (by decide) (by decide) rfl (Eq.symm (rfn_c8 s)) (by decide) wf_X0_9 (Or.inr ⟨rfl, rfl, rfl⟩) (Or.inr ⟨_, rfl⟩) dX0_init_9 (by (repeat (first | rw [gset_eq] | rw [gset_ne (by omega)])); omega) ?_
  refine g_aload_n 0 dX0_init_12 rfl rfl ?_
  refine g_bipush dX0_init_13 (by decide) ?_
  refine g_newi2 (n := 102 + 3 * s) 8 rfl (by decide) (ly_c2 hs) (by (repeat rw [gset_ne (by omega)]); exact hS _ (by omega) (by omega)) rfl (Nat.le_of_ble_eq_true rfl) (Nat.le_of_ble_eq_true rfl) wa_int dX0_init_15 (nr_claim (s := s) (t := 2) (by omega) (by omega) hs (fun n q1 q2 => by rw [gset_ne (by omega)]; exact hS n (by omega) q2) (fun q => by rw [gset_ne (by omega)] at q; rw [gup_ne (by omega), gz_ne (by omega)]; exact h4 q) (fun _ => by rw [gup_ap, if_neg (by omega), gz_ne (by omega)]; exact hz 9)) ⟨by (simp only [List.forall_mem_cons]; exact ⟨okv_r (by (repeat (first | rw [gset_eq] | rw [gset_ne (by omega)])); omega) (by rw [ly_c0 hs]; decide), okv_i _, okv_i _, okv_i _, okv_i _, okv_i _, fun _ h => absurd h List.not_mem_nil⟩), by (simp only [List.forall_mem_cons]; exact ⟨okv_r (by (repeat (first | rw [gset_eq] | rw [gset_ne (by omega)])); omega) (by rw [ly_c0 hs]; decide), fun _ h => absurd h List.not_mem_nil⟩)⟩ ?_
  refine g_putfr cf_1 9 (ly_c0 hs) (by decide) (by decide) rfl (Eq.symm (rfn_c9 s)) (by decide) wf_X0_15 (Or.inr ⟨rfl, rfl, rfl⟩) (Or.inr ⟨_, rfl⟩) dX0_init_17 (by (repeat (first | rw [gset_eq] | rw [gset_ne (by omega)])); omega) ?_
  refine g_made (n := 100 + 3 * s) rfl (by (repeat (first | rw [gset_eq] | rw [gset_ne (by omega)])); omega) (fun j hj hr => ?_) ?_
  · rw [ly_c0 hs] at hj hr
    have h7 : j < 10 := hj
    rcases (show j = 0 ∨ j = 1 ∨ j = 2 ∨ j = 3 ∨ j = 4 ∨ j = 5 ∨ j = 6 ∨ j = 7 ∨ j = 8 ∨ j = 9 by omega) with rfl | rfl | rfl | rfl | rfl | rfl | rfl | rfl | rfl | rfl <;> first | exact absurd hr (by decide) | simp [gup_ap, gz]
  refine g_aload_n 0 dX0_init_20 rfl rfl ?_
  refine g_iload_n 1 dX0_init_21 rfl rfl ?_
  refine g_putfi cf_1 0 (ly_c0 hs) (by decide) (by decide) rfl (by decide) wf_X0_18 (Or.inr ⟨rfl, rfl, rfl⟩) rfl dX0_init_22 (by (repeat (first | rw [gset_eq] | rw [gset_ne (by omega)])); omega) (by omega) ?_
  refine g_aload_n 0 dX0_init_25 rfl rfl ?_
  refine g_iload_n 2 dX0_init_26 rfl rfl ?_
  refine g_bipush dX0_init_27 (by decide) ?_
  refine g_idiv (by omega) (by omega) dX0_init_29 ?_
  refine g_putfi cf_1 1 (ly_c0 hs) (by decide) (by decide) rfl (by decide) wf_X0_22 (Or.inr ⟨rfl, rfl, rfl⟩) rfl dX0_init_30 (by (repeat (first | rw [gset_eq] | rw [gset_ne (by omega)])); omega) (by omega) ?_
  refine g_aload_n 0 dX0_init_33 rfl rfl ?_
  refine g_iload_n 2 dX0_init_34 rfl rfl ?_
  refine g_bipush dX0_init_35 (by decide) ?_
  refine g_irem (by omega) (by omega) dX0_init_37 ?_
  refine g_putfi cf_1 2 (ly_c0 hs) (by decide) (by decide) rfl (by decide) wf_X0_25 (Or.inr ⟨rfl, rfl, rfl⟩) rfl dX0_init_38 (by (repeat (first | rw [gset_eq] | rw [gset_ne (by omega)])); omega) (by omega) ?_
  refine g_aload_n 0 dX0_init_41 rfl rfl ?_
  refine g_iload_n 3 dX0_init_42 rfl rfl ?_
  refine g_putfi cf_1 3 (ly_c0 hs) (by decide) (by decide) rfl (by decide) wf_X0_28 (Or.inr ⟨rfl, rfl, rfl⟩) rfl dX0_init_43 (by (repeat (first | rw [gset_eq] | rw [gset_ne (by omega)])); omega) (by omega) ?_
  refine g_aload_n 0 dX0_init_46 rfl rfl ?_
  refine g_iload 4 dX0_init_47 rfl ?_
  refine g_putfi cf_1 4 (ly_c0 hs) (by decide) (by decide) rfl (by decide) wf_X0_31 (Or.inr ⟨rfl, rfl, rfl⟩) rfl dX0_init_49 (by (repeat (first | rw [gset_eq] | rw [gset_ne (by omega)])); omega) (by omega) ?_
  refine g_aload_n 0 dX0_init_52 rfl rfl ?_
  refine g_iload 5 dX0_init_53 rfl ?_
  refine g_putfi cf_1 5 (ly_c0 hs) (by decide) (by decide) rfl (by decide) wf_X0_34 (Or.inl rfl) rfl dX0_init_55 (by (repeat (first | rw [gset_eq] | rw [gset_ne (by omega)])); omega) (by omega) ?_
  refine g_aload_n 0 dX0_init_58 rfl rfl ?_
  refine g_iload 5 dX0_init_59 rfl ?_
  refine g_putfi cf_1 6 (ly_c0 hs) (by decide) (by decide) rfl (by decide) wf_X0_37 (Or.inl rfl) rfl dX0_init_61 (by (repeat (first | rw [gset_eq] | rw [gset_ne (by omega)])); omega) (by omega) ?_
  refine g_iload_n 1 dX0_init_64 rfl rfl ?_
  refine g_if_lt (tgt := 82) (by omega) dX0_init_65 (by decide) (fun h65_1 => absurd h65_1 (by omega)) (fun h65_1 => ?_)
  refine g_iload_n 1 dX0_init_68 rfl rfl ?_
  refine g_bipush dX0_init_69 (by decide) ?_
  refine g_icmp_ge (tgt := 82) (by omega) (by omega) dX0_init_71 (by decide) (fun h71_2 => absurd h71_2 (by omega)) (fun h71_2 => ?_)
  refine g_aload_n 0 dX0_init_74 rfl rfl ?_
  refine g_getfr2 (r := 101 + 3 * s) cf_1 8 (ly_c0 hs) (by decide) (by decide) rfl (by decide) wf_X0_9 dX0_init_75 (by rw [gset_eq]) (rfn_c8 s) ?_
  refine g_iload_n 1 dX0_init_78 rfl rfl ?_
  refine g_bipush dX0_init_79 (by decide) ?_
  refine g_iast (p.toNat) (by omega) (by omega) (by omega) (ly_c1 hs) (by decide) dX0_init_81 (n2 (by rw [gset_ne (by omega), gset_ne (by omega), gset_eq])) ?_
  refine g_aload_n 0 dX0_init_82 rfl rfl ?_
  refine g_getfr2 (r := 102 + 3 * s) cf_1 9 (ly_c0 hs) (by decide) (by decide) rfl (by decide) wf_X0_15 dX0_init_83 (by rw [gset_eq]) (rfn_c9 s) ?_
  refine g_iconst dX0_init_86 ?_
  refine g_cT_v (My := mJ7_fill_53178) (gs := [_, _]) (c_J7_fill_53178 (A := gup (clmB A s p x r c w) (101 + 3 * s) p.toNat 12) (ly_c2 hs) (by omega) (by rw [gset_ne (by omega), gset_eq]) (by omega)) mfJ7_fill_53178 wst_J7_fill_53178 wm_X0_40 dX0_init_87 (Nat.le_of_ble_eq_true rfl) rfl (fun _ => Nat.le_of_ble_eq_true rfl) (Nat.le_of_ble_eq_true rfl) (Nat.le_of_ble_eq_true rfl) rfl rfl ?_
  exact g_vret dX0_init_90 rfl (Nat.le_of_ble_eq_true rfl) (Nat.le_of_ble_eq_true rfl) (pr_v (rfl))

