def pegE (B : Mem) (p x r c : Int) : Nat := if ¬ ((0 ≤ p ∧ p < 8) ∧ 0 ≤ x ∧ x < 100) then 1 else if ¬ (((1 ≤ r ∧ r ≤ 4) ∧ 1 ≤ c ∧ c ≤ 4) ∧ x / 10 + r ≤ 10 ∧ x % 10 + c ≤ 10) then 2 else if B 2 2 = 12 ∨ brdC B p ≠ 0 then 3 else 0
def pegH (M : Mem) (n : Nat) : Nat → Mem
  | 0 => M
  | i + 1 => gup (pegH M n i) 39 (8 * n + i) (-1)
theorem pegH_ne (M : Mem) (n i : Nat) {m : Nat} (h : m ≠ 39) : pegH M n i m = M m := by
  induction i with
  | zero => rfl
  | succ i ih => rw [pegH, gup_ne h, ih]
def pegS (A : Mem) (n : Nat) (p x r c : Int) : Mem := gup (gup (gup (gup (gup (gup (gup A 20 0 0) 31 n p) 32 n x) 33 n r) 34 n c) 35 n (A 20 1)) 36 n (A 20 1)
def pegR (A : Mem) (p x r c : Int) : Mem := gup (pegH (pegS A (A 20 9).toNat p x r c) (A 20 9).toNat 8) 20 9 (A 20 9 + 1)
theorem pegS_20 (A : Mem) (n : Nat) (p x r c : Int) (j : Nat) (h : j ≠ 0) : pegS A n p x r c 20 j = A 20 j := by
  unfold pegS
  rw [gup_ne (by decide), gup_ne (by decide), gup_ne (by decide), gup_ne (by decide), gup_ne (by decide), gup_ne (by decide), gup_ap, if_neg (by omega)]

set_option maxHeartbeats 2000000 in
set_option maxRecDepth 20000 in
theorem c_X4_peg {L : Nat → Nat} {A B : Mem} (hM : LM L) (hV : VC L B) (hR : Rel B A) {p x r c : Int} (hp : -2147483648 ≤ p ∧ p < 2147483648) (hx : -2147483648 ≤ x ∧ x < 2147483648) (hr : -2147483648 ≤ r ∧ r < 2147483648) (hc : -2147483648 ≤ c ∧ c < 2147483648) : Ct mX4_peg [gr 20, gi p, gi x, gi r, gi c] L A (pr (some (gi (if pegE B p x r c = 0 then A 20 9 else 0))) L (if pegE B p x r c = 0 then pegR A p x r c else gup A 20 0 (pegE B p x r c : Nat))) := by
  have hnc := vc_nc hV; have hns := vc_ns hV; have hp0 := (vc_p hV).1
  have rnow := rl_now hR; have rnc := rl_nc hR; have rns := rl_ns hR
  have hbn : 0 ≤ brdC B p := by unfold brdC; split <;> omega
  refine Ct_of (ls := [(0, _), (1, _), (2, _), (3, _), (4, _)]) rfl (by decide) (fun _ => rfl) (fun _ => Nat.le_of_ble_eq_true rfl) ?_
  refine g_iload_n 3 dX4_peg_0 rfl rfl ?_
  refine g_iconst dX4_peg_1 ?_
  refine g_iconst dX4_peg_2 ?_
  by_cases hs3 : 1 ≤ r ∧ r ≤ 4
  · skip
    refine g_cS_i (My := mX4_in) (gs := [_, _, _]) (c_X4_in (by omega) (by omega) (by omega)) mfX4_in rfl wst_X4_in wm_X4_108 dX4_peg_3 (Nat.le_of_ble_eq_true rfl) rfl (fun _ => Nat.le_of_ble_eq_true rfl) (Nat.le_of_ble_eq_true rfl) (Nat.le_of_ble_eq_true rfl) rfl rfl ?_
    refine g_top (y := 1) (by first | (rw [decide_eq_true hs3]; rfl) | (rw [inB, decide_eq_true hs3]; rfl)) ?_
    refine g_if_eq (tgt := 23) (by omega) dX4_peg_6 (by decide) (fun h6_1 => absurd h6_1 (by omega)) (fun h6_1 => ?_)
    refine g_iload 4 dX4_peg_9 rfl ?_
    refine g_iconst dX4_peg_11 ?_
    refine g_iconst dX4_peg_12 ?_
    by_cases hs13 : 1 ≤ c ∧ c ≤ 4
    · skip
      refine g_cS_i (My := mX4_in) (gs := [_, _, _]) (c_X4_in (by omega) (by omega) (by omega)) mfX4_in rfl wst_X4_in wm_X4_108 dX4_peg_13 (Nat.le_of_ble_eq_true rfl) rfl (fun _ => Nat.le_of_ble_eq_true rfl) (Nat.le_of_ble_eq_true rfl) (Nat.le_of_ble_eq_true rfl) rfl rfl ?_
      refine g_top (y := 1) (by first | (rw [decide_eq_true hs13]; rfl) | (rw [inB, decide_eq_true hs13]; rfl)) ?_
      refine g_if_eq (tgt := 23) (by omega) dX4_peg_16 (by decide) (fun h16_2 => absurd h16_2 (by omega)) (fun h16_2 => ?_)
      refine g_iconst dX4_peg_19 ?_
      refine g_goto (tgt := 24) dX4_peg_20 (by decide) ?_
      refine g_st2 (ls2 := [(5, _), (0, _), (1, _), (2, _), (3, _), (4, _)]) dX4_peg_24 (by decide) (c1_cr (c1_ci (c1_ci (c1_ci (c1_ci c1_0))))) rfl ?_
      refine g_aload_n 1 dX4_peg_26 rfl rfl ?_
      refine g_iload_n 2 dX4_peg_27 rfl rfl ?_
      by_cases hs28 : 0 ≤ p ∧ p < 8
      · skip
        refine g_cS_i (My := mX4_isPerson) (gs := [_]) (c_X4_isPerson (by omega)) mfX4_isPerson rfl wst_X4_isPerson wm_X4_128 dX4_peg_28 (Nat.le_of_ble_eq_true rfl) rfl (fun _ => Nat.le_of_ble_eq_true rfl) (Nat.le_of_ble_eq_true rfl) (Nat.le_of_ble_eq_true rfl) rfl rfl ?_
        refine g_top (y := 1) (by first | (rw [decide_eq_true hs28]; rfl) | (rw [cellB, decide_eq_true hs28]; rfl)) ?_
        refine g_if_eq (tgt := 41) (by omega) dX4_peg_31 (by decide) (fun h31_3 => absurd h31_3 (by omega)) (fun h31_3 => ?_)
        refine g_iload_n 3 dX4_peg_34 rfl rfl ?_
        by_cases hs35 : 0 ≤ x ∧ x < 100
        · skip
          refine g_cS_i (My := mX4_isCell) (gs := [_]) (c_X4_isCell (by omega)) mfX4_isCell rfl wst_X4_isCell wm_X4_121 dX4_peg_35 (Nat.le_of_ble_eq_true rfl) rfl (fun _ => Nat.le_of_ble_eq_true rfl) (Nat.le_of_ble_eq_true rfl) (Nat.le_of_ble_eq_true rfl) rfl rfl ?_
          refine g_top (y := 1) (by first | (rw [decide_eq_true hs35]; rfl) | (rw [cellB, decide_eq_true hs35]; rfl)) ?_
          refine g_if_ne (tgt := 45) (by omega) dX4_peg_38 (by decide) (fun h38_4 => ?_) (fun h38_4 => absurd h38_4 (by omega))
          refine g_iconst dX4_peg_45 ?_
          refine g_putfi cf_5 0 rfl (by decide) (by decide) rfl (by decide) wf_X4_104 (Or.inl rfl) rfl dX4_peg_46 (n2 (hM 20 rfl)) (by omega) ?_
          refine g_aload_n 1 dX4_peg_49 rfl rfl ?_
          refine g_getfi cf_5 0 rfl (by decide) (by decide) rfl (by decide) wf_X4_104 dX4_peg_50 (n2 (hM 20 rfl)) (fun h50_5 => ?_)
          refine g_top (y := 0) (gup_at _ _ _ _) ?_
          refine g_if_ne (tgt := 89) (by omega) dX4_peg_53 (by decide) (fun h53_6 => absurd h53_6 (by omega)) (fun h53_6 => ?_)
          refine g_iload 0 dX4_peg_56 rfl ?_
          refine g_if_eq (tgt := 84) (by omega) dX4_peg_58 (by decide) (fun h58_7 => absurd h58_7 (by omega)) (fun h58_7 => ?_)
          refine g_iload_n 3 dX4_peg_61 rfl rfl ?_
          refine g_bipush dX4_peg_62 (by decide) ?_
          refine g_idiv (by omega) (by omega) dX4_peg_64 ?_
          refine g_iload_n 4 dX4_peg_65 rfl rfl ?_
          refine g_iadd dX4_peg_66 ?_
          refine g_bipush dX4_peg_67 (by decide) ?_
          refine g_icmp_gt (tgt := 84) (by omega) (by omega) dX4_peg_69 (by decide) (fun h69_8 => ?_) (fun h69_8 => ?_)
          · skip
            refine g_aload_n 1 dX4_peg_84 rfl rfl ?_
            refine g_iconst dX4_peg_85 ?_
            refine g_putfi cf_5 0 rfl (by decide) (by decide) rfl (by decide) wf_X4_104 (Or.inl rfl) rfl dX4_peg_86 (n2 (hM 20 rfl)) (by omega) ?_
            refine g_ls (A2 := gup A 20 0 2) rfl rfl (gup_tw _ _ _ _ _) ?_
            refine g_aload_n 1 dX4_peg_89 rfl rfl ?_
            refine g_getfi cf_5 0 rfl (by decide) (by decide) rfl (by decide) wf_X4_104 dX4_peg_90 (n2 (hM 20 rfl)) (fun h90_9 => ?_)
            refine g_top (y := 2) (gup_at _ _ _ _) ?_
            refine g_if_ne (tgt := 118) (by omega) dX4_peg_93 (by decide) (fun h93_10 => ?_) (fun h93_10 => absurd h93_10 (by omega))
            refine g_aload_n 1 dX4_peg_118 rfl rfl ?_
            refine g_getfi cf_5 0 rfl (by decide) (by decide) rfl (by decide) wf_X4_104 dX4_peg_119 (n2 (hM 20 rfl)) (fun h119_11 => ?_)
            refine g_top (y := 2) (gup_at _ _ _ _) ?_
            refine g_if_le (tgt := 127) (by omega) dX4_peg_122 (by decide) (fun h122_12 => absurd h122_12 (by omega)) (fun h122_12 => ?_)
            refine g_iconst dX4_peg_125 ?_
            exact g_iret dX4_peg_126 rfl (Nat.le_of_ble_eq_true rfl) (Nat.le_of_ble_eq_true rfl) (pr_i (by first | (rw [show pegE B p x r c = 0 from by (try simp only [decide_eq_true_eq, decide_eq_false_iff_not] at *); unfold pegE; grind, if_pos rfl]; (try unfold id); (first | done | (first | rfl | omega))) | (rw [show pegE B p x r c = 1 from by (try simp only [decide_eq_true_eq, decide_eq_false_iff_not] at *); unfold pegE; grind]; rfl) | (rw [show pegE B p x r c = 2 from by (try simp only [decide_eq_true_eq, decide_eq_false_iff_not] at *); unfold pegE; grind]; rfl) | (rw [show pegE B p x r c = 3 from by (try simp only [decide_eq_true_eq, decide_eq_false_iff_not] at *); unfold pegE; grind]; rfl)) (by first | (rw [show pegE B p x r c = 0 from by (try simp only [decide_eq_true_eq, decide_eq_false_iff_not] at *); unfold pegE; grind]; rfl) | (rw [show pegE B p x r c = 1 from by (try simp only [decide_eq_true_eq, decide_eq_false_iff_not] at *); unfold pegE; grind]; rfl) | (rw [show pegE B p x r c = 2 from by (try simp only [decide_eq_true_eq, decide_eq_false_iff_not] at *); unfold pegE; grind]; rfl) | (rw [show pegE B p x r c = 3 from by (try simp only [decide_eq_true_eq, decide_eq_false_iff_not] at *); unfold pegE; grind]; rfl)))
          · skip
            refine g_iload_n 3 dX4_peg_72 rfl rfl ?_
            refine g_bipush dX4_peg_73 (by decide) ?_
            refine g_irem (by omega) (by omega) dX4_peg_75 ?_
            refine g_iload 5 dX4_peg_76 rfl ?_
            refine g_iadd dX4_peg_78 ?_
            refine g_bipush dX4_peg_79 (by decide) ?_
            refine g_icmp_le (tgt := 89) (by omega) (by omega) dX4_peg_81 (by decide) (fun h81_13 => ?_) (fun h81_13 => ?_)
            · skip
              refine g_aload_n 1 dX4_peg_89 rfl rfl ?_
              refine g_getfi cf_5 0 rfl (by decide) (by decide) rfl (by decide) wf_X4_104 dX4_peg_90 (n2 (hM 20 rfl)) (fun h90_14 => ?_)
              refine g_top (y := 0) (gup_at _ _ _ _) ?_
              refine g_if_ne (tgt := 118) (by omega) dX4_peg_93 (by decide) (fun h93_15 => absurd h93_15 (by omega)) (fun h93_15 => ?_)
              refine g_aload_n 1 dX4_peg_96 rfl rfl ?_
              refine g_getfi cf_5 9 rfl (by decide) (by decide) rfl (by decide) wf_X4_112 dX4_peg_97 (n2 (hM 20 rfl)) (fun h97_16 => ?_)
              have hnc9 := rl_nc (rl_th hR 0)
              refine g_bipush dX4_peg_100 (by decide) ?_
              refine g_icmp_eq (tgt := 113) (by omega) (by omega) dX4_peg_102 (by decide) (fun h102_17 => ?_) (fun h102_17 => ?_)
              · skip
                skip
                refine g_aload_n 1 dX4_peg_113 rfl rfl ?_
                refine g_iconst dX4_peg_114 ?_
                refine g_putfi cf_5 0 rfl (by decide) (by decide) rfl (by decide) wf_X4_104 (Or.inl rfl) rfl dX4_peg_115 (n2 (hM 20 rfl)) (by omega) ?_
                refine g_ls (A2 := gup A 20 0 3) rfl rfl (gup_tw _ _ _ _ _) ?_
                refine g_aload_n 1 dX4_peg_118 rfl rfl ?_
                refine g_getfi cf_5 0 rfl (by decide) (by decide) rfl (by decide) wf_X4_104 dX4_peg_119 (n2 (hM 20 rfl)) (fun h119_18 => ?_)
                refine g_top (y := 3) (gup_at _ _ _ _) ?_
                refine g_if_le (tgt := 127) (by omega) dX4_peg_122 (by decide) (fun h122_19 => absurd h122_19 (by omega)) (fun h122_19 => ?_)
                refine g_iconst dX4_peg_125 ?_
                exact g_iret dX4_peg_126 rfl (Nat.le_of_ble_eq_true rfl) (Nat.le_of_ble_eq_true rfl) (pr_i (by first | (rw [show pegE B p x r c = 0 from by (try simp only [decide_eq_true_eq, decide_eq_false_iff_not] at *); unfold pegE; grind, if_pos rfl]; (try unfold id); (first | done | (first | rfl | omega))) | (rw [show pegE B p x r c = 1 from by (try simp only [decide_eq_true_eq, decide_eq_false_iff_not] at *); unfold pegE; grind]; rfl) | (rw [show pegE B p x r c = 2 from by (try simp only [decide_eq_true_eq, decide_eq_false_iff_not] at *); unfold pegE; grind]; rfl) | (rw [show pegE B p x r c = 3 from by (try simp only [decide_eq_true_eq, decide_eq_false_iff_not] at *); unfold pegE; grind]; rfl)) (by first | (rw [show pegE B p x r c = 0 from by (try simp only [decide_eq_true_eq, decide_eq_false_iff_not] at *); unfold pegE; grind]; rfl) | (rw [show pegE B p x r c = 1 from by (try simp only [decide_eq_true_eq, decide_eq_false_iff_not] at *); unfold pegE; grind]; rfl) | (rw [show pegE B p x r c = 2 from by (try simp only [decide_eq_true_eq, decide_eq_false_iff_not] at *); unfold pegE; grind]; rfl) | (rw [show pegE B p x r c = 3 from by (try simp only [decide_eq_true_eq, decide_eq_false_iff_not] at *); unfold pegE; grind]; rfl)))
              · skip
                refine g_aload_n 1 dX4_peg_105 rfl rfl ?_
                refine g_iload_n 2 dX4_peg_106 rfl rfl ?_
                refine g_cV_i (My := mX4_isBarred) (gs := [_]) (c_X4_isBarred hM hV (rl_th hR _) hs28) mfX4_isBarred cf_5 wi_X4_isBarred wsl_X4_isBarred wm_X4_131 dX4_peg_107 (Nat.le_of_ble_eq_true rfl) rfl (by decide) (n2 (hM 20 rfl)) rfl (fun _ => Nat.le_of_ble_eq_true rfl) (Nat.le_of_ble_eq_true rfl) (Nat.le_of_ble_eq_true rfl) rfl rfl ?_
                refine g_ifb_eq (tgt := 118) dX4_peg_110 (by decide) (fun h110_20 => ?_) (fun h110_20 => ?_)
                · skip
                  refine g_aload_n 1 dX4_peg_118 rfl rfl ?_
                  refine g_getfi cf_5 0 rfl (by decide) (by decide) rfl (by decide) wf_X4_104 dX4_peg_119 (n2 (hM 20 rfl)) (fun h119_21 => ?_)
                  refine g_top (y := 0) (gup_at _ _ _ _) ?_
                  refine g_if_le (tgt := 127) (by omega) dX4_peg_122 (by decide) (fun h122_22 => ?_) (fun h122_22 => absurd h122_22 (by omega))
                  have hbb : brdC B p = 0 := by (have hbn : 0 ≤ brdC B p := by unfold brdC; split <;> omega); simp only [decide_eq_true_eq, decide_eq_false_iff_not] at *; omega
                  have hc11 : A 20 9 < 12 := by have := rl_nc (rl_th hR 0); omega
                  refine g_aload_n 1 dX4_peg_127 rfl rfl ?_
                  refine g_getfr2 (r := 31) cf_5 10 rfl (by decide) (by decide) rfl (by decide) wf_X4_32 dX4_peg_128 (hM 20 rfl) rfl ?_
                  refine g_aload_n 1 dX4_peg_131 rfl rfl ?_
                  refine g_getfi cf_5 9 rfl (by decide) (by decide) rfl (by decide) wf_X4_112 dX4_peg_132 (n2 (hM 20 rfl)) (fun h132_23 => ?_)
                  refine g_top (y := A 20 9) (by simp [gup_ap]) ?_
                  refine g_iload_n 2 dX4_peg_135 rfl rfl ?_
                  refine g_iast ((A 20 9).toNat) (by omega) (by omega) (by omega) rfl (by decide) dX4_peg_136 (n2 (hM 31 rfl)) ?_
                  refine g_aload_n 1 dX4_peg_137 rfl rfl ?_
                  refine g_getfr2 (r := 32) cf_5 11 rfl (by decide) (by decide) rfl (by decide) wf_X4_35 dX4_peg_138 (hM 20 rfl) rfl ?_
                  refine g_aload_n 1 dX4_peg_141 rfl rfl ?_
                  refine g_getfi cf_5 9 rfl (by decide) (by decide) rfl (by decide) wf_X4_112 dX4_peg_142 (n2 (hM 20 rfl)) (fun h142_24 => ?_)
                  refine g_top (y := A 20 9) (by simp [gup_ap]) ?_
                  refine g_iload_n 3 dX4_peg_145 rfl rfl ?_
                  refine g_iast ((A 20 9).toNat) (by omega) (by omega) (by omega) rfl (by decide) dX4_peg_146 (n2 (hM 32 rfl)) ?_
                  refine g_aload_n 1 dX4_peg_147 rfl rfl ?_
                  refine g_getfr2 (r := 33) cf_5 12 rfl (by decide) (by decide) rfl (by decide) wf_X4_38 dX4_peg_148 (hM 20 rfl) rfl ?_
                  refine g_aload_n 1 dX4_peg_151 rfl rfl ?_
                  refine g_getfi cf_5 9 rfl (by decide) (by decide) rfl (by decide) wf_X4_112 dX4_peg_152 (n2 (hM 20 rfl)) (fun h152_25 => ?_)
                  refine g_top (y := A 20 9) (by simp [gup_ap]) ?_
                  refine g_iload_n 4 dX4_peg_155 rfl rfl ?_
                  refine g_iast ((A 20 9).toNat) (by omega) (by omega) (by omega) rfl (by decide) dX4_peg_156 (n2 (hM 33 rfl)) ?_
                  refine g_aload_n 1 dX4_peg_157 rfl rfl ?_
                  refine g_getfr2 (r := 34) cf_5 13 rfl (by decide) (by decide) rfl (by decide) wf_X4_41 dX4_peg_158 (hM 20 rfl) rfl ?_
                  refine g_aload_n 1 dX4_peg_161 rfl rfl ?_
                  refine g_getfi cf_5 9 rfl (by decide) (by decide) rfl (by decide) wf_X4_112 dX4_peg_162 (n2 (hM 20 rfl)) (fun h162_26 => ?_)
                  refine g_top (y := A 20 9) (by simp [gup_ap]) ?_
                  refine g_iload 5 dX4_peg_165 rfl ?_
                  refine g_iast ((A 20 9).toNat) (by omega) (by omega) (by omega) rfl (by decide) dX4_peg_167 (n2 (hM 34 rfl)) ?_
                  refine g_aload_n 1 dX4_peg_168 rfl rfl ?_
                  refine g_getfr2 (r := 35) cf_5 14 rfl (by decide) (by decide) rfl (by decide) wf_X4_44 dX4_peg_169 (hM 20 rfl) rfl ?_
                  refine g_aload_n 1 dX4_peg_172 rfl rfl ?_
                  refine g_getfi cf_5 9 rfl (by decide) (by decide) rfl (by decide) wf_X4_112 dX4_peg_173 (n2 (hM 20 rfl)) (fun h173_27 => ?_)
                  refine g_top (y := A 20 9) (by simp [gup_ap]) ?_
                  refine g_aload_n 1 dX4_peg_176 rfl rfl ?_
                  refine g_getfi cf_5 1 rfl (by decide) (by decide) rfl (by decide) wf_X4_118 dX4_peg_177 (n2 (hM 20 rfl)) (fun h177_28 => ?_)
                  refine g_top (y := A 20 1) (by simp [gup_ap]) ?_
                  refine g_iast ((A 20 9).toNat) (by omega) (by omega) (by omega) rfl (by decide) dX4_peg_180 (n2 (hM 35 rfl)) ?_
                  refine g_aload_n 1 dX4_peg_181 rfl rfl ?_
                  refine g_getfr2 (r := 36) cf_5 15 rfl (by decide) (by decide) rfl (by decide) wf_X4_47 dX4_peg_182 (hM 20 rfl) rfl ?_
                  refine g_aload_n 1 dX4_peg_185 rfl rfl ?_
                  refine g_getfi cf_5 9 rfl (by decide) (by decide) rfl (by decide) wf_X4_112 dX4_peg_186 (n2 (hM 20 rfl)) (fun h186_29 => ?_)
                  refine g_top (y := A 20 9) (by simp [gup_ap]) ?_
                  refine g_aload_n 1 dX4_peg_189 rfl rfl ?_
                  refine g_getfi cf_5 1 rfl (by decide) (by decide) rfl (by decide) wf_X4_118 dX4_peg_190 (n2 (hM 20 rfl)) (fun h190_30 => ?_)
                  refine g_top (y := A 20 1) (by simp [gup_ap]) ?_
                  refine g_iast ((A 20 9).toNat) (by omega) (by omega) (by omega) rfl (by decide) dX4_peg_193 (n2 (hM 36 rfl)) ?_
                  refine g_iconst dX4_peg_194 ?_
                  refine g_st2 (ls2 := [(6, _), (5, _), (0, _), (1, _), (2, _), (3, _), (4, _)]) dX4_peg_195 (by decide) (c1_ci (c1_cr (c1_ci (c1_ci (c1_ci (c1_ci c1_0)))))) rfl ?_
                  refine g_sub [2, 3, 4, 5, 6, 0] (ls2 := [(0, _), (1, _), (2, _), (3, _), (4, _), (6, _)]) rfl ?_
                  have hQ197 : (fun i : Nat => GW mX4_peg (pr (some (gi (if pegE B p x r c = 0 then A 20 9 else 0))) L (if pegE B p x r c = 0 then pegR A p x r c else gup A 20 0 (pegE B p x r c : Nat))) 0 0 197 [(0, gr (20)), (1, gi (p)), (2, gi (x)), (3, gi (r)), (4, gi (c)), (6, gi ((i : Int)))] [] L (pegH (pegS A (A 20 9).toNat p x r c) (A 20 9).toNat i)) 0 := by
                    refine lp_up (Q := (fun i : Nat => GW mX4_peg (pr (some (gi (if pegE B p x r c = 0 then A 20 9 else 0))) L (if pegE B p x r c = 0 then pegR A p x r c else gup A 20 0 (pegE B p x r c : Nat))) 0 0 197 [(0, gr (20)), (1, gi (p)), (2, gi (x)), (3, gi (r)), (4, gi (c)), (6, gi ((i : Int)))] [] L (pegH (pegS A (A 20 9).toNat p x r c) (A 20 9).toNat i))) (n := 8) ?_ (fun i hi197 ih197 => ?_)
                    · skip
                      refine g_iload 5 dX4_peg_197 rfl ?_
                      refine g_bipush dX4_peg_199 (by decide) ?_
                      refine g_icmp_ge (tgt := 226) (by omega) (by omega) dX4_peg_201 (by decide) (fun h201_31 => ?_) (fun h201_31 => absurd h201_31 (by omega))
                      refine g_aload_n 0 dX4_peg_226 rfl rfl ?_
                      refine g_dup dX4_peg_227 (c1_r _) ?_
                      refine g_getfi cf_5 9 rfl (by decide) (by decide) rfl (by decide) wf_X4_112 dX4_peg_228 (n2 (hM 20 rfl)) (fun h228_32 => ?_)
                      refine g_top (y := A 20 9) (by rw [pegH_ne _ _ _ (by decide)]; exact pegS_20 _ _ _ _ _ _ 9 (by decide)) ?_
                      refine g_iconst dX4_peg_231 ?_
                      refine g_iadd dX4_peg_232 ?_
                      refine g_putfi cf_5 9 rfl (by decide) (by decide) rfl (by decide) wf_X4_112 (Or.inl rfl) rfl dX4_peg_233 (n2 (hM 20 rfl)) (by omega) ?_
                      refine g_aload_n 0 dX4_peg_236 rfl rfl ?_
                      refine g_getfi cf_5 9 rfl (by decide) (by decide) rfl (by decide) wf_X4_112 dX4_peg_237 (n2 (hM 20 rfl)) (fun h237_33 => ?_)
                      refine g_top (y := A 20 9 + 1) (gup_at _ _ _ _) ?_
                      refine g_iconst dX4_peg_240 ?_
                      refine g_isub dX4_peg_241 ?_
                      exact g_iret dX4_peg_242 rfl (Nat.le_of_ble_eq_true rfl) (Nat.le_of_ble_eq_true rfl) (pr_i (by first | (rw [show pegE B p x r c = 0 from by (try simp only [decide_eq_true_eq, decide_eq_false_iff_not] at *); unfold pegE; grind, if_pos rfl]; (try unfold id); (first | done | (first | rfl | omega))) | (rw [show pegE B p x r c = 1 from by (try simp only [decide_eq_true_eq, decide_eq_false_iff_not] at *); unfold pegE; grind]; rfl) | (rw [show pegE B p x r c = 2 from by (try simp only [decide_eq_true_eq, decide_eq_false_iff_not] at *); unfold pegE; grind]; rfl) | (rw [show pegE B p x r c = 3 from by (try simp only [decide_eq_true_eq, decide_eq_false_iff_not] at *); unfold pegE; grind]; rfl)) (by first | (rw [show pegE B p x r c = 0 from by (try simp only [decide_eq_true_eq, decide_eq_false_iff_not] at *); unfold pegE; grind]; rfl) | (rw [show pegE B p x r c = 1 from by (try simp only [decide_eq_true_eq, decide_eq_false_iff_not] at *); unfold pegE; grind]; rfl) | (rw [show pegE B p x r c = 2 from by (try simp only [decide_eq_true_eq, decide_eq_false_iff_not] at *); unfold pegE; grind]; rfl) | (rw [show pegE B p x r c = 3 from by (try simp only [decide_eq_true_eq, decide_eq_false_iff_not] at *); unfold pegE; grind]; rfl)))
                    · skip
                      refine g_iload 5 dX4_peg_197 rfl ?_
                      refine g_bipush dX4_peg_199 (by decide) ?_
                      refine g_icmp_ge (tgt := 226) (by omega) (by omega) dX4_peg_201 (by decide) (fun h201_34 => absurd h201_34 (by omega)) (fun h201_34 => ?_)
                      refine g_aload_n 0 dX4_peg_204 rfl rfl ?_
                      refine g_getfr2 (r := 39) cf_5 18 rfl (by decide) (by decide) rfl (by decide) wf_X4_56 dX4_peg_205 (hM 20 rfl) rfl ?_
                      refine g_bipush dX4_peg_208 (by decide) ?_
                      refine g_aload_n 0 dX4_peg_210 rfl rfl ?_
                      refine g_getfi cf_5 9 rfl (by decide) (by decide) rfl (by decide) wf_X4_112 dX4_peg_211 (n2 (hM 20 rfl)) (fun h211_35 => ?_)
                      refine g_top (y := A 20 9) (by rw [pegH_ne _ _ _ (by decide)]; exact pegS_20 _ _ _ _ _ _ 9 (by decide)) ?_
                      refine g_imul dX4_peg_214 ?_
                      refine g_iload 5 dX4_peg_215 rfl ?_
                      refine g_iadd dX4_peg_217 ?_
                      refine g_iconst dX4_peg_218 ?_
                      refine g_iast (8 * (A 20 9).toNat + i) (by omega) (by omega) (by omega) rfl (by decide) dX4_peg_219 (n2 (hM 39 rfl)) ?_
                      refine g_inc (ls2 := [(6, _), (0, _), (1, _), (2, _), (3, _), (4, _)]) 5 dX4_peg_220 rfl (by decide) (c1_cr (c1_ci (c1_ci (c1_ci (c1_ci (c1_ci c1_0)))))) rfl ?_
                      refine g_goto (tgt := 197) dX4_peg_223 (by decide) ?_
                      refine g_sub [1, 2, 3, 4, 5, 0] (ls2 := [(0, _), (1, _), (2, _), (3, _), (4, _), (6, _)]) rfl ?_
                      exact g_ls (by rfl) rfl rfl ih197
                  exact g_ls (by rfl) rfl rfl hQ197
                · skip
                  skip
                  refine g_aload_n 1 dX4_peg_113 rfl rfl ?_
                  refine g_iconst dX4_peg_114 ?_
                  refine g_putfi cf_5 0 rfl (by decide) (by decide) rfl (by decide) wf_X4_104 (Or.inl rfl) rfl dX4_peg_115 (n2 (hM 20 rfl)) (by omega) ?_
                  refine g_ls (A2 := gup A 20 0 3) rfl rfl (gup_tw _ _ _ _ _) ?_
                  refine g_aload_n 1 dX4_peg_118 rfl rfl ?_
                  refine g_getfi cf_5 0 rfl (by decide) (by decide) rfl (by decide) wf_X4_104 dX4_peg_119 (n2 (hM 20 rfl)) (fun h119_36 => ?_)
                  refine g_top (y := 3) (gup_at _ _ _ _) ?_
                  refine g_if_le (tgt := 127) (by omega) dX4_peg_122 (by decide) (fun h122_37 => absurd h122_37 (by omega)) (fun h122_37 => ?_)
                  refine g_iconst dX4_peg_125 ?_
                  exact g_iret dX4_peg_126 rfl (Nat.le_of_ble_eq_true rfl) (Nat.le_of_ble_eq_true rfl) (pr_i (by first | (rw [show pegE B p x r c = 0 from by (try simp only [decide_eq_true_eq, decide_eq_false_iff_not] at *); unfold pegE; grind, if_pos rfl]; (try unfold id); (first | done | (first | rfl | omega))) | (rw [show pegE B p x r c = 1 from by (try simp only [decide_eq_true_eq, decide_eq_false_iff_not] at *); unfold pegE; grind]; rfl) | (rw [show pegE B p x r c = 2 from by (try simp only [decide_eq_true_eq, decide_eq_false_iff_not] at *); unfold pegE; grind]; rfl) | (rw [show pegE B p x r c = 3 from by (try simp only [decide_eq_true_eq, decide_eq_false_iff_not] at *); unfold pegE; grind]; rfl)) (by first | (rw [show pegE B p x r c = 0 from by (try simp only [decide_eq_true_eq, decide_eq_false_iff_not] at *); unfold pegE; grind]; rfl) | (rw [show pegE B p x r c = 1 from by (try simp only [decide_eq_true_eq, decide_eq_false_iff_not] at *); unfold pegE; grind]; rfl) | (rw [show pegE B p x r c = 2 from by (try simp only [decide_eq_true_eq, decide_eq_false_iff_not] at *); unfold pegE; grind]; rfl) | (rw [show pegE B p x r c = 3 from by (try simp only [decide_eq_true_eq, decide_eq_false_iff_not] at *); unfold pegE; grind]; rfl)))
            · skip
              refine g_aload_n 1 dX4_peg_84 rfl rfl ?_
              refine g_iconst dX4_peg_85 ?_
              refine g_putfi cf_5 0 rfl (by decide) (by decide) rfl (by decide) wf_X4_104 (Or.inl rfl) rfl dX4_peg_86 (n2 (hM 20 rfl)) (by omega) ?_
              refine g_ls (A2 := gup A 20 0 2) rfl rfl (gup_tw _ _ _ _ _) ?_
              refine g_aload_n 1 dX4_peg_89 rfl rfl ?_
              refine g_getfi cf_5 0 rfl (by decide) (by decide) rfl (by decide) wf_X4_104 dX4_peg_90 (n2 (hM 20 rfl)) (fun h90_38 => ?_)
              refine g_top (y := 2) (gup_at _ _ _ _) ?_
              refine g_if_ne (tgt := 118) (by omega) dX4_peg_93 (by decide) (fun h93_39 => ?_) (fun h93_39 => absurd h93_39 (by omega))
              refine g_aload_n 1 dX4_peg_118 rfl rfl ?_
              refine g_getfi cf_5 0 rfl (by decide) (by decide) rfl (by decide) wf_X4_104 dX4_peg_119 (n2 (hM 20 rfl)) (fun h119_40 => ?_)
              refine g_top (y := 2) (gup_at _ _ _ _) ?_
              refine g_if_le (tgt := 127) (by omega) dX4_peg_122 (by decide) (fun h122_41 => absurd h122_41 (by omega)) (fun h122_41 => ?_)
              refine g_iconst dX4_peg_125 ?_
              exact g_iret dX4_peg_126 rfl (Nat.le_of_ble_eq_true rfl) (Nat.le_of_ble_eq_true rfl) (pr_i (by first | (rw [show pegE B p x r c = 0 from by (try simp only [decide_eq_true_eq, decide_eq_false_iff_not] at *); unfold pegE; grind, if_pos rfl]; (try unfold id); (first | done | (first | rfl | omega))) | (rw [show pegE B p x r c = 1 from by (try simp only [decide_eq_true_eq, decide_eq_false_iff_not] at *); unfold pegE; grind]; rfl) | (rw [show pegE B p x r c = 2 from by (try simp only [decide_eq_true_eq, decide_eq_false_iff_not] at *); unfold pegE; grind]; rfl) | (rw [show pegE B p x r c = 3 from by (try simp only [decide_eq_true_eq, decide_eq_false_iff_not] at *); unfold pegE; grind]; rfl)) (by first | (rw [show pegE B p x r c = 0 from by (try simp only [decide_eq_true_eq, decide_eq_false_iff_not] at *); unfold pegE; grind]; rfl) | (rw [show pegE B p x r c = 1 from by (try simp only [decide_eq_true_eq, decide_eq_false_iff_not] at *); unfold pegE; grind]; rfl) | (rw [show pegE B p x r c = 2 from by (try simp only [decide_eq_true_eq, decide_eq_false_iff_not] at *); unfold pegE; grind]; rfl) | (rw [show pegE B p x r c = 3 from by (try simp only [decide_eq_true_eq, decide_eq_false_iff_not] at *); unfold pegE; grind]; rfl)))
        · skip
          refine g_cS_i (My := mX4_isCell) (gs := [_]) (c_X4_isCell (by omega)) mfX4_isCell rfl wst_X4_isCell wm_X4_121 dX4_peg_35 (Nat.le_of_ble_eq_true rfl) rfl (fun _ => Nat.le_of_ble_eq_true rfl) (Nat.le_of_ble_eq_true rfl) (Nat.le_of_ble_eq_true rfl) rfl rfl ?_
          refine g_top (y := 0) (by first | (rw [decide_eq_false hs35]; rfl) | (rw [cellB, decide_eq_false hs35]; rfl)) ?_
          refine g_if_ne (tgt := 45) (by omega) dX4_peg_38 (by decide) (fun h38_42 => absurd h38_42 (by omega)) (fun h38_42 => ?_)
          refine g_iconst dX4_peg_41 ?_
          refine g_goto (tgt := 46) dX4_peg_42 (by decide) ?_
          refine g_putfi cf_5 0 rfl (by decide) (by decide) rfl (by decide) wf_X4_104 (Or.inl rfl) rfl dX4_peg_46 (n2 (hM 20 rfl)) (by omega) ?_
          refine g_aload_n 1 dX4_peg_49 rfl rfl ?_
          refine g_getfi cf_5 0 rfl (by decide) (by decide) rfl (by decide) wf_X4_104 dX4_peg_50 (n2 (hM 20 rfl)) (fun h50_43 => ?_)
          refine g_top (y := 1) (gup_at _ _ _ _) ?_
          refine g_if_ne (tgt := 89) (by omega) dX4_peg_53 (by decide) (fun h53_44 => ?_) (fun h53_44 => absurd h53_44 (by omega))
          refine g_aload_n 1 dX4_peg_89 rfl rfl ?_
          refine g_getfi cf_5 0 rfl (by decide) (by decide) rfl (by decide) wf_X4_104 dX4_peg_90 (n2 (hM 20 rfl)) (fun h90_45 => ?_)
          refine g_top (y := 1) (gup_at _ _ _ _) ?_
          refine g_if_ne (tgt := 118) (by omega) dX4_peg_93 (by decide) (fun h93_46 => ?_) (fun h93_46 => absurd h93_46 (by omega))
          refine g_aload_n 1 dX4_peg_118 rfl rfl ?_
          refine g_getfi cf_5 0 rfl (by decide) (by decide) rfl (by decide) wf_X4_104 dX4_peg_119 (n2 (hM 20 rfl)) (fun h119_47 => ?_)
          refine g_top (y := 1) (gup_at _ _ _ _) ?_
          refine g_if_le (tgt := 127) (by omega) dX4_peg_122 (by decide) (fun h122_48 => absurd h122_48 (by omega)) (fun h122_48 => ?_)
          refine g_iconst dX4_peg_125 ?_
          exact g_iret dX4_peg_126 rfl (Nat.le_of_ble_eq_true rfl) (Nat.le_of_ble_eq_true rfl) (pr_i (by first | (rw [show pegE B p x r c = 0 from by (try simp only [decide_eq_true_eq, decide_eq_false_iff_not] at *); unfold pegE; grind, if_pos rfl]; (try unfold id); (first | done | (first | rfl | omega))) | (rw [show pegE B p x r c = 1 from by (try simp only [decide_eq_true_eq, decide_eq_false_iff_not] at *); unfold pegE; grind]; rfl) | (rw [show pegE B p x r c = 2 from by (try simp only [decide_eq_true_eq, decide_eq_false_iff_not] at *); unfold pegE; grind]; rfl) | (rw [show pegE B p x r c = 3 from by (try simp only [decide_eq_true_eq, decide_eq_false_iff_not] at *); unfold pegE; grind]; rfl)) (by first | (rw [show pegE B p x r c = 0 from by (try simp only [decide_eq_true_eq, decide_eq_false_iff_not] at *); unfold pegE; grind]; rfl) | (rw [show pegE B p x r c = 1 from by (try simp only [decide_eq_true_eq, decide_eq_false_iff_not] at *); unfold pegE; grind]; rfl) | (rw [show pegE B p x r c = 2 from by (try simp only [decide_eq_true_eq, decide_eq_false_iff_not] at *); unfold pegE; grind]; rfl) | (rw [show pegE B p x r c = 3 from by (try simp only [decide_eq_true_eq, decide_eq_false_iff_not] at *); unfold pegE; grind]; rfl)))
      · skip
        refine g_cS_i (My := mX4_isPerson) (gs := [_]) (c_X4_isPerson (by omega)) mfX4_isPerson rfl wst_X4_isPerson wm_X4_128 dX4_peg_28 (Nat.le_of_ble_eq_true rfl) rfl (fun _ => Nat.le_of_ble_eq_true rfl) (Nat.le_of_ble_eq_true rfl) (Nat.le_of_ble_eq_true rfl) rfl rfl ?_
        refine g_top (y := 0) (by first | (rw [decide_eq_false hs28]; rfl) | (rw [cellB, decide_eq_false hs28]; rfl)) ?_
        refine g_if_eq (tgt := 41) (by omega) dX4_peg_31 (by decide) (fun h31_49 => ?_) (fun h31_49 => absurd h31_49 (by omega))
        refine g_iconst dX4_peg_41 ?_
        refine g_goto (tgt := 46) dX4_peg_42 (by decide) ?_
        refine g_putfi cf_5 0 rfl (by decide) (by decide) rfl (by decide) wf_X4_104 (Or.inl rfl) rfl dX4_peg_46 (n2 (hM 20 rfl)) (by omega) ?_
        refine g_aload_n 1 dX4_peg_49 rfl rfl ?_
        refine g_getfi cf_5 0 rfl (by decide) (by decide) rfl (by decide) wf_X4_104 dX4_peg_50 (n2 (hM 20 rfl)) (fun h50_50 => ?_)
        refine g_top (y := 1) (gup_at _ _ _ _) ?_
        refine g_if_ne (tgt := 89) (by omega) dX4_peg_53 (by decide) (fun h53_51 => ?_) (fun h53_51 => absurd h53_51 (by omega))
        refine g_aload_n 1 dX4_peg_89 rfl rfl ?_
        refine g_getfi cf_5 0 rfl (by decide) (by decide) rfl (by decide) wf_X4_104 dX4_peg_90 (n2 (hM 20 rfl)) (fun h90_52 => ?_)
        refine g_top (y := 1) (gup_at _ _ _ _) ?_
        refine g_if_ne (tgt := 118) (by omega) dX4_peg_93 (by decide) (fun h93_53 => ?_) (fun h93_53 => absurd h93_53 (by omega))
        refine g_aload_n 1 dX4_peg_118 rfl rfl ?_
        refine g_getfi cf_5 0 rfl (by decide) (by decide) rfl (by decide) wf_X4_104 dX4_peg_119 (n2 (hM 20 rfl)) (fun h119_54 => ?_)
        refine g_top (y := 1) (gup_at _ _ _ _) ?_
        refine g_if_le (tgt := 127) (by omega) dX4_peg_122 (by decide) (fun h122_55 => absurd h122_55 (by omega)) (fun h122_55 => ?_)
        refine g_iconst dX4_peg_125 ?_
        exact g_iret dX4_peg_126 rfl (Nat.le_of_ble_eq_true rfl) (Nat.le_of_ble_eq_true rfl) (pr_i (by first | (rw [show pegE B p x r c = 0 from by (try simp only [decide_eq_true_eq, decide_eq_false_iff_not] at *); unfold pegE; grind, if_pos rfl]; (try unfold id); (first | done | (first | rfl | omega))) | (rw [show pegE B p x r c = 1 from by (try simp only [decide_eq_true_eq, decide_eq_false_iff_not] at *); unfold pegE; grind]; rfl) | (rw [show pegE B p x r c = 2 from by (try simp only [decide_eq_true_eq, decide_eq_false_iff_not] at *); unfold pegE; grind]; rfl) | (rw [show pegE B p x r c = 3 from by (try simp only [decide_eq_true_eq, decide_eq_false_iff_not] at *); unfold pegE; grind]; rfl)) (by first | (rw [show pegE B p x r c = 0 from by (try simp only [decide_eq_true_eq, decide_eq_false_iff_not] at *); unfold pegE; grind]; rfl) | (rw [show pegE B p x r c = 1 from by (try simp only [decide_eq_true_eq, decide_eq_false_iff_not] at *); unfold pegE; grind]; rfl) | (rw [show pegE B p x r c = 2 from by (try simp only [decide_eq_true_eq, decide_eq_false_iff_not] at *); unfold pegE; grind]; rfl) | (rw [show pegE B p x r c = 3 from by (try simp only [decide_eq_true_eq, decide_eq_false_iff_not] at *); unfold pegE; grind]; rfl)))
    · skip
      refine g_cS_i (My := mX4_in) (gs := [_, _, _]) (c_X4_in (by omega) (by omega) (by omega)) mfX4_in rfl wst_X4_in wm_X4_108 dX4_peg_13 (Nat.le_of_ble_eq_true rfl) rfl (fun _ => Nat.le_of_ble_eq_true rfl) (Nat.le_of_ble_eq_true rfl) (Nat.le_of_ble_eq_true rfl) rfl rfl ?_
      refine g_top (y := 0) (by first | (rw [decide_eq_false hs13]; rfl) | (rw [inB, decide_eq_false hs13]; rfl)) ?_
      refine g_if_eq (tgt := 23) (by omega) dX4_peg_16 (by decide) (fun h16_56 => ?_) (fun h16_56 => absurd h16_56 (by omega))
      refine g_iconst dX4_peg_23 ?_
      refine g_st2 (ls2 := [(5, _), (0, _), (1, _), (2, _), (3, _), (4, _)]) dX4_peg_24 (by decide) (c1_cr (c1_ci (c1_ci (c1_ci (c1_ci c1_0))))) rfl ?_
      refine g_aload_n 1 dX4_peg_26 rfl rfl ?_
      refine g_iload_n 2 dX4_peg_27 rfl rfl ?_
      by_cases hs28 : 0 ≤ p ∧ p < 8
      · skip
        refine g_cS_i (My := mX4_isPerson) (gs := [_]) (c_X4_isPerson (by omega)) mfX4_isPerson rfl wst_X4_isPerson wm_X4_128 dX4_peg_28 (Nat.le_of_ble_eq_true rfl) rfl (fun _ => Nat.le_of_ble_eq_true rfl) (Nat.le_of_ble_eq_true rfl) (Nat.le_of_ble_eq_true rfl) rfl rfl ?_
        refine g_top (y := 1) (by first | (rw [decide_eq_true hs28]; rfl) | (rw [cellB, decide_eq_true hs28]; rfl)) ?_
        refine g_if_eq (tgt := 41) (by omega) dX4_peg_31 (by decide) (fun h31_57 => absurd h31_57 (by omega)) (fun h31_57 => ?_)
        refine g_iload_n 3 dX4_peg_34 rfl rfl ?_
        by_cases hs35 : 0 ≤ x ∧ x < 100
        · skip
          refine g_cS_i (My := mX4_isCell) (gs := [_]) (c_X4_isCell (by omega)) mfX4_isCell rfl wst_X4_isCell wm_X4_121 dX4_peg_35 (Nat.le_of_ble_eq_true rfl) rfl (fun _ => Nat.le_of_ble_eq_true rfl) (Nat.le_of_ble_eq_true rfl) (Nat.le_of_ble_eq_true rfl) rfl rfl ?_
          refine g_top (y := 1) (by first | (rw [decide_eq_true hs35]; rfl) | (rw [cellB, decide_eq_true hs35]; rfl)) ?_
          refine g_if_ne (tgt := 45) (by omega) dX4_peg_38 (by decide) (fun h38_58 => ?_) (fun h38_58 => absurd h38_58 (by omega))
          refine g_iconst dX4_peg_45 ?_
          refine g_putfi cf_5 0 rfl (by decide) (by decide) rfl (by decide) wf_X4_104 (Or.inl rfl) rfl dX4_peg_46 (n2 (hM 20 rfl)) (by omega) ?_
          refine g_aload_n 1 dX4_peg_49 rfl rfl ?_
          refine g_getfi cf_5 0 rfl (by decide) (by decide) rfl (by decide) wf_X4_104 dX4_peg_50 (n2 (hM 20 rfl)) (fun h50_59 => ?_)
          refine g_top (y := 0) (gup_at _ _ _ _) ?_
          refine g_if_ne (tgt := 89) (by omega) dX4_peg_53 (by decide) (fun h53_60 => absurd h53_60 (by omega)) (fun h53_60 => ?_)
          refine g_iload 0 dX4_peg_56 rfl ?_
          refine g_if_eq (tgt := 84) (by omega) dX4_peg_58 (by decide) (fun h58_61 => ?_) (fun h58_61 => absurd h58_61 (by omega))
          refine g_aload_n 1 dX4_peg_84 rfl rfl ?_
          refine g_iconst dX4_peg_85 ?_
          refine g_putfi cf_5 0 rfl (by decide) (by decide) rfl (by decide) wf_X4_104 (Or.inl rfl) rfl dX4_peg_86 (n2 (hM 20 rfl)) (by omega) ?_
          refine g_ls (A2 := gup A 20 0 2) rfl rfl (gup_tw _ _ _ _ _) ?_
          refine g_aload_n 1 dX4_peg_89 rfl rfl ?_
          refine g_getfi cf_5 0 rfl (by decide) (by decide) rfl (by decide) wf_X4_104 dX4_peg_90 (n2 (hM 20 rfl)) (fun h90_62 => ?_)
          refine g_top (y := 2) (gup_at _ _ _ _) ?_
          refine g_if_ne (tgt := 118) (by omega) dX4_peg_93 (by decide) (fun h93_63 => ?_) (fun h93_63 => absurd h93_63 (by omega))
          refine g_aload_n 1 dX4_peg_118 rfl rfl ?_
          refine g_getfi cf_5 0 rfl (by decide) (by decide) rfl (by decide) wf_X4_104 dX4_peg_119 (n2 (hM 20 rfl)) (fun h119_64 => ?_)
          refine g_top (y := 2) (gup_at _ _ _ _) ?_
          refine g_if_le (tgt := 127) (by omega) dX4_peg_122 (by decide) (fun h122_65 => absurd h122_65 (by omega)) (fun h122_65 => ?_)
          refine g_iconst dX4_peg_125 ?_
          exact g_iret dX4_peg_126 rfl (Nat.le_of_ble_eq_true rfl) (Nat.le_of_ble_eq_true rfl) (pr_i (by first | (rw [show pegE B p x r c = 0 from by (try simp only [decide_eq_true_eq, decide_eq_false_iff_not] at *); unfold pegE; grind, if_pos rfl]; (try unfold id); (first | done | (first | rfl | omega))) | (rw [show pegE B p x r c = 1 from by (try simp only [decide_eq_true_eq, decide_eq_false_iff_not] at *); unfold pegE; grind]; rfl) | (rw [show pegE B p x r c = 2 from by (try simp only [decide_eq_true_eq, decide_eq_false_iff_not] at *); unfold pegE; grind]; rfl) | (rw [show pegE B p x r c = 3 from by (try simp only [decide_eq_true_eq, decide_eq_false_iff_not] at *); unfold pegE; grind]; rfl)) (by first | (rw [show pegE B p x r c = 0 from by (try simp only [decide_eq_true_eq, decide_eq_false_iff_not] at *); unfold pegE; grind]; rfl) | (rw [show pegE B p x r c = 1 from by (try simp only [decide_eq_true_eq, decide_eq_false_iff_not] at *); unfold pegE; grind]; rfl) | (rw [show pegE B p x r c = 2 from by (try simp only [decide_eq_true_eq, decide_eq_false_iff_not] at *); unfold pegE; grind]; rfl) | (rw [show pegE B p x r c = 3 from by (try simp only [decide_eq_true_eq, decide_eq_false_iff_not] at *); unfold pegE; grind]; rfl)))
        · skip
          refine g_cS_i (My := mX4_isCell) (gs := [_]) (c_X4_isCell (by omega)) mfX4_isCell rfl wst_X4_isCell wm_X4_121 dX4_peg_35 (Nat.le_of_ble_eq_true rfl) rfl (fun _ => Nat.le_of_ble_eq_true rfl) (Nat.le_of_ble_eq_true rfl) (Nat.le_of_ble_eq_true rfl) rfl rfl ?_
          refine g_top (y := 0) (by first | (rw [decide_eq_false hs35]; rfl) | (rw [cellB, decide_eq_false hs35]; rfl)) ?_
          refine g_if_ne (tgt := 45) (by omega) dX4_peg_38 (by decide) (fun h38_66 => absurd h38_66 (by omega)) (fun h38_66 => ?_)
          refine g_iconst dX4_peg_41 ?_
          refine g_goto (tgt := 46) dX4_peg_42 (by decide) ?_
          refine g_putfi cf_5 0 rfl (by decide) (by decide) rfl (by decide) wf_X4_104 (Or.inl rfl) rfl dX4_peg_46 (n2 (hM 20 rfl)) (by omega) ?_
          refine g_aload_n 1 dX4_peg_49 rfl rfl ?_
          refine g_getfi cf_5 0 rfl (by decide) (by decide) rfl (by decide) wf_X4_104 dX4_peg_50 (n2 (hM 20 rfl)) (fun h50_67 => ?_)
          refine g_top (y := 1) (gup_at _ _ _ _) ?_
          refine g_if_ne (tgt := 89) (by omega) dX4_peg_53 (by decide) (fun h53_68 => ?_) (fun h53_68 => absurd h53_68 (by omega))
          refine g_aload_n 1 dX4_peg_89 rfl rfl ?_
          refine g_getfi cf_5 0 rfl (by decide) (by decide) rfl (by decide) wf_X4_104 dX4_peg_90 (n2 (hM 20 rfl)) (fun h90_69 => ?_)
          refine g_top (y := 1) (gup_at _ _ _ _) ?_
          refine g_if_ne (tgt := 118) (by omega) dX4_peg_93 (by decide) (fun h93_70 => ?_) (fun h93_70 => absurd h93_70 (by omega))
          refine g_aload_n 1 dX4_peg_118 rfl rfl ?_
          refine g_getfi cf_5 0 rfl (by decide) (by decide) rfl (by decide) wf_X4_104 dX4_peg_119 (n2 (hM 20 rfl)) (fun h119_71 => ?_)
          refine g_top (y := 1) (gup_at _ _ _ _) ?_
          refine g_if_le (tgt := 127) (by omega) dX4_peg_122 (by decide) (fun h122_72 => absurd h122_72 (by omega)) (fun h122_72 => ?_)
          refine g_iconst dX4_peg_125 ?_
          exact g_iret dX4_peg_126 rfl (Nat.le_of_ble_eq_true rfl) (Nat.le_of_ble_eq_true rfl) (pr_i (by first | (rw [show pegE B p x r c = 0 from by (try simp only [decide_eq_true_eq, decide_eq_false_iff_not] at *); unfold pegE; grind, if_pos rfl]; (try unfold id); (first | done | (first | rfl | omega))) | (rw [show pegE B p x r c = 1 from by (try simp only [decide_eq_true_eq, decide_eq_false_iff_not] at *); unfold pegE; grind]; rfl) | (rw [show pegE B p x r c = 2 from by (try simp only [decide_eq_true_eq, decide_eq_false_iff_not] at *); unfold pegE; grind]; rfl) | (rw [show pegE B p x r c = 3 from by (try simp only [decide_eq_true_eq, decide_eq_false_iff_not] at *); unfold pegE; grind]; rfl)) (by first | (rw [show pegE B p x r c = 0 from by (try simp only [decide_eq_true_eq, decide_eq_false_iff_not] at *); unfold pegE; grind]; rfl) | (rw [show pegE B p x r c = 1 from by (try simp only [decide_eq_true_eq, decide_eq_false_iff_not] at *); unfold pegE; grind]; rfl) | (rw [show pegE B p x r c = 2 from by (try simp only [decide_eq_true_eq, decide_eq_false_iff_not] at *); unfold pegE; grind]; rfl) | (rw [show pegE B p x r c = 3 from by (try simp only [decide_eq_true_eq, decide_eq_false_iff_not] at *); unfold pegE; grind]; rfl)))
      · skip
        refine g_cS_i (My := mX4_isPerson) (gs := [_]) (c_X4_isPerson (by omega)) mfX4_isPerson rfl wst_X4_isPerson wm_X4_128 dX4_peg_28 (Nat.le_of_ble_eq_true rfl) rfl (fun _ => Nat.le_of_ble_eq_true rfl) (Nat.le_of_ble_eq_true rfl) (Nat.le_of_ble_eq_true rfl) rfl rfl ?_
        refine g_top (y := 0) (by first | (rw [decide_eq_false hs28]; rfl) | (rw [cellB, decide_eq_false hs28]; rfl)) ?_
        refine g_if_eq (tgt := 41) (by omega) dX4_peg_31 (by decide) (fun h31_73 => ?_) (fun h31_73 => absurd h31_73 (by omega))
        refine g_iconst dX4_peg_41 ?_
        refine g_goto (tgt := 46) dX4_peg_42 (by decide) ?_
        refine g_putfi cf_5 0 rfl (by decide) (by decide) rfl (by decide) wf_X4_104 (Or.inl rfl) rfl dX4_peg_46 (n2 (hM 20 rfl)) (by omega) ?_
        refine g_aload_n 1 dX4_peg_49 rfl rfl ?_
        refine g_getfi cf_5 0 rfl (by decide) (by decide) rfl (by decide) wf_X4_104 dX4_peg_50 (n2 (hM 20 rfl)) (fun h50_74 => ?_)
        refine g_top (y := 1) (gup_at _ _ _ _) ?_
        refine g_if_ne (tgt := 89) (by omega) dX4_peg_53 (by decide) (fun h53_75 => ?_) (fun h53_75 => absurd h53_75 (by omega))
        refine g_aload_n 1 dX4_peg_89 rfl rfl ?_
        refine g_getfi cf_5 0 rfl (by decide) (by decide) rfl (by decide) wf_X4_104 dX4_peg_90 (n2 (hM 20 rfl)) (fun h90_76 => ?_)
        refine g_top (y := 1) (gup_at _ _ _ _) ?_
        refine g_if_ne (tgt := 118) (by omega) dX4_peg_93 (by decide) (fun h93_77 => ?_) (fun h93_77 => absurd h93_77 (by omega))
        refine g_aload_n 1 dX4_peg_118 rfl rfl ?_
        refine g_getfi cf_5 0 rfl (by decide) (by decide) rfl (by decide) wf_X4_104 dX4_peg_119 (n2 (hM 20 rfl)) (fun h119_78 => ?_)
        refine g_top (y := 1) (gup_at _ _ _ _) ?_
        refine g_if_le (tgt := 127) (by omega) dX4_peg_122 (by decide) (fun h122_79 => absurd h122_79 (by omega)) (fun h122_79 => ?_)
        refine g_iconst dX4_peg_125 ?_
        exact g_iret dX4_peg_126 rfl (Nat.le_of_ble_eq_true rfl) (Nat.le_of_ble_eq_true rfl) (pr_i (by first | (rw [show pegE B p x r c = 0 from by (try simp only [decide_eq_true_eq, decide_eq_false_iff_not] at *); unfold pegE; grind, if_pos rfl]; (try unfold id); (first | done | (first | rfl | omega))) | (rw [show pegE B p x r c = 1 from by (try simp only [decide_eq_true_eq, decide_eq_false_iff_not] at *); unfold pegE; grind]; rfl) | (rw [show pegE B p x r c = 2 from by (try simp only [decide_eq_true_eq, decide_eq_false_iff_not] at *); unfold pegE; grind]; rfl) | (rw [show pegE B p x r c = 3 from by (try simp only [decide_eq_true_eq, decide_eq_false_iff_not] at *); unfold pegE; grind]; rfl)) (by first | (rw [show pegE B p x r c = 0 from by (try simp only [decide_eq_true_eq, decide_eq_false_iff_not] at *); unfold pegE; grind]; rfl) | (rw [show pegE B p x r c = 1 from by (try simp only [decide_eq_true_eq, decide_eq_false_iff_not] at *); unfold pegE; grind]; rfl) | (rw [show pegE B p x r c = 2 from by (try simp only [decide_eq_true_eq, decide_eq_false_iff_not] at *); unfold pegE; grind]; rfl) | (rw [show pegE B p x r c = 3 from by (try simp only [decide_eq_true_eq, decide_eq_false_iff_not] at *); unfold pegE; grind]; rfl)))
  · skip
    refine g_cS_i (My := mX4_in) (gs := [_, _, _]) (c_X4_in (by omega) (by omega) (by omega)) mfX4_in rfl wst_X4_in wm_X4_108 dX4_peg_3 (Nat.le_of_ble_eq_true rfl) rfl (fun _ => Nat.le_of_ble_eq_true rfl) (Nat.le_of_ble_eq_true rfl) (Nat.le_of_ble_eq_true rfl) rfl rfl ?_
    refine g_top (y := 0) (by first | (rw [decide_eq_false hs3]; rfl) | (rw [inB, decide_eq_false hs3]; rfl)) ?_
    refine g_if_eq (tgt := 23) (by omega) dX4_peg_6 (by decide) (fun h6_80 => ?_) (fun h6_80 => absurd h6_80 (by omega))
    refine g_iconst dX4_peg_23 ?_
    refine g_st2 (ls2 := [(5, _), (0, _), (1, _), (2, _), (3, _), (4, _)]) dX4_peg_24 (by decide) (c1_cr (c1_ci (c1_ci (c1_ci (c1_ci c1_0))))) rfl ?_
    refine g_aload_n 1 dX4_peg_26 rfl rfl ?_
    refine g_iload_n 2 dX4_peg_27 rfl rfl ?_
    by_cases hs28 : 0 ≤ p ∧ p < 8
    · skip
      refine g_cS_i (My := mX4_isPerson) (gs := [_]) (c_X4_isPerson (by omega)) mfX4_isPerson rfl wst_X4_isPerson wm_X4_128 dX4_peg_28 (Nat.le_of_ble_eq_true rfl) rfl (fun _ => Nat.le_of_ble_eq_true rfl) (Nat.le_of_ble_eq_true rfl) (Nat.le_of_ble_eq_true rfl) rfl rfl ?_
      refine g_top (y := 1) (by first | (rw [decide_eq_true hs28]; rfl) | (rw [cellB, decide_eq_true hs28]; rfl)) ?_
      refine g_if_eq (tgt := 41) (by omega) dX4_peg_31 (by decide) (fun h31_81 => absurd h31_81 (by omega)) (fun h31_81 => ?_)
      refine g_iload_n 3 dX4_peg_34 rfl rfl ?_
      by_cases hs35 : 0 ≤ x ∧ x < 100
      · skip
        refine g_cS_i (My := mX4_isCell) (gs := [_]) (c_X4_isCell (by omega)) mfX4_isCell rfl wst_X4_isCell wm_X4_121 dX4_peg_35 (Nat.le_of_ble_eq_true rfl) rfl (fun _ => Nat.le_of_ble_eq_true rfl) (Nat.le_of_ble_eq_true rfl) (Nat.le_of_ble_eq_true rfl) rfl rfl ?_
        refine g_top (y := 1) (by first | (rw [decide_eq_true hs35]; rfl) | (rw [cellB, decide_eq_true hs35]; rfl)) ?_
        refine g_if_ne (tgt := 45) (by omega) dX4_peg_38 (by decide) (fun h38_82 => ?_) (fun h38_82 => absurd h38_82 (by omega))
        refine g_iconst dX4_peg_45 ?_
        refine g_putfi cf_5 0 rfl (by decide) (by decide) rfl (by decide) wf_X4_104 (Or.inl rfl) rfl dX4_peg_46 (n2 (hM 20 rfl)) (by omega) ?_
        refine g_aload_n 1 dX4_peg_49 rfl rfl ?_
        refine g_getfi cf_5 0 rfl (by decide) (by decide) rfl (by decide) wf_X4_104 dX4_peg_50 (n2 (hM 20 rfl)) (fun h50_83 => ?_)
        refine g_top (y := 0) (gup_at _ _ _ _) ?_
        refine g_if_ne (tgt := 89) (by omega) dX4_peg_53 (by decide) (fun h53_84 => absurd h53_84 (by omega)) (fun h53_84 => ?_)
        refine g_iload 0 dX4_peg_56 rfl ?_
        refine g_if_eq (tgt := 84) (by omega) dX4_peg_58 (by decide) (fun h58_85 => ?_) (fun h58_85 => absurd h58_85 (by omega))
        refine g_aload_n 1 dX4_peg_84 rfl rfl ?_
        refine g_iconst dX4_peg_85 ?_
        refine g_putfi cf_5 0 rfl (by decide) (by decide) rfl (by decide) wf_X4_104 (Or.inl rfl) rfl dX4_peg_86 (n2 (hM 20 rfl)) (by omega) ?_
        refine g_ls (A2 := gup A 20 0 2) rfl rfl (gup_tw _ _ _ _ _) ?_
        refine g_aload_n 1 dX4_peg_89 rfl rfl ?_
        refine g_getfi cf_5 0 rfl (by decide) (by decide) rfl (by decide) wf_X4_104 dX4_peg_90 (n2 (hM 20 rfl)) (fun h90_86 => ?_)
        refine g_top (y := 2) (gup_at _ _ _ _) ?_
        refine g_if_ne (tgt := 118) (by omega) dX4_peg_93 (by decide) (fun h93_87 => ?_) (fun h93_87 => absurd h93_87 (by omega))
        refine g_aload_n 1 dX4_peg_118 rfl rfl ?_
        refine g_getfi cf_5 0 rfl (by decide) (by decide) rfl (by decide) wf_X4_104 dX4_peg_119 (n2 (hM 20 rfl)) (fun h119_88 => ?_)
        refine g_top (y := 2) (gup_at _ _ _ _) ?_
        refine g_if_le (tgt := 127) (by omega) dX4_peg_122 (by decide) (fun h122_89 => absurd h122_89 (by omega)) (fun h122_89 => ?_)
        refine g_iconst dX4_peg_125 ?_
        exact g_iret dX4_peg_126 rfl (Nat.le_of_ble_eq_true rfl) (Nat.le_of_ble_eq_true rfl) (pr_i (by first | (rw [show pegE B p x r c = 0 from by (try simp only [decide_eq_true_eq, decide_eq_false_iff_not] at *); unfold pegE; grind, if_pos rfl]; (try unfold id); (first | done | (first | rfl | omega))) | (rw [show pegE B p x r c = 1 from by (try simp only [decide_eq_true_eq, decide_eq_false_iff_not] at *); unfold pegE; grind]; rfl) | (rw [show pegE B p x r c = 2 from by (try simp only [decide_eq_true_eq, decide_eq_false_iff_not] at *); unfold pegE; grind]; rfl) | (rw [show pegE B p x r c = 3 from by (try simp only [decide_eq_true_eq, decide_eq_false_iff_not] at *); unfold pegE; grind]; rfl)) (by first | (rw [show pegE B p x r c = 0 from by (try simp only [decide_eq_true_eq, decide_eq_false_iff_not] at *); unfold pegE; grind]; rfl) | (rw [show pegE B p x r c = 1 from by (try simp only [decide_eq_true_eq, decide_eq_false_iff_not] at *); unfold pegE; grind]; rfl) | (rw [show pegE B p x r c = 2 from by (try simp only [decide_eq_true_eq, decide_eq_false_iff_not] at *); unfold pegE; grind]; rfl) | (rw [show pegE B p x r c = 3 from by (try simp only [decide_eq_true_eq, decide_eq_false_iff_not] at *); unfold pegE; grind]; rfl)))
      · skip
        refine g_cS_i (My := mX4_isCell) (gs := [_]) (c_X4_isCell (by omega)) mfX4_isCell rfl wst_X4_isCell wm_X4_121 dX4_peg_35 (Nat.le_of_ble_eq_true rfl) rfl (fun _ => Nat.le_of_ble_eq_true rfl) (Nat.le_of_ble_eq_true rfl) (Nat.le_of_ble_eq_true rfl) rfl rfl ?_
        refine g_top (y := 0) (by first | (rw [decide_eq_false hs35]; rfl) | (rw [cellB, decide_eq_false hs35]; rfl)) ?_
        refine g_if_ne (tgt := 45) (by omega) dX4_peg_38 (by decide) (fun h38_90 => absurd h38_90 (by omega)) (fun h38_90 => ?_)
        refine g_iconst dX4_peg_41 ?_
        refine g_goto (tgt := 46) dX4_peg_42 (by decide) ?_
        refine g_putfi cf_5 0 rfl (by decide) (by decide) rfl (by decide) wf_X4_104 (Or.inl rfl) rfl dX4_peg_46 (n2 (hM 20 rfl)) (by omega) ?_
        refine g_aload_n 1 dX4_peg_49 rfl rfl ?_
        refine g_getfi cf_5 0 rfl (by decide) (by decide) rfl (by decide) wf_X4_104 dX4_peg_50 (n2 (hM 20 rfl)) (fun h50_91 => ?_)
        refine g_top (y := 1) (gup_at _ _ _ _) ?_
        refine g_if_ne (tgt := 89) (by omega) dX4_peg_53 (by decide) (fun h53_92 => ?_) (fun h53_92 => absurd h53_92 (by omega))
        refine g_aload_n 1 dX4_peg_89 rfl rfl ?_
        refine g_getfi cf_5 0 rfl (by decide) (by decide) rfl (by decide) wf_X4_104 dX4_peg_90 (n2 (hM 20 rfl)) (fun h90_93 => ?_)
        refine g_top (y := 1) (gup_at _ _ _ _) ?_
        refine g_if_ne (tgt := 118) (by omega) dX4_peg_93 (by decide) (fun h93_94 => ?_) (fun h93_94 => absurd h93_94 (by omega))
        refine g_aload_n 1 dX4_peg_118 rfl rfl ?_
        refine g_getfi cf_5 0 rfl (by decide) (by decide) rfl (by decide) wf_X4_104 dX4_peg_119 (n2 (hM 20 rfl)) (fun h119_95 => ?_)
        refine g_top (y := 1) (gup_at _ _ _ _) ?_
        refine g_if_le (tgt := 127) (by omega) dX4_peg_122 (by decide) (fun h122_96 => absurd h122_96 (by omega)) (fun h122_96 => ?_)
        refine g_iconst dX4_peg_125 ?_
        exact g_iret dX4_peg_126 rfl (Nat.le_of_ble_eq_true rfl) (Nat.le_of_ble_eq_true rfl) (pr_i (by first | (rw [show pegE B p x r c = 0 from by (try simp only [decide_eq_true_eq, decide_eq_false_iff_not] at *); unfold pegE; grind, if_pos rfl]; (try unfold id); (first | done | (first | rfl | omega))) | (rw [show pegE B p x r c = 1 from by (try simp only [decide_eq_true_eq, decide_eq_false_iff_not] at *); unfold pegE; grind]; rfl) | (rw [show pegE B p x r c = 2 from by (try simp only [decide_eq_true_eq, decide_eq_false_iff_not] at *); unfold pegE; grind]; rfl) | (rw [show pegE B p x r c = 3 from by (try simp only [decide_eq_true_eq, decide_eq_false_iff_not] at *); unfold pegE; grind]; rfl)) (by first | (rw [show pegE B p x r c = 0 from by (try simp only [decide_eq_true_eq, decide_eq_false_iff_not] at *); unfold pegE; grind]; rfl) | (rw [show pegE B p x r c = 1 from by (try simp only [decide_eq_true_eq, decide_eq_false_iff_not] at *); unfold pegE; grind]; rfl) | (rw [show pegE B p x r c = 2 from by (try simp only [decide_eq_true_eq, decide_eq_false_iff_not] at *); unfold pegE; grind]; rfl) | (rw [show pegE B p x r c = 3 from by (try simp only [decide_eq_true_eq, decide_eq_false_iff_not] at *); unfold pegE; grind]; rfl)))
    · skip
      refine g_cS_i (My := mX4_isPerson) (gs := [_]) (c_X4_isPerson (by omega)) mfX4_isPerson rfl wst_X4_isPerson wm_X4_128 dX4_peg_28 (Nat.le_of_ble_eq_true rfl) rfl (fun _ => Nat.le_of_ble_eq_true rfl) (Nat.le_of_ble_eq_true rfl) (Nat.le_of_ble_eq_true rfl) rfl rfl ?_
      refine g_top (y := 0) (by first | (rw [decide_eq_false hs28]; rfl) | (rw [cellB, decide_eq_false hs28]; rfl)) ?_
      refine g_if_eq (tgt := 41) (by omega) dX4_peg_31 (by decide) (fun h31_97 => ?_) (fun h31_97 => absurd h31_97 (by omega))
      refine g_iconst dX4_peg_41 ?_
      refine g_goto (tgt := 46) dX4_peg_42 (by decide) ?_
      refine g_putfi cf_5 0 rfl (by decide) (by decide) rfl (by decide) wf_X4_104 (Or.inl rfl) rfl dX4_peg_46 (n2 (hM 20 rfl)) (by omega) ?_
      refine g_aload_n 1 dX4_peg_49 rfl rfl ?_
      refine g_getfi cf_5 0 rfl (by decide) (by decide) rfl (by decide) wf_X4_104 dX4_peg_50 (n2 (hM 20 rfl)) (fun h50_98 => ?_)
      refine g_top (y := 1) (gup_at _ _ _ _) ?_
      refine g_if_ne (tgt := 89) (by omega) dX4_peg_53 (by decide) (fun h53_99 => ?_) (fun h53_99 => absurd h53_99 (by omega))
      refine g_aload_n 1 dX4_peg_89 rfl rfl ?_
      refine g_getfi cf_5 0 rfl (by decide) (by decide) rfl (by decide) wf_X4_104 dX4_peg_90 (n2 (hM 20 rfl)) (fun h90_100 => ?_)
      refine g_top (y := 1) (gup_at _ _ _ _) ?_
      refine g_if_ne (tgt := 118) (by omega) dX4_peg_93 (by decide) (fun h93_101 => ?_) (fun h93_101 => absurd h93_101 (by omega))
      refine g_aload_n 1 dX4_peg_118 rfl rfl ?_
      refine g_getfi cf_5 0 rfl (by decide) (by decide) rfl (by decide) wf_X4_104 dX4_peg_119 (n2 (hM 20 rfl)) (fun h119_102 => ?_)
      refine g_top (y := 1) (gup_at _ _ _ _) ?_
      refine g_if_le (tgt := 127) (by omega) dX4_peg_122 (by decide) (fun h122_103 => absurd h122_103 (by omega)) (fun h122_103 => ?_)
      refine g_iconst dX4_peg_125 ?_
      exact g_iret dX4_peg_126 rfl (Nat.le_of_ble_eq_true rfl) (Nat.le_of_ble_eq_true rfl) (pr_i (by first | (rw [show pegE B p x r c = 0 from by (try simp only [decide_eq_true_eq, decide_eq_false_iff_not] at *); unfold pegE; grind, if_pos rfl]; (try unfold id); (first | done | (first | rfl | omega))) | (rw [show pegE B p x r c = 1 from by (try simp only [decide_eq_true_eq, decide_eq_false_iff_not] at *); unfold pegE; grind]; rfl) | (rw [show pegE B p x r c = 2 from by (try simp only [decide_eq_true_eq, decide_eq_false_iff_not] at *); unfold pegE; grind]; rfl) | (rw [show pegE B p x r c = 3 from by (try simp only [decide_eq_true_eq, decide_eq_false_iff_not] at *); unfold pegE; grind]; rfl)) (by first | (rw [show pegE B p x r c = 0 from by (try simp only [decide_eq_true_eq, decide_eq_false_iff_not] at *); unfold pegE; grind]; rfl) | (rw [show pegE B p x r c = 1 from by (try simp only [decide_eq_true_eq, decide_eq_false_iff_not] at *); unfold pegE; grind]; rfl) | (rw [show pegE B p x r c = 2 from by (try simp only [decide_eq_true_eq, decide_eq_false_iff_not] at *); unfold pegE; grind]; rfl) | (rw [show pegE B p x r c = 3 from by (try simp only [decide_eq_true_eq, decide_eq_false_iff_not] at *); unfold pegE; grind]; rfl)))

/-- who gets the next stone, by the reference -/
def nxF (sh gt : Nat → Int) (w : Int) : Nat → Int
  | 0 => -1
  | p + 1 => if 0 < sh p ∧ (nxF sh gt w p = -1 ∨ wntC sh gt w (nxF sh gt w p).toNat < wntC sh gt w p) then p else nxF sh gt w p
theorem nxF_rg (sh gt : Nat → Int) (w : Int) (n : Nat) : -1 ≤ nxF sh gt w n ∧ nxF sh gt w n < n := by
  induction n with
  | zero => simp [nxF]
  | succ n ih => simp only [nxF]; split <;> omega

set_option maxHeartbeats 1000000 in
set_option maxRecDepth 20000 in
theorem c_X4_next {L : Nat → Nat} {A B : Mem} (hM : LM L) (hV : VC L B) (hR : Rel B A) {k : Nat} (hk : (k : Int) < B 2 2) {w : Int} (hw : 0 ≤ w ∧ w ≤ 100000) (hgt : ∀ p : Nat, p < 8 → 0 ≤ A 43 p ∧ A 43 p ≤ 100000) : Ct mX4_next [gr 20, gi (k : Int), gi w] L A (pr (some (gi (nxF (B (101 + 3 * k)) (A 43) w 8))) L A) := by
  have hnc := vc_nc hV; have hns := vc_ns hV; have hp0 := (vc_p hV).1
  have rnow := rl_now hR; have rnc := rl_nc hR; have rns := rl_ns hR
  have rk := rl_k hR hk; have hcv := vc_cv hV hk; have hk12 := vc_k hV hk
  refine Ct_of (ls := [(0, _), (1, _), (2, _)]) rfl (by decide) (fun _ => rfl) (fun _ => Nat.le_of_ble_eq_true rfl) ?_
  refine g_iconst dX4_next_0 ?_
  refine g_st (ls2 := [(3, _), (0, _), (1, _), (2, _)]) dX4_next_1 rfl (by decide) (c1_cr (c1_ci (c1_ci c1_0))) rfl ?_
  refine g_iconst dX4_next_2 ?_
  refine g_st2 (ls2 := [(4, _), (3, _), (0, _), (1, _), (2, _)]) dX4_next_3 (by decide) (c1_ci (c1_cr (c1_ci (c1_ci c1_0)))) rfl ?_
  refine g_iconst dX4_next_5 ?_
  refine g_st2 (ls2 := [(5, _), (4, _), (3, _), (0, _), (1, _), (2, _)]) dX4_next_6 (by decide) (c1_ci (c1_ci (c1_cr (c1_ci (c1_ci c1_0))))) rfl ?_
  refine g_sub [3, 4, 5, 2, 1, 0] (ls2 := [(0, _), (1, _), (2, _), (3, _), (4, _), (5, _)]) rfl ?_
  have hQ8 : (fun i : Nat => GW mX4_next (pr (some (gi (nxF (B (101 + 3 * k)) (A 43) w 8))) L A) 0 0 8 [(0, gr (20)), (1, gi ((k : Int))), (2, gi (w)), (3, gi (nxF (B (101 + 3 * k)) (A 43) w i)), (4, gi ((if nxF (B (101 + 3 * k)) (A 43) w i = -1 then 0 else wntC (B (101 + 3 * k)) (A 43) w (nxF (B (101 + 3 * k)) (A 43) w i).toNat))), (5, gi ((i : Int)))] [] L (A)) 0 := by
    refine lp_up (Q := (fun i : Nat => GW mX4_next (pr (some (gi (nxF (B (101 + 3 * k)) (A 43) w 8))) L A) 0 0 8 [(0, gr (20)), (1, gi ((k : Int))), (2, gi (w)), (3, gi (nxF (B (101 + 3 * k)) (A 43) w i)), (4, gi ((if nxF (B (101 + 3 * k)) (A 43) w i = -1 then 0 else wntC (B (101 + 3 * k)) (A 43) w (nxF (B (101 + 3 * k)) (A 43) w i).toNat))), (5, gi ((i : Int)))] [] L (A))) (n := 8) ?_ (fun i hi8 ih8 => ?_)
    · skip
      refine g_iload 5 dX4_next_8 rfl ?_
      refine g_bipush dX4_next_10 (by decide) ?_
      refine g_icmp_ge (tgt := 72) (by omega) (by omega) dX4_next_12 (by decide) (fun h12_1 => ?_) (fun h12_1 => absurd h12_1 (by omega))
      refine g_iload_n 3 dX4_next_72 rfl rfl ?_
      exact g_iret dX4_next_73 rfl (Nat.le_of_ble_eq_true rfl) (Nat.le_of_ble_eq_true rfl) (pr_i (rfl) (rfl))
    · skip
      have hnr := nxF_rg (B (101 + 3 * k)) (A 43) w i
      have hlr : -2147483648 ≤ (if nxF (B (101 + 3 * k)) (A 43) w i = -1 then 0 else wntC (B (101 + 3 * k)) (A 43) w (nxF (B (101 + 3 * k)) (A 43) w i).toNat) ∧ (if nxF (B (101 + 3 * k)) (A 43) w i = -1 then 0 else wntC (B (101 + 3 * k)) (A 43) w (nxF (B (101 + 3 * k)) (A 43) w i).toNat) < 2147483648 := by (split; omega; (have h1 := mul_rg (hcv.2.2.2.2.2.1 (nxF (B (101 + 3 * k)) (A 43) w i).toNat) hw; have h2 := hgt (nxF (B (101 + 3 * k)) (A 43) w i).toNat (by omega); unfold wntC; omega))
      refine g_iload 5 dX4_next_8 rfl ?_
      refine g_bipush dX4_next_10 (by decide) ?_
      refine g_icmp_ge (tgt := 72) (by omega) (by omega) dX4_next_12 (by decide) (fun h12_2 => absurd h12_2 (by omega)) (fun h12_2 => ?_)
      refine g_aload_n 0 dX4_next_15 rfl rfl ?_
      refine g_iload_n 1 dX4_next_16 rfl rfl ?_
      refine g_iload 5 dX4_next_17 rfl ?_
      refine g_cV_i (My := mX4_shareOf) (gs := [_, _]) (c_X4_shareOf hM hV hR hk (p := (i : Int)) (by omega)) mfX4_shareOf cf_5 wi_X4_shareOf wsl_X4_shareOf wm_X4_145 dX4_next_19 (Nat.le_of_ble_eq_true rfl) rfl (by decide) (n2 (hM 20 rfl)) rfl (fun _ => Nat.le_of_ble_eq_true rfl) (Nat.le_of_ble_eq_true rfl) (Nat.le_of_ble_eq_true rfl) rfl rfl ?_
      refine g_top (y := B (101 + 3 * k) i) (by rw [Int.toNat_natCast]) ?_
      have hsr := hcv.2.2.2.2.2.1 i; have hgr := hgt i hi8; have hmr := mul_rg hsr hw; have hwe : wntC (B (101 + 3 * k)) (A 43) w i = B (101 + 3 * k) i * w - 12 * A 43 i := rfl
      refine g_iload_n 2 dX4_next_22 rfl rfl ?_
      refine g_imul dX4_next_23 ?_
      refine g_bipush dX4_next_24 (by decide) ?_
      refine g_aload_n 0 dX4_next_26 rfl rfl ?_
      refine g_getfr2 (r := 43) cf_5 22 rfl (by decide) (by decide) rfl (by decide) wf_X4_68 dX4_next_27 (hM 20 rfl) rfl ?_
      refine g_iload 5 dX4_next_30 rfl ?_
      refine g_iald (i) (by omega) (by omega) rfl (by decide) dX4_next_32 (n2 (hM 43 rfl)) (fun h32_3 => ?_)
      refine g_imul dX4_next_33 ?_
      refine g_isub dX4_next_34 ?_
      refine g_st2 (ls2 := [(6, _), (0, _), (1, _), (2, _), (3, _), (4, _), (5, _)]) dX4_next_35 (by decide) (c1_cr (c1_ci (c1_ci (c1_ci (c1_ci (c1_ci c1_0)))))) rfl ?_
      refine g_aload_n 1 dX4_next_37 rfl rfl ?_
      refine g_iload_n 2 dX4_next_38 rfl rfl ?_
      refine g_iload 6 dX4_next_39 rfl ?_
      refine g_cV_i (My := mX4_shareOf) (gs := [_, _]) (c_X4_shareOf hM hV hR hk (p := (i : Int)) (by omega)) mfX4_shareOf cf_5 wi_X4_shareOf wsl_X4_shareOf wm_X4_145 dX4_next_41 (Nat.le_of_ble_eq_true rfl) rfl (by decide) (n2 (hM 20 rfl)) rfl (fun _ => Nat.le_of_ble_eq_true rfl) (Nat.le_of_ble_eq_true rfl) (Nat.le_of_ble_eq_true rfl) rfl rfl ?_
      refine g_top (y := B (101 + 3 * k) i) (by rw [Int.toNat_natCast]) ?_
      refine g_if_le (tgt := 66) (by omega) dX4_next_44 (by decide) (fun h44_4 => ?_) (fun h44_4 => ?_)
      · skip
        refine g_inc (ls2 := [(5, _), (6, _), (0, _), (1, _), (2, _), (3, _), (4, _)]) 6 dX4_next_66 rfl (by decide) (c1_ci (c1_cr (c1_ci (c1_ci (c1_ci (c1_ci (c1_ci c1_0))))))) rfl ?_
        refine g_goto (tgt := 8) dX4_next_69 (by decide) ?_
        refine g_sub [2, 3, 4, 5, 6, 0] (ls2 := [(0, _), (1, _), (2, _), (3, _), (4, _), (5, _)]) rfl ?_
        exact g_ls (by simp only [nxF]; grind) rfl rfl ih8
      · skip
        refine g_iload_n 4 dX4_next_47 rfl rfl ?_
        refine g_iconst dX4_next_48 ?_
        refine g_icmp_eq (tgt := 59) (by omega) (by omega) dX4_next_49 (by decide) (fun h49_5 => ?_) (fun h49_5 => ?_)
        · skip
          refine g_iload 6 dX4_next_59 rfl ?_
          refine g_st (ls2 := [(3, _), (6, _), (0, _), (1, _), (2, _), (4, _), (5, _)]) dX4_next_61 rfl (by decide) (c1_ci (c1_cr (c1_ci (c1_ci (c1_ci (c1_ci (c1_ci c1_0))))))) rfl ?_
          refine g_iload 1 dX4_next_62 rfl ?_
          refine g_st2 (ls2 := [(4, _), (3, _), (6, _), (0, _), (1, _), (2, _), (5, _)]) dX4_next_64 (by decide) (c1_ci (c1_ci (c1_cr (c1_ci (c1_ci (c1_ci (c1_ci c1_0))))))) rfl ?_
          refine g_inc (ls2 := [(5, _), (4, _), (3, _), (6, _), (0, _), (1, _), (2, _)]) 6 dX4_next_66 rfl (by decide) (c1_ci (c1_ci (c1_ci (c1_cr (c1_ci (c1_ci (c1_ci c1_0))))))) rfl ?_
          refine g_goto (tgt := 8) dX4_next_69 (by decide) ?_
          refine g_sub [4, 5, 6, 2, 1, 0] (ls2 := [(0, _), (1, _), (2, _), (3, _), (4, _), (5, _)]) rfl ?_
          exact g_ls (by simp only [nxF]; grind) rfl rfl ih8
        · skip
          refine g_iload 0 dX4_next_52 rfl ?_
          refine g_iload 5 dX4_next_54 rfl ?_
          refine g_icmp_le (tgt := 66) (by omega) (by omega) dX4_next_56 (by decide) (fun h56_6 => ?_) (fun h56_6 => ?_)
          · skip
            refine g_inc (ls2 := [(5, _), (6, _), (0, _), (1, _), (2, _), (3, _), (4, _)]) 6 dX4_next_66 rfl (by decide) (c1_ci (c1_cr (c1_ci (c1_ci (c1_ci (c1_ci (c1_ci c1_0))))))) rfl ?_
            refine g_goto (tgt := 8) dX4_next_69 (by decide) ?_
            refine g_sub [2, 3, 4, 5, 6, 0] (ls2 := [(0, _), (1, _), (2, _), (3, _), (4, _), (5, _)]) rfl ?_
            exact g_ls (by simp only [nxF]; grind) rfl rfl ih8
          · skip
            refine g_iload 6 dX4_next_59 rfl ?_
            refine g_st (ls2 := [(3, _), (6, _), (0, _), (1, _), (2, _), (4, _), (5, _)]) dX4_next_61 rfl (by decide) (c1_ci (c1_cr (c1_ci (c1_ci (c1_ci (c1_ci (c1_ci c1_0))))))) rfl ?_
            refine g_iload 1 dX4_next_62 rfl ?_
            refine g_st2 (ls2 := [(4, _), (3, _), (6, _), (0, _), (1, _), (2, _), (5, _)]) dX4_next_64 (by decide) (c1_ci (c1_ci (c1_cr (c1_ci (c1_ci (c1_ci (c1_ci c1_0))))))) rfl ?_
            refine g_inc (ls2 := [(5, _), (4, _), (3, _), (6, _), (0, _), (1, _), (2, _)]) 6 dX4_next_66 rfl (by decide) (c1_ci (c1_ci (c1_ci (c1_cr (c1_ci (c1_ci (c1_ci c1_0))))))) rfl ?_
            refine g_goto (tgt := 8) dX4_next_69 (by decide) ?_
            refine g_sub [4, 5, 6, 2, 1, 0] (ls2 := [(0, _), (1, _), (2, _), (3, _), (4, _), (5, _)]) rfl ?_
            exact g_ls (by simp only [nxF]; grind) rfl rfl ih8
  exact g_ls (by rfl) rfl rfl hQ8

