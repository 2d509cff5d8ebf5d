theorem gup_ap (A : Mem) (n k : Nat) (v : Int) (m j : Nat) : gup A n k v m j = if m = n ∧ j = k then v else A m j := rfl
theorem ahE_0 {A : Mem} {x p c : Int} (h : ahE A x p c = 0) : ∃ k : Nat, x = k ∧ (k : Int) < A 2 2 ∧ (0 ≤ p ∧ p < 8) ∧ (0 ≤ c ∧ c < 100) ∧ 0 < A (101 + 3 * k) p.toNat ∧ brdC A p = 0 ∧ hldC A c = k := by
  unfold ahE at h
  by_cases h1 : (0 ≤ x ∧ x < A 2 2) ∧ (0 ≤ p ∧ p < 8) ∧ 0 ≤ c ∧ c < 100
  · rw [if_pos h1] at h
    by_cases h2 : 0 < A (101 + 3 * x.toNat) p.toNat ∧ brdC A p = 0 ∧ hldC A c = x
    · exact ⟨x.toNat, by omega, by omega, h1.2.1, h1.2.2, h2.1, h2.2.1, by rw [h2.2.2]; omega⟩
    · rw [if_neg h2] at h; omega
  · rw [if_neg h1] at h; omega
theorem ahE_012 (A : Mem) (x p c : Int) : ahE A x p c = 0 ∨ ahE A x p c = 1 ∨ ahE A x p c = 2 := by
  unfold ahE; split <;> (try split) <;> simp
theorem c_X3_claimAtHand_p {L : Nat → Nat} {A : Mem} (hV : VC L A) {x p c : Int} (hx : -2147483648 ≤ x ∧ x < 2147483648) (hp : -2147483648 ≤ p ∧ p < 2147483648) (hc : -2147483648 ≤ c ∧ c < 2147483648) (he : ahE A x p c ≠ 0) : Ct mX3_claimAtHand_x [gr 0, gi x, gi p, gi c] L A (pt (if ahE A x p c = 1 then xIOE else xISE) L A) := by
  rcases ahE_012 A x p c with h | h | h
  · exact absurd h he
  · rw [if_pos h]; exact Ct_ex1 (c_X3_claimAtHand_x hV hx hp hc he) 0 h rfl
  · rw [if_neg (by omega)]; exact Ct_ex1 (c_X3_claimAtHand_x hV hx hp hc he) 1 h rfl
theorem midF_mem (h : Nat → Int) (hour : Int) (n : Nat) : midF h hour n = hour ∨ ∃ p, p < n ∧ midF h hour n = h p ∧ h p ≠ -1 := by
  induction n with
  | zero => exact Or.inl rfl
  | succ n ih =>
    simp only [midF]
    by_cases hc : h n ≠ -1 ∧ midB h (h n) = true
    · rw [if_pos hc]; exact Or.inr ⟨n, by omega, rfl, hc.1⟩
    · rw [if_neg hc]
      rcases ih with ih | ⟨p, hp, h1, h2⟩
      · exact Or.inl ih
      · exact Or.inr ⟨p, by omega, h1, h2⟩
def seamE (A : Mem) (x y z : Int) : Nat := if ¬ (0 ≤ x ∧ x < 100) then 1 else if ¬ ((1 ≤ y ∧ y ≤ 999) ∧ 0 ≤ z ∧ z ≤ 9) then 2 else if A 12 x.toNat ≠ 0 ∨ 0 < A 13 x.toNat then 3 else 0
def seamA (A : Mem) (x y z : Int) : Mem := gup (gup (gup A 13 x.toNat y) 14 x.toNat y) 15 x.toNat z
def passE (A : Mem) (x : Int) : Nat := if ¬ (1 ≤ x ∧ x ≤ 99) then 1 else if 5000 < A 0 9 + x then 2 else 0
def witE (A : Mem) (x p h : Int) : Nat := if ¬ ((0 ≤ x ∧ x < A 2 2) ∧ 0 ≤ p ∧ p < 8) then 1 else if ¬ (0 ≤ h ∧ h ≤ A 0 9) then 2 else if 0 < A (101 + 3 * x.toNat) p.toNat ∨ A (102 + 3 * x.toNat) p.toNat ≠ -1 then 3 else 0
def witV (A : Mem) (x p h : Int) : Int := midF (gup A (102 + 3 * x.toNat) p.toNat h (102 + 3 * x.toNat)) (A (100 + 3 * x.toNat) 5) 8
def witA (A : Mem) (x p h : Int) : Mem := gup (gup A (102 + 3 * x.toNat) p.toNat h) (100 + 3 * x.toNat) 5 (witV A x p h)
def parE (A : Mem) (x p t : Int) : Nat := if ¬ ((0 ≤ x ∧ x < A 2 2) ∧ 0 ≤ p ∧ p < 8) then 1 else if ¬ (1 ≤ t ∧ t ≤ 11) then 2 else if 0 < A (101 + 3 * x.toNat) p.toNat ∨ A (101 + 3 * x.toNat) (A (100 + 3 * x.toNat) 0).toNat ≤ t then 3 else 0
def parA (A : Mem) (x p t : Int) : Mem := gup (gup A (101 + 3 * x.toNat) (A (100 + 3 * x.toNat) 0).toNat (A (101 + 3 * x.toNat) (A (100 + 3 * x.toNat) 0).toNat - t)) (101 + 3 * x.toNat) p.toNat t
def proE (A : Mem) (x p c : Int) : Nat := if ahE A x p c ≠ 0 then ahE A x p c else if A 12 c.toNat ≠ 1 ∨ A 16 c.toNat ≠ 0 then 2 else 0
def trpE (A : Mem) (x p c : Int) : Nat := if ahE A x p c ≠ 0 then ahE A x p c else if A 12 c.toNat = 1 ∨ A 17 c.toNat ≠ -1 ∨ 3 ≤ trapC A x 100 then 2 else 0
def rubE (A : Mem) (x : Int) : Nat := if ¬ (0 ≤ x ∧ x < A 3 2) then 1 else if plC A x.toNat ≠ 1 ∨ lusC (A (200 + 3 * x.toNat) 5) (A (200 + 3 * x.toNat) 1) = 2 then 2 else 0
def rubA (A : Mem) (s : Nat) : Mem := gup (gup (gup A (200 + 3 * s) 3 (A (200 + 3 * s) 3 - A (200 + 3 * s) 3 / 10)) (200 + 3 * s) 4 (A (200 + 3 * s) 4 + A (200 + 3 * s) 3 / 10)) (200 + 3 * s) 5 (A (200 + 3 * s) 5 + 1)
def bidE (A : Mem) (b x y : Int) : Nat := if ¬ ((0 ≤ b ∧ b < 5) ∧ 0 ≤ x ∧ x < A 3 2) then 1 else if ¬ (1 ≤ y ∧ y ≤ 99999) then 2 else if plC A x.toNat ≠ 1 ∨ 0 < A (201 + 3 * x.toNat) b.toNat then 3 else 0
def bidA (A : Mem) (b : Int) (s : Nat) (y : Int) : Mem := gup (gup (gup A (201 + 3 * s) b.toNat y) (202 + 3 * s) b.toNat (A (200 + 3 * s) 8)) (200 + 3 * s) 8 (A (200 + 3 * s) 8 + 1)
def bstA (A : Mem) (s : Nat) : Int := bstC (A (201 + 3 * s)) (A (202 + 3 * s)) (A 9) 5
def selE (A : Mem) (x : Int) : Nat := if ¬ (0 ≤ x ∧ x < A 3 2) then 1 else if plC A x.toNat ≠ 1 ∨ bstA A x.toNat = -1 then 2 else 0
def selA (A : Mem) (s : Nat) : Mem := gup (gup (gup A (200 + 3 * s) 7 (bstA A s)) 9 (bstA A s).toNat (A 9 (bstA A s).toNat - A (201 + 3 * s) (bstA A s).toNat)) 6 (A (200 + 3 * s) 6).toNat (A 6 (A (200 + 3 * s) 6).toNat + A (201 + 3 * s) (bstA A s).toNat)
theorem plC_1 {L : Nat → Nat} {A : Mem} (h : VC L A) {s : Nat} (hs : (s : Int) < A 3 2) (hp : plC A s = 1) : A (200 + 3 * s) 7 = -1 ∧ 0 ≤ A (200 + 3 * s) 6 ∧ A (200 + 3 * s) 6 < 8 := by
  have h2 := vc_sv h hs
  have h3 := h2.2.2.2.2.2.2.1
  unfold plC plcC at hp
  split at hp
  · omega
  · split at hp <;> omega
theorem n_ne1 (s : Nat) : ¬ (200 + 3 * s = 201 + 3 * s) := by omega

set_option maxRecDepth 20000 in
theorem c_X3_seam {L : Nat → Nat} {A : Mem} (hV : VC L A) {x y z : Int} (hx : -2147483648 ≤ x ∧ x < 2147483648) (hy : -2147483648 ≤ y ∧ y < 2147483648) (hz : -2147483648 ≤ z ∧ z < 2147483648) : Ct mX3_seam [gr 0, gi x, gi y, gi z] L A (exP [xIOE, xIAE, xISE] (seamE A x y z) none L (seamA A x y z) L A) := by
  have hL := vc_L hV
  have hnc := vc_nc hV; have hns := vc_ns hV; have hp0 := (vc_p hV).1
  refine Ct_of (ls := [(0, _), (1, _), (2, _), (3, _)]) rfl (by decide) (fun _ => rfl) (fun _ => Nat.le_of_ble_eq_true rfl) ?_
  refine g_iload_n 1 dX3_seam_0 rfl rfl ?_
  by_cases hs1 : 0 ≤ x ∧ x < 100
  · skip
    refine g_cS_v (My := mX3_needCell) (gs := [_]) (c_X3_needCell hx hs1) mfX3_needCell rfl wst_X3_needCell wm_X3_51 dX3_seam_1 (Nat.le_of_ble_eq_true rfl) rfl (fun _ => Nat.le_of_ble_eq_true rfl) (Nat.le_of_ble_eq_true rfl) (Nat.le_of_ble_eq_true rfl) rfl rfl ?_
    refine g_iload_n 2 dX3_seam_4 rfl rfl ?_
    refine g_iconst dX3_seam_5 ?_
    refine g_sipush dX3_seam_6 (by decide) ?_
    by_cases hs9 : 1 ≤ y ∧ y ≤ 999
    · skip
      refine g_cS_v (My := mX3_needRange) (gs := [_, _, _]) (c_X3_needRange (x := y) (y := 1) (z := 999) (by omega) (by omega) (by omega) hs9) mfX3_needRange rfl wst_X3_needRange wm_X3_55 dX3_seam_9 (Nat.le_of_ble_eq_true rfl) rfl (fun _ => Nat.le_of_ble_eq_true rfl) (Nat.le_of_ble_eq_true rfl) (Nat.le_of_ble_eq_true rfl) rfl rfl ?_
      refine g_iload_n 3 dX3_seam_12 rfl rfl ?_
      refine g_iconst dX3_seam_13 ?_
      refine g_bipush dX3_seam_14 (by decide) ?_
      by_cases hs16 : 0 ≤ z ∧ z ≤ 9
      · skip
        refine g_cS_v (My := mX3_needRange) (gs := [_, _, _]) (c_X3_needRange (x := z) (y := 0) (z := 9) (by omega) (by omega) (by omega) hs16) mfX3_needRange rfl wst_X3_needRange wm_X3_55 dX3_seam_16 (Nat.le_of_ble_eq_true rfl) rfl (fun _ => Nat.le_of_ble_eq_true rfl) (Nat.le_of_ble_eq_true rfl) (Nat.le_of_ble_eq_true rfl) rfl rfl ?_
        refine g_aload_n 0 dX3_seam_19 rfl rfl ?_
        refine g_getfr2 (r := 1) cf_4 0 rfl (by decide) (by decide) rfl (by decide) wf_X3_12 dX3_seam_20 (hL 0 rfl) rfl ?_
        refine g_getfr2 (r := 12) cf_2 0 rfl (by decide) (by decide) rfl (by decide) wf_X3_59 dX3_seam_23 (hL 1 rfl) rfl ?_
        refine g_iload_n 1 dX3_seam_26 rfl rfl ?_
        refine g_ia (by omega) (by omega) rfl (by decide) dX3_seam_27 (n2 (hL 12 rfl)) (fun h27_1 => ?_)
        refine g_if_eq (tgt := 41) (by omega) dX3_seam_28 (by decide) (fun h28_2 => ?_) (fun h28_2 => ?_)
        · skip
          refine g_aload_n 0 dX3_seam_41 rfl rfl ?_
          refine g_getfr2 (r := 1) cf_4 0 rfl (by decide) (by decide) rfl (by decide) wf_X3_12 dX3_seam_42 (hL 0 rfl) rfl ?_
          refine g_getfr2 (r := 13) cf_2 1 rfl (by decide) (by decide) rfl (by decide) wf_X3_69 dX3_seam_45 (hL 1 rfl) rfl ?_
          refine g_iload_n 1 dX3_seam_48 rfl rfl ?_
          refine g_ia (by omega) (by omega) rfl (by decide) dX3_seam_49 (n2 (hL 13 rfl)) (fun h49_3 => ?_)
          refine g_if_le (tgt := 63) (by omega) dX3_seam_50 (by decide) (fun h50_4 => ?_) (fun h50_4 => ?_)
          · skip
            refine g_aload_n 0 dX3_seam_63 rfl rfl ?_
            refine g_getfr2 (r := 1) cf_4 0 rfl (by decide) (by decide) rfl (by decide) wf_X3_12 dX3_seam_64 (hL 0 rfl) rfl ?_
            refine g_getfr2 (r := 13) cf_2 1 rfl (by decide) (by decide) rfl (by decide) wf_X3_69 dX3_seam_67 (hL 1 rfl) rfl ?_
            refine g_iload_n 1 dX3_seam_70 rfl rfl ?_
            refine g_iload_n 2 dX3_seam_71 rfl rfl ?_
            refine g_is (by omega) (by omega) (by omega) rfl (by decide) dX3_seam_72 (n2 (hL 13 rfl)) ?_
            refine g_aload_n 0 dX3_seam_73 rfl rfl ?_
            refine g_getfr2 (r := 1) cf_4 0 rfl (by decide) (by decide) rfl (by decide) wf_X3_12 dX3_seam_74 (hL 0 rfl) rfl ?_
            refine g_getfr2 (r := 14) cf_2 2 rfl (by decide) (by decide) rfl (by decide) wf_X3_74 dX3_seam_77 (hL 1 rfl) rfl ?_
            refine g_iload_n 1 dX3_seam_80 rfl rfl ?_
            refine g_iload_n 2 dX3_seam_81 rfl rfl ?_
            refine g_is (by omega) (by omega) (by omega) rfl (by decide) dX3_seam_82 (n2 (hL 14 rfl)) ?_
            refine g_aload_n 0 dX3_seam_83 rfl rfl ?_
            refine g_getfr2 (r := 1) cf_4 0 rfl (by decide) (by decide) rfl (by decide) wf_X3_12 dX3_seam_84 (hL 0 rfl) rfl ?_
            refine g_getfr2 (r := 15) cf_2 3 rfl (by decide) (by decide) rfl (by decide) wf_X3_77 dX3_seam_87 (hL 1 rfl) rfl ?_
            refine g_iload_n 1 dX3_seam_90 rfl rfl ?_
            refine g_iload_n 3 dX3_seam_91 rfl rfl ?_
            refine g_is (by omega) (by omega) (by omega) rfl (by decide) dX3_seam_92 (n2 (hL 15 rfl)) ?_
            exact g_vret dX3_seam_93 rfl (Nat.le_of_ble_eq_true rfl) (Nat.le_of_ble_eq_true rfl) (ex_ok (by unfold seamE; grind) rfl rfl (rfl))
          · skip
            exact g_throw thX3_seam_53 (Nat.le_of_ble_eq_true rfl) (Nat.le_of_ble_eq_true rfl) (by decide) (ex_th 2 (by unfold seamE; grind) rfl)
        · skip
          exact g_throw thX3_seam_31 (Nat.le_of_ble_eq_true rfl) (Nat.le_of_ble_eq_true rfl) (by decide) (ex_th 2 (by unfold seamE; grind) rfl)
      · skip
        exact g_cS_t (My := mX3_needRange_x) (gs := [_, _, _]) (c_X3_needRange_x (x := z) (y := 0) (z := 9) (by omega) (by omega) (by omega) hs16) mfX3_needRange_x rfl wst_X3_needRange wm_X3_55 dX3_seam_16 (Nat.le_of_ble_eq_true rfl) rfl (fun _ => Nat.le_of_ble_eq_true rfl) (Nat.le_of_ble_eq_true rfl) (Nat.le_of_ble_eq_true rfl) rfl rfl rfl (ex_th 1 (by unfold seamE; grind) rfl)
    · skip
      exact g_cS_t (My := mX3_needRange_x) (gs := [_, _, _]) (c_X3_needRange_x (x := y) (y := 1) (z := 999) (by omega) (by omega) (by omega) hs9) mfX3_needRange_x rfl wst_X3_needRange wm_X3_55 dX3_seam_9 (Nat.le_of_ble_eq_true rfl) rfl (fun _ => Nat.le_of_ble_eq_true rfl) (Nat.le_of_ble_eq_true rfl) (Nat.le_of_ble_eq_true rfl) rfl rfl rfl (ex_th 1 (by unfold seamE; grind) rfl)
  · skip
    exact g_cS_t (My := mX3_needCell_x) (gs := [_]) (c_X3_needCell_x hx hs1) mfX3_needCell_x rfl wst_X3_needCell wm_X3_51 dX3_seam_1 (Nat.le_of_ble_eq_true rfl) rfl (fun _ => Nat.le_of_ble_eq_true rfl) (Nat.le_of_ble_eq_true rfl) (Nat.le_of_ble_eq_true rfl) rfl rfl rfl (ex_th 0 (by unfold seamE; grind) rfl)

set_option maxRecDepth 20000 in
theorem c_X3_pass {L : Nat → Nat} {A : Mem} (hV : VC L A) {x : Int} (hx : -2147483648 ≤ x ∧ x < 2147483648) : Ct mX3_pass [gr 0, gi x] L A (exP [xIAE, xISE] (passE A x) (some (gi (A 0 9 + x))) L (gup A 0 9 (A 0 9 + x)) L A) := by
  have hL := vc_L hV
  have hnc := vc_nc hV; have hns := vc_ns hV; have hp0 := (vc_p hV).1
  refine Ct_of (ls := [(0, _), (1, _)]) rfl (by decide) (fun _ => rfl) (fun _ => Nat.le_of_ble_eq_true rfl) ?_
  refine g_iload_n 1 dX3_pass_0 rfl rfl ?_
  refine g_iconst dX3_pass_1 ?_
  refine g_bipush dX3_pass_2 (by decide) ?_
  by_cases hs4 : 1 ≤ x ∧ x ≤ 99
  · skip
    refine g_cS_v (My := mX3_needRange) (gs := [_, _, _]) (c_X3_needRange (x := x) (y := 1) (z := 99) (by omega) (by omega) (by omega) hs4) mfX3_needRange rfl wst_X3_needRange wm_X3_55 dX3_pass_4 (Nat.le_of_ble_eq_true rfl) rfl (fun _ => Nat.le_of_ble_eq_true rfl) (Nat.le_of_ble_eq_true rfl) (Nat.le_of_ble_eq_true rfl) rfl rfl ?_
    refine g_aload_n 0 dX3_pass_7 rfl rfl ?_
    refine g_getfi cf_4 9 rfl (by decide) (by decide) rfl (by decide) wf_X3_80 dX3_pass_8 (n2 (hL 0 rfl)) (fun h8_1 => ?_)
    refine g_iload_n 1 dX3_pass_11 rfl rfl ?_
    refine g_iadd dX3_pass_12 ?_
    refine g_sipush dX3_pass_13 (by decide) ?_
    refine g_icmp_le (tgt := 29) (by omega) (by omega) dX3_pass_16 (by decide) (fun h16_2 => ?_) (fun h16_2 => ?_)
    · skip
      refine g_aload_n 0 dX3_pass_29 rfl rfl ?_
      refine g_dup dX3_pass_30 (c1_r _) ?_
      refine g_getfi cf_4 9 rfl (by decide) (by decide) rfl (by decide) wf_X3_80 dX3_pass_31 (n2 (hL 0 rfl)) (fun h31_3 => ?_)
      refine g_iload_n 1 dX3_pass_34 rfl rfl ?_
      refine g_iadd dX3_pass_35 ?_
      refine g_putfi cf_4 9 rfl (by decide) (by decide) rfl (by decide) wf_X3_80 (Or.inl rfl) rfl dX3_pass_36 (n2 (hL 0 rfl)) (by omega) ?_
      refine g_aload_n 0 dX3_pass_39 rfl rfl ?_
      refine g_getfi cf_4 9 rfl (by decide) (by decide) rfl (by decide) wf_X3_80 dX3_pass_40 (n2 (hL 0 rfl)) (fun h40_4 => ?_)
      exact g_iret dX3_pass_43 rfl (Nat.le_of_ble_eq_true rfl) (Nat.le_of_ble_eq_true rfl) (ex_ok (by unfold passE; grind) (congrArg (fun z => some (gi z)) (by simp [gup_ap])) rfl (rfl))
    · skip
      exact g_throw thX3_pass_19 (Nat.le_of_ble_eq_true rfl) (Nat.le_of_ble_eq_true rfl) (by decide) (ex_th 1 (by unfold passE; grind) rfl)
  · skip
    exact g_cS_t (My := mX3_needRange_x) (gs := [_, _, _]) (c_X3_needRange_x (x := x) (y := 1) (z := 99) (by omega) (by omega) (by omega) hs4) mfX3_needRange_x rfl wst_X3_needRange wm_X3_55 dX3_pass_4 (Nat.le_of_ble_eq_true rfl) rfl (fun _ => Nat.le_of_ble_eq_true rfl) (Nat.le_of_ble_eq_true rfl) (Nat.le_of_ble_eq_true rfl) rfl rfl rfl (ex_th 0 (by unfold passE; grind) rfl)

set_option maxHeartbeats 1000000 in
set_option maxRecDepth 20000 in
theorem c_X3_witness {L : Nat → Nat} {A : Mem} (hV : VC L A) {x p h : Int} (hx : -2147483648 ≤ x ∧ x < 2147483648) (hp : -2147483648 ≤ p ∧ p < 2147483648) (hh : -2147483648 ≤ h ∧ h < 2147483648) : Ct mX3_witness [gr 0, gi x, gi p, gi h] L A (exP [xIOE, xIAE, xISE] (witE A x p h) (some (gi (witV A x p h))) L (witA A x p h) L A) := by
  have hL := vc_L hV
  have hnc := vc_nc hV; have hns := vc_ns hV; have hp0 := (vc_p hV).1
  refine Ct_of (ls := [(0, _), (1, _), (2, _), (3, _)]) rfl (by decide) (fun _ => rfl) (fun _ => Nat.le_of_ble_eq_true rfl) ?_
  refine g_aload_n 0 dX3_witness_0 rfl rfl ?_
  refine g_iload_n 1 dX3_witness_1 rfl rfl ?_
  by_cases hs2 : 0 ≤ x ∧ x < A 2 2
  · skip
    obtain ⟨k, rfl⟩ : ∃ k : Nat, x = k := ⟨x.toNat, by omega⟩
    have hk : (k : Int) < A 2 2 := by omega
    refine g_cV_i (My := mX3_claimAt) (gs := [_]) (c_X3_claimAt hV hk) mfX3_claimAt cf_4 wi_X3_claimAt wsl_X3_claimAt wm_X3_112 dX3_witness_2 (Nat.le_of_ble_eq_true rfl) rfl (by decide) (n2 (hL 0 rfl)) rfl (fun _ => Nat.le_of_ble_eq_true rfl) (Nat.le_of_ble_eq_true rfl) (Nat.le_of_ble_eq_true rfl) rfl rfl ?_
    refine g_sa2 (ls2 := [(4, _), (0, _), (1, _), (2, _), (3, _)]) dX3_witness_5 (by decide) (c1_cr (c1_ci (c1_ci (c1_ci c1_0)))) rfl ?_
    refine g_iload_n 3 dX3_witness_7 rfl rfl ?_
    by_cases hs8 : 0 ≤ p ∧ p < 8
    · skip
      refine g_cS_v (My := mX3_needPerson) (gs := [_]) (c_X3_needPerson hp hs8) mfX3_needPerson rfl wst_X3_needPerson wm_X3_86 dX3_witness_8 (Nat.le_of_ble_eq_true rfl) rfl (fun _ => Nat.le_of_ble_eq_true rfl) (Nat.le_of_ble_eq_true rfl) (Nat.le_of_ble_eq_true rfl) rfl rfl ?_
      refine g_iload_n 4 dX3_witness_11 rfl rfl ?_
      refine g_iconst dX3_witness_12 ?_
      refine g_aload_n 1 dX3_witness_13 rfl rfl ?_
      refine g_getfi cf_4 9 rfl (by decide) (by decide) rfl (by decide) wf_X3_80 dX3_witness_14 (n2 (hL 0 rfl)) (fun h14_1 => ?_)
      by_cases hs17 : 0 ≤ h ∧ h ≤ A 0 9
      · skip
        refine g_cS_v (My := mX3_needRange) (gs := [_, _, _]) (c_X3_needRange (x := h) (y := 0) (z := A 0 9) (by omega) (by omega) (by omega) hs17) mfX3_needRange rfl wst_X3_needRange wm_X3_55 dX3_witness_17 (Nat.le_of_ble_eq_true rfl) rfl (fun _ => Nat.le_of_ble_eq_true rfl) (Nat.le_of_ble_eq_true rfl) (Nat.le_of_ble_eq_true rfl) rfl rfl ?_
        refine g_aload 0 dX3_witness_20 rfl ?_
        refine g_iload_n 3 dX3_witness_22 rfl rfl ?_
        refine g_cV_i (My := mX0_isOfPeople) (gs := [_]) (c_X0_isOfPeople (vc_k hV hk) (vc_c hV hk) hs8) mfX0_isOfPeople cf_1 wi_X0_isOfPeople wsl_X0_isOfPeople wm_X3_116 dX3_witness_23 (Nat.le_of_ble_eq_true rfl) (ly_c0 (vc_k hV hk)) (by decide) (n2 (vc_c hV hk).1) rfl (fun _ => Nat.le_of_ble_eq_true rfl) (Nat.le_of_ble_eq_true rfl) (Nat.le_of_ble_eq_true rfl) rfl rfl ?_
        refine g_ifb_eq (tgt := 39) dX3_witness_26 (by decide) (fun h26_2 => ?_) (fun h26_2 => ?_)
        · skip
          refine g_aload 0 dX3_witness_39 rfl ?_
          refine g_getfr2 (r := 102 + 3 * k) cf_1 9 (ly_c0 (vc_k hV hk)) (by decide) (by decide) rfl (by decide) wf_X3_122 dX3_witness_41 (vc_c hV hk).1 (rfn_c9 k) ?_
          refine g_iload_n 3 dX3_witness_44 rfl rfl ?_
          refine g_ia (by omega) (by omega) (ly_c2 (vc_k hV hk)) (by decide) dX3_witness_45 (n2 (vc_c hV hk).2.2) (fun h45_3 => ?_)
          refine g_iconst dX3_witness_46 ?_
          refine g_icmp_eq (tgt := 60) (by omega) (by omega) dX3_witness_47 (by decide) (fun h47_4 => ?_) (fun h47_4 => ?_)
          · skip
            refine g_aload 0 dX3_witness_60 rfl ?_
            refine g_getfr2 (r := 102 + 3 * k) cf_1 9 (ly_c0 (vc_k hV hk)) (by decide) (by decide) rfl (by decide) wf_X3_122 dX3_witness_62 (vc_c hV hk).1 (rfn_c9 k) ?_
            refine g_iload_n 3 dX3_witness_65 rfl rfl ?_
            refine g_iload_n 4 dX3_witness_66 rfl rfl ?_
            refine g_is (by omega) (by omega) (by omega) (ly_c2 (vc_k hV hk)) (by decide) dX3_witness_67 (n2 (vc_c hV hk).2.2) ?_
            refine g_aload 0 dX3_witness_68 rfl ?_
            refine g_aload 0 dX3_witness_70 rfl ?_
            refine g_cV_i (My := mX0_middleHourTold) (gs := []) (c_X0_middleHourTold (A := gup A (102 + 3 * k) p.toNat h) (vc_k hV hk) (vc_c hV hk)) mfX0_middleHourTold cf_1 wi_X0_middleHourTold wsl_X0_middleHourTold wm_X3_127 dX3_witness_72 (Nat.le_of_ble_eq_true rfl) (ly_c0 (vc_k hV hk)) (by decide) (n2 (vc_c hV hk).1) rfl (fun _ => Nat.le_of_ble_eq_true rfl) (Nat.le_of_ble_eq_true rfl) (Nat.le_of_ble_eq_true rfl) rfl rfl ?_
            have hcv := vc_cv hV hk
            have e5 : gup A (102 + 3 * k) p.toNat h (100 + 3 * k) 5 = A (100 + 3 * k) 5 := by rw [gup_ap, if_neg (by omega)]
            rw [e5]
            have hmr : -2147483648 ≤ midF (gup A (102 + 3 * k) p.toNat h (102 + 3 * k)) (A (100 + 3 * k) 5) 8 ∧ midF (gup A (102 + 3 * k) p.toNat h (102 + 3 * k)) (A (100 + 3 * k) 5) 8 < 2147483648 := by (rcases midF_mem (gup A (102 + 3 * k) p.toNat h (102 + 3 * k)) (A (100 + 3 * k) 5) 8 with e | ⟨q, _, e, _⟩; (have := hcv.2.2.1; omega); (rw [e, gup_ap]; have := hcv.2.2.2.2.2.2 q; split <;> omega))
            refine g_putfi cf_1 5 (ly_c0 (vc_k hV hk)) (by decide) (by decide) rfl (by decide) wf_X3_130 (Or.inl rfl) rfl dX3_witness_75 (n2 (vc_c hV hk).1) (by omega) ?_
            refine g_aload 0 dX3_witness_78 rfl ?_
            refine g_getfi cf_1 5 (ly_c0 (vc_k hV hk)) (by decide) (by decide) rfl (by decide) wf_X3_130 dX3_witness_80 (n2 (vc_c hV hk).1) (fun h80_5 => ?_)
            exact g_iret dX3_witness_83 rfl (Nat.le_of_ble_eq_true rfl) (Nat.le_of_ble_eq_true rfl) (ex_ok (by unfold witE; grind) (congrArg (fun z => some (gi z)) (by rw [gup_ap, if_pos ⟨rfl, rfl⟩]; simp [witV])) rfl (by simp [witA, witV]))
          · skip
            exact g_throw thX3_witness_50 (Nat.le_of_ble_eq_true rfl) (Nat.le_of_ble_eq_true rfl) (by decide) (ex_th 2 (by unfold witE; grind) rfl)
        · skip
          exact g_throw thX3_witness_29 (Nat.le_of_ble_eq_true rfl) (Nat.le_of_ble_eq_true rfl) (by decide) (ex_th 2 (by unfold witE; grind) rfl)
      · skip
        exact g_cS_t (My := mX3_needRange_x) (gs := [_, _, _]) (c_X3_needRange_x (x := h) (y := 0) (z := A 0 9) (by omega) (by omega) (by omega) hs17) mfX3_needRange_x rfl wst_X3_needRange wm_X3_55 dX3_witness_17 (Nat.le_of_ble_eq_true rfl) rfl (fun _ => Nat.le_of_ble_eq_true rfl) (Nat.le_of_ble_eq_true rfl) (Nat.le_of_ble_eq_true rfl) rfl rfl rfl (ex_th 1 (by unfold witE; grind) rfl)
    · skip
      exact g_cS_t (My := mX3_needPerson_x) (gs := [_]) (c_X3_needPerson_x hp hs8) mfX3_needPerson_x rfl wst_X3_needPerson wm_X3_86 dX3_witness_8 (Nat.le_of_ble_eq_true rfl) rfl (fun _ => Nat.le_of_ble_eq_true rfl) (Nat.le_of_ble_eq_true rfl) (Nat.le_of_ble_eq_true rfl) rfl rfl rfl (ex_th 0 (by unfold witE; grind) rfl)
  · skip
    exact g_cV_t (My := mX3_claimAt_x) (gs := [_]) (c_X3_claimAt_x hV hx hs2) mfX3_claimAt_x cf_4 wi_X3_claimAt wsl_X3_claimAt wm_X3_112 dX3_witness_2 (Nat.le_of_ble_eq_true rfl) rfl (by decide) (n2 (hL 0 rfl)) rfl (fun _ => Nat.le_of_ble_eq_true rfl) (Nat.le_of_ble_eq_true rfl) (Nat.le_of_ble_eq_true rfl) rfl rfl rfl (ex_th 0 (by unfold witE; grind) rfl)

set_option maxHeartbeats 1000000 in
set_option maxRecDepth 20000 in
theorem c_X3_partner {L : Nat → Nat} {A : Mem} (hV : VC L A) {x p t : Int} (hx : -2147483648 ≤ x ∧ x < 2147483648) (hp : -2147483648 ≤ p ∧ p < 2147483648) (ht : -2147483648 ≤ t ∧ t < 2147483648) : Ct mX3_partner [gr 0, gi x, gi p, gi t] L A (exP [xIOE, xIAE, xISE] (parE A x p t) (some (gi (parA A x p t (101 + 3 * x.toNat) (A (100 + 3 * x.toNat) 0).toNat))) L (parA A x p t) L A) := by
  have hL := vc_L hV
  have hnc := vc_nc hV; have hns := vc_ns hV; have hp0 := (vc_p hV).1
  refine Ct_of (ls := [(0, _), (1, _), (2, _), (3, _)]) rfl (by decide) (fun _ => rfl) (fun _ => Nat.le_of_ble_eq_true rfl) ?_
  refine g_aload_n 0 dX3_partner_0 rfl rfl ?_
  refine g_iload_n 1 dX3_partner_1 rfl rfl ?_
  by_cases hs2 : 0 ≤ x ∧ x < A 2 2
  · skip
    obtain ⟨k, rfl⟩ : ∃ k : Nat, x = k := ⟨x.toNat, by omega⟩
    have hk : (k : Int) < A 2 2 := by omega
    refine g_cV_i (My := mX3_claimAt) (gs := [_]) (c_X3_claimAt hV hk) mfX3_claimAt cf_4 wi_X3_claimAt wsl_X3_claimAt wm_X3_112 dX3_partner_2 (Nat.le_of_ble_eq_true rfl) rfl (by decide) (n2 (hL 0 rfl)) rfl (fun _ => Nat.le_of_ble_eq_true rfl) (Nat.le_of_ble_eq_true rfl) (Nat.le_of_ble_eq_true rfl) rfl rfl ?_
    refine g_sa2 (ls2 := [(4, _), (0, _), (1, _), (2, _), (3, _)]) dX3_partner_5 (by decide) (c1_cr (c1_ci (c1_ci (c1_ci c1_0)))) rfl ?_
    refine g_iload_n 3 dX3_partner_7 rfl rfl ?_
    by_cases hs8 : 0 ≤ p ∧ p < 8
    · skip
      refine g_cS_v (My := mX3_needPerson) (gs := [_]) (c_X3_needPerson hp hs8) mfX3_needPerson rfl wst_X3_needPerson wm_X3_86 dX3_partner_8 (Nat.le_of_ble_eq_true rfl) rfl (fun _ => Nat.le_of_ble_eq_true rfl) (Nat.le_of_ble_eq_true rfl) (Nat.le_of_ble_eq_true rfl) rfl rfl ?_
      refine g_iload_n 4 dX3_partner_11 rfl rfl ?_
      refine g_iconst dX3_partner_12 ?_
      refine g_bipush dX3_partner_13 (by decide) ?_
      by_cases hs15 : 1 ≤ t ∧ t ≤ 11
      · skip
        refine g_cS_v (My := mX3_needRange) (gs := [_, _, _]) (c_X3_needRange (x := t) (y := 1) (z := 11) (by omega) (by omega) (by omega) hs15) mfX3_needRange rfl wst_X3_needRange wm_X3_55 dX3_partner_15 (Nat.le_of_ble_eq_true rfl) rfl (fun _ => Nat.le_of_ble_eq_true rfl) (Nat.le_of_ble_eq_true rfl) (Nat.le_of_ble_eq_true rfl) rfl rfl ?_
        refine g_aload 0 dX3_partner_18 rfl ?_
        refine g_iload_n 3 dX3_partner_20 rfl rfl ?_
        refine g_cV_i (My := mX0_isOfPeople) (gs := [_]) (c_X0_isOfPeople (vc_k hV hk) (vc_c hV hk) hs8) mfX0_isOfPeople cf_1 wi_X0_isOfPeople wsl_X0_isOfPeople wm_X3_116 dX3_partner_21 (Nat.le_of_ble_eq_true rfl) (ly_c0 (vc_k hV hk)) (by decide) (n2 (vc_c hV hk).1) rfl (fun _ => Nat.le_of_ble_eq_true rfl) (Nat.le_of_ble_eq_true rfl) (Nat.le_of_ble_eq_true rfl) rfl rfl ?_
        refine g_ifb_eq (tgt := 37) dX3_partner_24 (by decide) (fun h24_1 => ?_) (fun h24_1 => ?_)
        · skip
          have hcv := vc_cv hV hk
          have hco := hcv.1
          refine g_aload 0 dX3_partner_37 rfl ?_
          refine g_getfr2 (r := 101 + 3 * k) cf_1 8 (ly_c0 (vc_k hV hk)) (by decide) (by decide) rfl (by decide) wf_X3_133 dX3_partner_39 (vc_c hV hk).1 (rfn_c8 k) ?_
          refine g_aload 0 dX3_partner_42 rfl ?_
          refine g_getfi cf_1 0 (ly_c0 (vc_k hV hk)) (by decide) (by decide) rfl (by decide) wf_X3_136 dX3_partner_44 (n2 (vc_c hV hk).1) (fun h44_2 => ?_)
          refine g_ia (by omega) (by omega) (ly_c1 (vc_k hV hk)) (by decide) dX3_partner_47 (n2 (vc_c hV hk).2.1) (fun h47_3 => ?_)
          refine g_iload_n 4 dX3_partner_48 rfl rfl ?_
          refine g_icmp_gt (tgt := 62) (by omega) (by omega) dX3_partner_49 (by decide) (fun h49_4 => ?_) (fun h49_4 => ?_)
          · skip
            refine g_aload 0 dX3_partner_62 rfl ?_
            refine g_getfr2 (r := 101 + 3 * k) cf_1 8 (ly_c0 (vc_k hV hk)) (by decide) (by decide) rfl (by decide) wf_X3_133 dX3_partner_64 (vc_c hV hk).1 (rfn_c8 k) ?_
            refine g_aload 0 dX3_partner_67 rfl ?_
            refine g_getfi cf_1 0 (ly_c0 (vc_k hV hk)) (by decide) (by decide) rfl (by decide) wf_X3_136 dX3_partner_69 (n2 (vc_c hV hk).1) (fun h69_5 => ?_)
            refine g_dup2 dX3_partner_72 (c1_i _) (c1_r _) ?_
            refine g_ia (by omega) (by omega) (ly_c1 (vc_k hV hk)) (by decide) dX3_partner_73 (n2 (vc_c hV hk).2.1) (fun h73_6 => ?_)
            refine g_iload_n 4 dX3_partner_74 rfl rfl ?_
            refine g_isub dX3_partner_75 ?_
            refine g_is (by omega) (by omega) (by omega) (ly_c1 (vc_k hV hk)) (by decide) dX3_partner_76 (n2 (vc_c hV hk).2.1) ?_
            refine g_aload 0 dX3_partner_77 rfl ?_
            refine g_getfr2 (r := 101 + 3 * k) cf_1 8 (ly_c0 (vc_k hV hk)) (by decide) (by decide) rfl (by decide) wf_X3_133 dX3_partner_79 (vc_c hV hk).1 (rfn_c8 k) ?_
            refine g_iload_n 3 dX3_partner_82 rfl rfl ?_
            refine g_iload_n 4 dX3_partner_83 rfl rfl ?_
            refine g_is (by omega) (by omega) (by omega) (ly_c1 (vc_k hV hk)) (by decide) dX3_partner_84 (n2 (vc_c hV hk).2.1) ?_
            refine g_aload 0 dX3_partner_85 rfl ?_
            refine g_getfr2 (r := 101 + 3 * k) cf_1 8 (ly_c0 (vc_k hV hk)) (by decide) (by decide) rfl (by decide) wf_X3_133 dX3_partner_87 (vc_c hV hk).1 (rfn_c8 k) ?_
            have hz9 := hcv.1
            refine g_aload 0 dX3_partner_90 rfl ?_
            refine g_getfi cf_1 0 (ly_c0 (vc_k hV hk)) (by decide) (by decide) rfl (by decide) wf_X3_136 dX3_partner_92 (n2 (vc_c hV hk).1) (fun h92_7 => ?_)
            refine g_top (y := A (100 + 3 * k) 0) (by rw [gup_ap, if_neg (by omega), gup_ap, if_neg (by omega)]) ?_
            refine g_ia (by omega) (by omega) (ly_c1 (vc_k hV hk)) (by decide) dX3_partner_95 (n2 (vc_c hV hk).2.1) (fun h95_8 => ?_)
            exact g_iret dX3_partner_96 rfl (Nat.le_of_ble_eq_true rfl) (Nat.le_of_ble_eq_true rfl) (ex_ok (by unfold parE; grind) (congrArg (fun z => some (gi z)) (by simp [parA])) rfl (by simp [parA]))
          · skip
            exact g_throw thX3_partner_52 (Nat.le_of_ble_eq_true rfl) (Nat.le_of_ble_eq_true rfl) (by decide) (ex_th 2 (by unfold parE; grind) rfl)
        · skip
          exact g_throw thX3_partner_27 (Nat.le_of_ble_eq_true rfl) (Nat.le_of_ble_eq_true rfl) (by decide) (ex_th 2 (by unfold parE; grind) rfl)
      · skip
        exact g_cS_t (My := mX3_needRange_x) (gs := [_, _, _]) (c_X3_needRange_x (x := t) (y := 1) (z := 11) (by omega) (by omega) (by omega) hs15) mfX3_needRange_x rfl wst_X3_needRange wm_X3_55 dX3_partner_15 (Nat.le_of_ble_eq_true rfl) rfl (fun _ => Nat.le_of_ble_eq_true rfl) (Nat.le_of_ble_eq_true rfl) (Nat.le_of_ble_eq_true rfl) rfl rfl rfl (ex_th 1 (by unfold parE; grind) rfl)
    · skip
      exact g_cS_t (My := mX3_needPerson_x) (gs := [_]) (c_X3_needPerson_x hp hs8) mfX3_needPerson_x rfl wst_X3_needPerson wm_X3_86 dX3_partner_8 (Nat.le_of_ble_eq_true rfl) rfl (fun _ => Nat.le_of_ble_eq_true rfl) (Nat.le_of_ble_eq_true rfl) (Nat.le_of_ble_eq_true rfl) rfl rfl rfl (ex_th 0 (by unfold parE; grind) rfl)
  · skip
    exact g_cV_t (My := mX3_claimAt_x) (gs := [_]) (c_X3_claimAt_x hV hx hs2) mfX3_claimAt_x cf_4 wi_X3_claimAt wsl_X3_claimAt wm_X3_112 dX3_partner_2 (Nat.le_of_ble_eq_true rfl) rfl (by decide) (n2 (hL 0 rfl)) rfl (fun _ => Nat.le_of_ble_eq_true rfl) (Nat.le_of_ble_eq_true rfl) (Nat.le_of_ble_eq_true rfl) rfl rfl rfl (ex_th 0 (by unfold parE; grind) rfl)

set_option maxRecDepth 20000 in
theorem c_X3_prop {L : Nat → Nat} {A : Mem} (hV : VC L A) {x p c : Int} (hx : -2147483648 ≤ x ∧ x < 2147483648) (hp : -2147483648 ≤ p ∧ p < 2147483648) (hc : -2147483648 ≤ c ∧ c < 2147483648) : Ct mX3_prop [gr 0, gi x, gi p, gi c] L A (exP [xIOE, xISE] (proE A x p c) none L (gup A 16 c.toNat 1) L A) := by
  have hL := vc_L hV
  have hnc := vc_nc hV; have hns := vc_ns hV; have hp0 := (vc_p hV).1
  refine Ct_of (ls := [(0, _), (1, _), (2, _), (3, _)]) rfl (by decide) (fun _ => rfl) (fun _ => Nat.le_of_ble_eq_true rfl) ?_
  refine g_aload_n 0 dX3_prop_0 rfl rfl ?_
  refine g_iload_n 1 dX3_prop_1 rfl rfl ?_
  refine g_iload_n 2 dX3_prop_2 rfl rfl ?_
  refine g_iload_n 3 dX3_prop_3 rfl rfl ?_
  by_cases hs4 : ahE A x p c = 0
  · skip
    have hs4z := hs4
    obtain ⟨k, rfl, hk, hp1, hc1, hk1, hk2, hk3⟩ := ahE_0 hs4
    refine g_cV_i (My := mX3_claimAtHand) (gs := [_, _, _]) (c_X3_claimAtHand hV hk hp1 hc1 hk1 hk2 hk3) mfX3_claimAtHand cf_4 wi_X3_claimAtHand wsl_X3_claimAtHand wm_X3_141 dX3_prop_4 (Nat.le_of_ble_eq_true rfl) rfl (by decide) (n2 (hL 0 rfl)) rfl (fun _ => Nat.le_of_ble_eq_true rfl) (Nat.le_of_ble_eq_true rfl) (Nat.le_of_ble_eq_true rfl) rfl rfl ?_
    refine g_pop dX3_prop_7 (c1_r _) ?_
    refine g_aload_n 0 dX3_prop_8 rfl rfl ?_
    refine g_getfr2 (r := 1) cf_4 0 rfl (by decide) (by decide) rfl (by decide) wf_X3_12 dX3_prop_9 (hL 0 rfl) rfl ?_
    refine g_iload_n 3 dX3_prop_12 rfl rfl ?_
    refine g_cV_i (My := mX1_isOpen) (gs := [_]) (c_X1_isOpen hL hc) mfX1_isOpen cf_2 wi_X1_isOpen wsl_X1_isOpen wm_X3_154 dX3_prop_13 (Nat.le_of_ble_eq_true rfl) rfl (by decide) (n2 (hL 1 rfl)) rfl (fun _ => Nat.le_of_ble_eq_true rfl) (Nat.le_of_ble_eq_true rfl) (Nat.le_of_ble_eq_true rfl) rfl rfl ?_
    refine g_ifb_ne (tgt := 29) dX3_prop_16 (by decide) (fun h16_1 => ?_) (fun h16_1 => ?_)
    · skip
      simp only [opB, decide_eq_true_eq] at *
      refine g_aload_n 0 dX3_prop_29 rfl rfl ?_
      refine g_getfr2 (r := 1) cf_4 0 rfl (by decide) (by decide) rfl (by decide) wf_X3_12 dX3_prop_30 (hL 0 rfl) rfl ?_
      refine g_getfr2 (r := 16) cf_2 4 rfl (by decide) (by decide) rfl (by decide) wf_X3_166 dX3_prop_33 (hL 1 rfl) rfl ?_
      refine g_iload_n 3 dX3_prop_36 rfl rfl ?_
      refine g_za (by omega) (by omega) rfl (by decide) dX3_prop_37 (n2 (hL 16 rfl)) (fun h37_2 => ?_)
      refine g_if_eq (tgt := 51) (by omega) dX3_prop_38 (by decide) (fun h38_3 => ?_) (fun h38_3 => ?_)
      · skip
        refine g_aload_n 0 dX3_prop_51 rfl rfl ?_
        refine g_getfr2 (r := 1) cf_4 0 rfl (by decide) (by decide) rfl (by decide) wf_X3_12 dX3_prop_52 (hL 0 rfl) rfl ?_
        refine g_getfr2 (r := 16) cf_2 4 rfl (by decide) (by decide) rfl (by decide) wf_X3_166 dX3_prop_55 (hL 1 rfl) rfl ?_
        refine g_iload_n 3 dX3_prop_58 rfl rfl ?_
        refine g_iconst dX3_prop_59 ?_
        refine g_zs (by omega) (by omega) (Or.inr rfl) rfl (by decide) dX3_prop_60 (n2 (hL 16 rfl)) ?_
        exact g_vret dX3_prop_61 rfl (Nat.le_of_ble_eq_true rfl) (Nat.le_of_ble_eq_true rfl) (ex_ok (by unfold proE; grind [opB]) rfl rfl (rfl))
      · skip
        exact g_throw thX3_prop_41 (Nat.le_of_ble_eq_true rfl) (Nat.le_of_ble_eq_true rfl) (by decide) (ex_th 1 (by unfold proE; grind [opB]) rfl)
    · skip
      exact g_throw thX3_prop_19 (Nat.le_of_ble_eq_true rfl) (Nat.le_of_ble_eq_true rfl) (by decide) (ex_th 1 (by unfold proE; grind [opB]) rfl)
  · skip
    exact g_cV_t (My := mX3_claimAtHand_x) (gs := [_, _, _]) (c_X3_claimAtHand_p hV hx hp hc hs4) mfX3_claimAtHand_x cf_4 wi_X3_claimAtHand wsl_X3_claimAtHand wm_X3_141 dX3_prop_4 (Nat.le_of_ble_eq_true rfl) rfl (by decide) (n2 (hL 0 rfl)) rfl (fun _ => Nat.le_of_ble_eq_true rfl) (Nat.le_of_ble_eq_true rfl) (Nat.le_of_ble_eq_true rfl) rfl rfl rfl (by rcases ahE_012 A x p c with q | q | q; exact absurd q hs4; (rw [if_pos q]; exact ex_th 0 (by unfold proE; grind) rfl); (rw [if_neg (by omega)]; exact ex_th 1 (by unfold proE; grind) rfl))

set_option maxRecDepth 20000 in
theorem c_X3_trap {L : Nat → Nat} {A : Mem} (hV : VC L A) {x p c : Int} (hx : -2147483648 ≤ x ∧ x < 2147483648) (hp : -2147483648 ≤ p ∧ p < 2147483648) (hc : -2147483648 ≤ c ∧ c < 2147483648) : Ct mX3_trap [gr 0, gi x, gi p, gi c] L A (exP [xIOE, xISE] (trpE A x p c) (some (gi (trapC (gup A 17 c.toNat x) x 100))) L (gup A 17 c.toNat x) L A) := by
  have hL := vc_L hV
  have hnc := vc_nc hV; have hns := vc_ns hV; have hp0 := (vc_p hV).1
  refine Ct_of (ls := [(0, _), (1, _), (2, _), (3, _)]) rfl (by decide) (fun _ => rfl) (fun _ => Nat.le_of_ble_eq_true rfl) ?_
  refine g_aload_n 0 dX3_trap_0 rfl rfl ?_
  refine g_iload_n 1 dX3_trap_1 rfl rfl ?_
  refine g_iload_n 2 dX3_trap_2 rfl rfl ?_
  refine g_iload_n 3 dX3_trap_3 rfl rfl ?_
  by_cases hs4 : ahE A x p c = 0
  · skip
    have hs4z := hs4
    obtain ⟨k, rfl, hk, hp1, hc1, hk1, hk2, hk3⟩ := ahE_0 hs4
    refine g_cV_i (My := mX3_claimAtHand) (gs := [_, _, _]) (c_X3_claimAtHand hV hk hp1 hc1 hk1 hk2 hk3) mfX3_claimAtHand cf_4 wi_X3_claimAtHand wsl_X3_claimAtHand wm_X3_141 dX3_trap_4 (Nat.le_of_ble_eq_true rfl) rfl (by decide) (n2 (hL 0 rfl)) rfl (fun _ => Nat.le_of_ble_eq_true rfl) (Nat.le_of_ble_eq_true rfl) (Nat.le_of_ble_eq_true rfl) rfl rfl ?_
    refine g_pop dX3_trap_7 (c1_r _) ?_
    refine g_aload_n 0 dX3_trap_8 rfl rfl ?_
    refine g_getfr2 (r := 1) cf_4 0 rfl (by decide) (by decide) rfl (by decide) wf_X3_12 dX3_trap_9 (hL 0 rfl) rfl ?_
    refine g_iload_n 3 dX3_trap_12 rfl rfl ?_
    refine g_cV_i (My := mX1_isOpen) (gs := [_]) (c_X1_isOpen hL hc) mfX1_isOpen cf_2 wi_X1_isOpen wsl_X1_isOpen wm_X3_154 dX3_trap_13 (Nat.le_of_ble_eq_true rfl) rfl (by decide) (n2 (hL 1 rfl)) rfl (fun _ => Nat.le_of_ble_eq_true rfl) (Nat.le_of_ble_eq_true rfl) (Nat.le_of_ble_eq_true rfl) rfl rfl ?_
    refine g_ifb_eq (tgt := 29) dX3_trap_16 (by decide) (fun h16_1 => ?_) (fun h16_1 => ?_)
    · skip
      refine g_aload_n 0 dX3_trap_29 rfl rfl ?_
      refine g_getfr2 (r := 1) cf_4 0 rfl (by decide) (by decide) rfl (by decide) wf_X3_12 dX3_trap_30 (hL 0 rfl) rfl ?_
      refine g_getfr2 (r := 17) cf_2 5 rfl (by decide) (by decide) rfl (by decide) wf_X3_172 dX3_trap_33 (hL 1 rfl) rfl ?_
      refine g_iload_n 3 dX3_trap_36 rfl rfl ?_
      refine g_ia (by omega) (by omega) rfl (by decide) dX3_trap_37 (n2 (hL 17 rfl)) (fun h37_2 => ?_)
      refine g_iconst dX3_trap_38 ?_
      refine g_icmp_eq (tgt := 52) (by omega) (by omega) dX3_trap_39 (by decide) (fun h39_3 => ?_) (fun h39_3 => ?_)
      · skip
        refine g_aload_n 0 dX3_trap_52 rfl rfl ?_
        refine g_getfr2 (r := 1) cf_4 0 rfl (by decide) (by decide) rfl (by decide) wf_X3_12 dX3_trap_53 (hL 0 rfl) rfl ?_
        refine g_iload_n 1 dX3_trap_56 rfl rfl ?_
        refine g_cV_i (My := mX1_trapsOf) (gs := [_]) (c_X1_trapsOf hL hx) mfX1_trapsOf cf_2 wi_X1_trapsOf wsl_X1_trapsOf wm_X3_177 dX3_trap_57 (Nat.le_of_ble_eq_true rfl) rfl (by decide) (n2 (hL 1 rfl)) rfl (fun _ => Nat.le_of_ble_eq_true rfl) (Nat.le_of_ble_eq_true rfl) (Nat.le_of_ble_eq_true rfl) rfl rfl ?_
        refine g_iconst dX3_trap_60 ?_
        have htr := trapC_rg A (k : Int) 100
        refine g_icmp_lt (tgt := 74) (by omega) (by omega) dX3_trap_61 (by decide) (fun h61_4 => ?_) (fun h61_4 => ?_)
        · skip
          refine g_aload_n 0 dX3_trap_74 rfl rfl ?_
          refine g_getfr2 (r := 1) cf_4 0 rfl (by decide) (by decide) rfl (by decide) wf_X3_12 dX3_trap_75 (hL 0 rfl) rfl ?_
          refine g_getfr2 (r := 17) cf_2 5 rfl (by decide) (by decide) rfl (by decide) wf_X3_172 dX3_trap_78 (hL 1 rfl) rfl ?_
          refine g_iload_n 3 dX3_trap_81 rfl rfl ?_
          refine g_iload_n 1 dX3_trap_82 rfl rfl ?_
          refine g_is (by omega) (by omega) (by omega) rfl (by decide) dX3_trap_83 (n2 (hL 17 rfl)) ?_
          refine g_aload_n 0 dX3_trap_84 rfl rfl ?_
          refine g_getfr2 (r := 1) cf_4 0 rfl (by decide) (by decide) rfl (by decide) wf_X3_12 dX3_trap_85 (hL 0 rfl) rfl ?_
          refine g_iload_n 1 dX3_trap_88 rfl rfl ?_
          refine g_cV_i (My := mX1_trapsOf) (gs := [_]) (c_X1_trapsOf (A := gup A 17 c.toNat k) hL hx) mfX1_trapsOf cf_2 wi_X1_trapsOf wsl_X1_trapsOf wm_X3_177 dX3_trap_89 (Nat.le_of_ble_eq_true rfl) rfl (by decide) (n2 (hL 1 rfl)) rfl (fun _ => Nat.le_of_ble_eq_true rfl) (Nat.le_of_ble_eq_true rfl) (Nat.le_of_ble_eq_true rfl) rfl rfl ?_
          exact g_iret dX3_trap_92 rfl (Nat.le_of_ble_eq_true rfl) (Nat.le_of_ble_eq_true rfl) (ex_ok (by unfold trpE; grind [opB]) (congrArg (fun z => some (gi z)) (rfl)) rfl (rfl))
        · skip
          exact g_throw thX3_trap_64 (Nat.le_of_ble_eq_true rfl) (Nat.le_of_ble_eq_true rfl) (by decide) (ex_th 1 (by unfold trpE; grind [opB]) rfl)
      · skip
        exact g_throw thX3_trap_42 (Nat.le_of_ble_eq_true rfl) (Nat.le_of_ble_eq_true rfl) (by decide) (ex_th 1 (by unfold trpE; grind [opB]) rfl)
    · skip
      exact g_throw thX3_trap_19 (Nat.le_of_ble_eq_true rfl) (Nat.le_of_ble_eq_true rfl) (by decide) (ex_th 1 (by unfold trpE; grind [opB]) rfl)
  · skip
    exact g_cV_t (My := mX3_claimAtHand_x) (gs := [_, _, _]) (c_X3_claimAtHand_p hV hx hp hc hs4) mfX3_claimAtHand_x cf_4 wi_X3_claimAtHand wsl_X3_claimAtHand wm_X3_141 dX3_trap_4 (Nat.le_of_ble_eq_true rfl) rfl (by decide) (n2 (hL 0 rfl)) rfl (fun _ => Nat.le_of_ble_eq_true rfl) (Nat.le_of_ble_eq_true rfl) (Nat.le_of_ble_eq_true rfl) rfl rfl rfl (by rcases ahE_012 A x p c with q | q | q; exact absurd q hs4; (rw [if_pos q]; exact ex_th 0 (by unfold trpE; grind) rfl); (rw [if_neg (by omega)]; exact ex_th 1 (by unfold trpE; grind) rfl))

set_option maxRecDepth 20000 in
theorem c_X3_rub {L : Nat → Nat} {A : Mem} (hV : VC L A) {x : Int} (hx : -2147483648 ≤ x ∧ x < 2147483648) : Ct mX3_rub [gr 0, gi x] L A (exP [xIOE, xISE] (rubE A x) (some (gi (rubA A x.toNat (200 + 3 * x.toNat) 3))) L (rubA A x.toNat) L A) := by
  have hL := vc_L hV
  have hnc := vc_nc hV; have hns := vc_ns hV; have hp0 := (vc_p hV).1
  refine Ct_of (ls := [(0, _), (1, _)]) rfl (by decide) (fun _ => rfl) (fun _ => Nat.le_of_ble_eq_true rfl) ?_
  refine g_aload_n 0 dX3_rub_0 rfl rfl ?_
  refine g_iload_n 1 dX3_rub_1 rfl rfl ?_
  by_cases hs2 : 0 ≤ x ∧ x < A 3 2
  · skip
    obtain ⟨s, rfl⟩ : ∃ s : Nat, x = s := ⟨x.toNat, by omega⟩
    have hs : (s : Int) < A 3 2 := by omega
    refine g_cV_i (My := mX3_stoneAt) (gs := [_]) (c_X3_stoneAt hV hs) mfX3_stoneAt cf_4 wi_X3_stoneAt wsl_X3_stoneAt wm_X3_209 dX3_rub_2 (Nat.le_of_ble_eq_true rfl) rfl (by decide) (n2 (hL 0 rfl)) rfl (fun _ => Nat.le_of_ble_eq_true rfl) (Nat.le_of_ble_eq_true rfl) (Nat.le_of_ble_eq_true rfl) rfl rfl ?_
    refine g_sa (ls2 := [(2, _), (0, _), (1, _)]) dX3_rub_5 rfl (by decide) (c1_cr (c1_ci c1_0)) rfl ?_
    refine g_aload_n 0 dX3_rub_6 rfl rfl ?_
    by_cases hs7 : plC A s = 1
    · skip
      have hpl1 := plC_1 hV hs hs7
      refine g_cS_v (My := mX3_needOfPerson) (gs := [_]) (c_X3_needOfPerson hV hs hs7) mfX3_needOfPerson rfl wst_X3_needOfPerson wm_X3_224 dX3_rub_7 (Nat.le_of_ble_eq_true rfl) rfl (fun _ => Nat.le_of_ble_eq_true rfl) (Nat.le_of_ble_eq_true rfl) (Nat.le_of_ble_eq_true rfl) rfl rfl ?_
      refine g_aload_n 0 dX3_rub_10 rfl rfl ?_
      have hsv := vc_sv hV hs
      have hs3 := hsv.2.2.2.1; have hs4 := hsv.2.2.2.2.1; have hs5 := hsv.2.2.2.2.2.1
      refine g_cV_i (My := mX2_lustre) (gs := []) (c_X2_lustre (vc_s hV hs) (by have := (vc_sv hV hs).2.1; omega)) mfX2_lustre cf_3 wi_X2_lustre wsl_X2_lustre wm_X3_228 dX3_rub_11 (Nat.le_of_ble_eq_true rfl) (ly_s0 s) (by decide) (n2 (vc_s hV hs).1) rfl (fun _ => Nat.le_of_ble_eq_true rfl) (Nat.le_of_ble_eq_true rfl) (Nat.le_of_ble_eq_true rfl) rfl rfl ?_
      refine g_iconst dX3_rub_14 ?_
      have hlr : 0 ≤ lusC (A (200 + 3 * s) 5) (A (200 + 3 * s) 1) ∧ lusC (A (200 + 3 * s) 5) (A (200 + 3 * s) 1) ≤ 2 := by unfold lusC; split <;> (try split) <;> omega
      refine g_icmp_ne (tgt := 28) (by omega) (by omega) dX3_rub_15 (by decide) (fun h15_1 => ?_) (fun h15_1 => ?_)
      · skip
        refine g_aload_n 0 dX3_rub_28 rfl rfl ?_
        refine g_getfi cf_3 3 (ly_s0 s) (by decide) (by decide) rfl (by decide) wf_X3_222 dX3_rub_29 (n2 (vc_s hV hs).1) (fun h29_2 => ?_)
        refine g_bipush dX3_rub_32 (by decide) ?_
        refine g_idiv (by omega) (by omega) dX3_rub_34 ?_
        refine g_st (ls2 := [(3, _), (2, _), (0, _), (1, _)]) dX3_rub_35 rfl (by decide) (c1_cr (c1_cr (c1_ci c1_0))) rfl ?_
        refine g_aload_n 1 dX3_rub_36 rfl rfl ?_
        refine g_dup dX3_rub_37 (c1_r _) ?_
        refine g_getfi cf_3 3 (ly_s0 s) (by decide) (by decide) rfl (by decide) wf_X3_222 dX3_rub_38 (n2 (vc_s hV hs).1) (fun h38_3 => ?_)
        refine g_iload_n 0 dX3_rub_41 rfl rfl ?_
        refine g_isub dX3_rub_42 ?_
        refine g_putfi cf_3 3 (ly_s0 s) (by decide) (by decide) rfl (by decide) wf_X3_222 (Or.inl rfl) rfl dX3_rub_43 (n2 (vc_s hV hs).1) (by omega) ?_
        refine g_aload_n 1 dX3_rub_46 rfl rfl ?_
        refine g_dup dX3_rub_47 (c1_r _) ?_
        refine g_getfi cf_3 4 (ly_s0 s) (by decide) (by decide) rfl (by decide) wf_X3_233 dX3_rub_48 (n2 (vc_s hV hs).1) (fun h48_4 => ?_)
        refine g_top (y := A (200 + 3 * s) 4) (by rw [gup_ap, if_neg (by omega)]) ?_
        refine g_iload_n 0 dX3_rub_51 rfl rfl ?_
        refine g_iadd dX3_rub_52 ?_
        refine g_putfi cf_3 4 (ly_s0 s) (by decide) (by decide) rfl (by decide) wf_X3_233 (Or.inl rfl) rfl dX3_rub_53 (n2 (vc_s hV hs).1) (by omega) ?_
        refine g_aload_n 1 dX3_rub_56 rfl rfl ?_
        refine g_dup dX3_rub_57 (c1_r _) ?_
        refine g_getfi cf_3 5 (ly_s0 s) (by decide) (by decide) rfl (by decide) wf_X3_236 dX3_rub_58 (n2 (vc_s hV hs).1) (fun h58_5 => ?_)
        refine g_top (y := A (200 + 3 * s) 5) (by rw [gup_ap, if_neg (by omega), gup_ap, if_neg (by omega)]) ?_
        refine g_iconst dX3_rub_61 ?_
        refine g_iadd dX3_rub_62 ?_
        refine g_putfi cf_3 5 (ly_s0 s) (by decide) (by decide) rfl (by decide) wf_X3_236 (Or.inl rfl) rfl dX3_rub_63 (n2 (vc_s hV hs).1) (by omega) ?_
        refine g_aload_n 1 dX3_rub_66 rfl rfl ?_
        refine g_getfi cf_3 3 (ly_s0 s) (by decide) (by decide) rfl (by decide) wf_X3_222 dX3_rub_67 (n2 (vc_s hV hs).1) (fun h67_6 => ?_)
        exact g_iret dX3_rub_70 rfl (Nat.le_of_ble_eq_true rfl) (Nat.le_of_ble_eq_true rfl) (ex_ok (by unfold rubE; grind) (congrArg (fun z => some (gi z)) (rfl)) rfl (rfl))
      · skip
        exact g_throw thX3_rub_18 (Nat.le_of_ble_eq_true rfl) (Nat.le_of_ble_eq_true rfl) (by decide) (ex_th 1 (by unfold rubE; grind) rfl)
    · skip
      exact g_cS_t (My := mX3_needOfPerson_x) (gs := [_]) (c_X3_needOfPerson_x hV hs hs7) mfX3_needOfPerson_x rfl wst_X3_needOfPerson wm_X3_224 dX3_rub_7 (Nat.le_of_ble_eq_true rfl) rfl (fun _ => Nat.le_of_ble_eq_true rfl) (Nat.le_of_ble_eq_true rfl) (Nat.le_of_ble_eq_true rfl) rfl rfl rfl (ex_th 1 (by unfold rubE; grind) rfl)
  · skip
    exact g_cV_t (My := mX3_stoneAt_x) (gs := [_]) (c_X3_stoneAt_x hV hx hs2) mfX3_stoneAt_x cf_4 wi_X3_stoneAt wsl_X3_stoneAt wm_X3_209 dX3_rub_2 (Nat.le_of_ble_eq_true rfl) rfl (by decide) (n2 (hL 0 rfl)) rfl (fun _ => Nat.le_of_ble_eq_true rfl) (Nat.le_of_ble_eq_true rfl) (Nat.le_of_ble_eq_true rfl) rfl rfl rfl (ex_th 0 (by unfold rubE; grind) rfl)

set_option maxRecDepth 20000 in
theorem c_X3_bid {L : Nat → Nat} {A : Mem} (hV : VC L A) {b x y : Int} (hb : -2147483648 ≤ b ∧ b < 2147483648) (hx : -2147483648 ≤ x ∧ x < 2147483648) (hy : -2147483648 ≤ y ∧ y < 2147483648) : Ct mX3_bid [gr 0, gi b, gi x, gi y] L A (exP [xIOE, xIAE, xISE] (bidE A b x y) (some (gi (bidA A b x.toNat y (200 + 3 * x.toNat) 8))) L (bidA A b x.toNat y) L A) := by
  have hL := vc_L hV
  have hnc := vc_nc hV; have hns := vc_ns hV; have hp0 := (vc_p hV).1
  refine Ct_of (ls := [(0, _), (1, _), (2, _), (3, _)]) rfl (by decide) (fun _ => rfl) (fun _ => Nat.le_of_ble_eq_true rfl) ?_
  refine g_iload_n 1 dX3_bid_0 rfl rfl ?_
  by_cases hs1 : 0 ≤ b ∧ b < 5
  · skip
    refine g_cS_v (My := mX3_needBuyer) (gs := [_]) (c_X3_needBuyer hb hs1) mfX3_needBuyer rfl wst_X3_needBuyer wm_X3_239 dX3_bid_1 (Nat.le_of_ble_eq_true rfl) rfl (fun _ => Nat.le_of_ble_eq_true rfl) (Nat.le_of_ble_eq_true rfl) (Nat.le_of_ble_eq_true rfl) rfl rfl ?_
    refine g_aload_n 0 dX3_bid_4 rfl rfl ?_
    refine g_iload_n 2 dX3_bid_5 rfl rfl ?_
    by_cases hs6 : 0 ≤ x ∧ x < A 3 2
    · skip
      obtain ⟨s, rfl⟩ : ∃ s : Nat, x = s := ⟨x.toNat, by omega⟩
      have hs : (s : Int) < A 3 2 := by omega
      refine g_cV_i (My := mX3_stoneAt) (gs := [_]) (c_X3_stoneAt hV hs) mfX3_stoneAt cf_4 wi_X3_stoneAt wsl_X3_stoneAt wm_X3_209 dX3_bid_6 (Nat.le_of_ble_eq_true rfl) rfl (by decide) (n2 (hL 0 rfl)) rfl (fun _ => Nat.le_of_ble_eq_true rfl) (Nat.le_of_ble_eq_true rfl) (Nat.le_of_ble_eq_true rfl) rfl rfl ?_
      refine g_sa2 (ls2 := [(4, _), (0, _), (1, _), (2, _), (3, _)]) dX3_bid_9 (by decide) (c1_cr (c1_ci (c1_ci (c1_ci c1_0)))) rfl ?_
      refine g_iload_n 4 dX3_bid_11 rfl rfl ?_
      refine g_iconst dX3_bid_12 ?_
      refine g_ldci (n := 99999) dX3_bid_13 wk_X3_242 ?_
      by_cases hs15 : 1 ≤ y ∧ y ≤ 99999
      · skip
        refine g_cS_v (My := mX3_needRange) (gs := [_, _, _]) (c_X3_needRange (x := y) (y := 1) (z := 99999) (by omega) (by omega) (by omega) hs15) mfX3_needRange rfl wst_X3_needRange wm_X3_55 dX3_bid_15 (Nat.le_of_ble_eq_true rfl) rfl (fun _ => Nat.le_of_ble_eq_true rfl) (Nat.le_of_ble_eq_true rfl) (Nat.le_of_ble_eq_true rfl) rfl rfl ?_
        refine g_aload 0 dX3_bid_18 rfl ?_
        by_cases hs20 : plC A s = 1
        · skip
          have hpl1 := plC_1 hV hs hs20
          refine g_cS_v (My := mX3_needOfPerson) (gs := [_]) (c_X3_needOfPerson hV hs hs20) mfX3_needOfPerson rfl wst_X3_needOfPerson wm_X3_224 dX3_bid_20 (Nat.le_of_ble_eq_true rfl) rfl (fun _ => Nat.le_of_ble_eq_true rfl) (Nat.le_of_ble_eq_true rfl) (Nat.le_of_ble_eq_true rfl) rfl rfl ?_
          have hsv := vc_sv hV hs
          have hs8 := hsv.2.2.2.2.2.2.2.2.1
          refine g_aload 0 dX3_bid_23 rfl ?_
          refine g_getfr2 (r := 201 + 3 * s) cf_3 9 (ly_s0 s) (by decide) (by decide) rfl (by decide) wf_X3_243 dX3_bid_25 (vc_s hV hs).1 (rfn_s9 s) ?_
          refine g_iload_n 2 dX3_bid_28 rfl rfl ?_
          refine g_ia (by omega) (by omega) (ly_s1 s) (by decide) dX3_bid_29 (n2 (vc_s hV hs).2.1) (fun h29_1 => ?_)
          refine g_if_le (tgt := 43) (by omega) dX3_bid_30 (by decide) (fun h30_2 => ?_) (fun h30_2 => ?_)
          · skip
            refine g_aload 0 dX3_bid_43 rfl ?_
            refine g_getfr2 (r := 201 + 3 * s) cf_3 9 (ly_s0 s) (by decide) (by decide) rfl (by decide) wf_X3_243 dX3_bid_45 (vc_s hV hs).1 (rfn_s9 s) ?_
            refine g_iload_n 2 dX3_bid_48 rfl rfl ?_
            refine g_iload_n 4 dX3_bid_49 rfl rfl ?_
            refine g_is (by omega) (by omega) (by omega) (ly_s1 s) (by decide) dX3_bid_50 (n2 (vc_s hV hs).2.1) ?_
            refine g_aload 0 dX3_bid_51 rfl ?_
            refine g_getfr2 (r := 202 + 3 * s) cf_3 10 (ly_s0 s) (by decide) (by decide) rfl (by decide) wf_X3_248 dX3_bid_53 (vc_s hV hs).1 (rfn_s10 s) ?_
            refine g_iload_n 2 dX3_bid_56 rfl rfl ?_
            refine g_aload 0 dX3_bid_57 rfl ?_
            refine g_getfi cf_3 8 (ly_s0 s) (by decide) (by decide) rfl (by decide) wf_X3_251 dX3_bid_59 (n2 (vc_s hV hs).1) (fun h59_3 => ?_)
            refine g_top (y := A (200 + 3 * s) 8) (by rw [gup_ap, if_neg (by omega)]) ?_
            refine g_is (by omega) (by omega) (by omega) (ly_s2 s) (by decide) dX3_bid_62 (n2 (vc_s hV hs).2.2) ?_
            refine g_aload 0 dX3_bid_63 rfl ?_
            refine g_dup dX3_bid_65 (c1_r _) ?_
            refine g_getfi cf_3 8 (ly_s0 s) (by decide) (by decide) rfl (by decide) wf_X3_251 dX3_bid_66 (n2 (vc_s hV hs).1) (fun h66_4 => ?_)
            refine g_top (y := A (200 + 3 * s) 8) (by rw [gup_ap, if_neg (by omega), gup_ap, if_neg (by omega)]) ?_
            refine g_iconst dX3_bid_69 ?_
            refine g_iadd dX3_bid_70 ?_
            refine g_putfi cf_3 8 (ly_s0 s) (by decide) (by decide) rfl (by decide) wf_X3_251 (Or.inl rfl) rfl dX3_bid_71 (n2 (vc_s hV hs).1) (by omega) ?_
            refine g_aload 0 dX3_bid_74 rfl ?_
            refine g_getfi cf_3 8 (ly_s0 s) (by decide) (by decide) rfl (by decide) wf_X3_251 dX3_bid_76 (n2 (vc_s hV hs).1) (fun h76_5 => ?_)
            exact g_iret dX3_bid_79 rfl (Nat.le_of_ble_eq_true rfl) (Nat.le_of_ble_eq_true rfl) (ex_ok (by unfold bidE; grind) (congrArg (fun z => some (gi z)) (rfl)) rfl (rfl))
          · skip
            exact g_throw thX3_bid_33 (Nat.le_of_ble_eq_true rfl) (Nat.le_of_ble_eq_true rfl) (by decide) (ex_th 2 (by unfold bidE; grind) rfl)
        · skip
          exact g_cS_t (My := mX3_needOfPerson_x) (gs := [_]) (c_X3_needOfPerson_x hV hs hs20) mfX3_needOfPerson_x rfl wst_X3_needOfPerson wm_X3_224 dX3_bid_20 (Nat.le_of_ble_eq_true rfl) rfl (fun _ => Nat.le_of_ble_eq_true rfl) (Nat.le_of_ble_eq_true rfl) (Nat.le_of_ble_eq_true rfl) rfl rfl rfl (ex_th 2 (by unfold bidE; grind) rfl)
      · skip
        exact g_cS_t (My := mX3_needRange_x) (gs := [_, _, _]) (c_X3_needRange_x (x := y) (y := 1) (z := 99999) (by omega) (by omega) (by omega) hs15) mfX3_needRange_x rfl wst_X3_needRange wm_X3_55 dX3_bid_15 (Nat.le_of_ble_eq_true rfl) rfl (fun _ => Nat.le_of_ble_eq_true rfl) (Nat.le_of_ble_eq_true rfl) (Nat.le_of_ble_eq_true rfl) rfl rfl rfl (ex_th 1 (by unfold bidE; grind) rfl)
    · skip
      exact g_cV_t (My := mX3_stoneAt_x) (gs := [_]) (c_X3_stoneAt_x hV hx hs6) mfX3_stoneAt_x cf_4 wi_X3_stoneAt wsl_X3_stoneAt wm_X3_209 dX3_bid_6 (Nat.le_of_ble_eq_true rfl) rfl (by decide) (n2 (hL 0 rfl)) rfl (fun _ => Nat.le_of_ble_eq_true rfl) (Nat.le_of_ble_eq_true rfl) (Nat.le_of_ble_eq_true rfl) rfl rfl rfl (ex_th 0 (by unfold bidE; grind) rfl)
  · skip
    exact g_cS_t (My := mX3_needBuyer_x) (gs := [_]) (c_X3_needBuyer_x hb hs1) mfX3_needBuyer_x rfl wst_X3_needBuyer wm_X3_239 dX3_bid_1 (Nat.le_of_ble_eq_true rfl) rfl (fun _ => Nat.le_of_ble_eq_true rfl) (Nat.le_of_ble_eq_true rfl) (Nat.le_of_ble_eq_true rfl) rfl rfl rfl (ex_th 0 (by unfold bidE; grind) rfl)

set_option maxHeartbeats 1000000 in
set_option maxRecDepth 20000 in
theorem c_X3_sell {L : Nat → Nat} {A : Mem} (hV : VC L A) {x : Int} (hx : -2147483648 ≤ x ∧ x < 2147483648) : Ct mX3_sell [gr 0, gi x] L A (exP [xIOE, xISE] (selE A x) (some (gi (bstA A x.toNat))) L (selA A x.toNat) L A) := by
  have hL := vc_L hV
  have hnc := vc_nc hV; have hns := vc_ns hV; have hp0 := (vc_p hV).1
  refine Ct_of (ls := [(0, _), (1, _)]) rfl (by decide) (fun _ => rfl) (fun _ => Nat.le_of_ble_eq_true rfl) ?_
  refine g_aload_n 0 dX3_sell_0 rfl rfl ?_
  refine g_iload_n 1 dX3_sell_1 rfl rfl ?_
  by_cases hs2 : 0 ≤ x ∧ x < A 3 2
  · skip
    obtain ⟨s, rfl⟩ : ∃ s : Nat, x = s := ⟨x.toNat, by omega⟩
    have hs : (s : Int) < A 3 2 := by omega
    refine g_cV_i (My := mX3_stoneAt) (gs := [_]) (c_X3_stoneAt hV hs) mfX3_stoneAt cf_4 wi_X3_stoneAt wsl_X3_stoneAt wm_X3_209 dX3_sell_2 (Nat.le_of_ble_eq_true rfl) rfl (by decide) (n2 (hL 0 rfl)) rfl (fun _ => Nat.le_of_ble_eq_true rfl) (Nat.le_of_ble_eq_true rfl) (Nat.le_of_ble_eq_true rfl) rfl rfl ?_
    refine g_sa (ls2 := [(2, _), (0, _), (1, _)]) dX3_sell_5 rfl (by decide) (c1_cr (c1_ci c1_0)) rfl ?_
    refine g_aload_n 0 dX3_sell_6 rfl rfl ?_
    by_cases hs7 : plC A s = 1
    · skip
      have hpl1 := plC_1 hV hs hs7
      refine g_cS_v (My := mX3_needOfPerson) (gs := [_]) (c_X3_needOfPerson hV hs hs7) mfX3_needOfPerson rfl wst_X3_needOfPerson wm_X3_224 dX3_sell_7 (Nat.le_of_ble_eq_true rfl) rfl (fun _ => Nat.le_of_ble_eq_true rfl) (Nat.le_of_ble_eq_true rfl) (Nat.le_of_ble_eq_true rfl) rfl rfl ?_
      refine g_aload_n 0 dX3_sell_10 rfl rfl ?_
      refine g_aload_n 1 dX3_sell_11 rfl rfl ?_
      refine g_getfr2 (r := 9) cf_4 6 rfl (by decide) (by decide) rfl (by decide) wf_X3_36 dX3_sell_12 (hL 0 rfl) rfl ?_
      refine g_cV_i (My := mX2_bestBidder) (gs := [_]) (c_X2_bestBidder (vc_s hV hs) hL) mfX2_bestBidder cf_3 wi_X2_bestBidder wsl_X2_bestBidder wm_X3_254 dX3_sell_15 (Nat.le_of_ble_eq_true rfl) (ly_s0 s) (by decide) (n2 (vc_s hV hs).1) rfl (fun _ => Nat.le_of_ble_eq_true rfl) (Nat.le_of_ble_eq_true rfl) (Nat.le_of_ble_eq_true rfl) rfl rfl ?_
      have hbr := bstC_rg (A (201 + 3 * s)) (A (202 + 3 * s)) (A 9) 5
      have hsv := vc_sv hV hs
      have hp6 := (vc_p hV).2.1; have hp9 := (vc_p hV).2.2.2.2; have hpq := hsv.2.2.2.2.2.2.2.2.2.1
      refine g_st (ls2 := [(3, _), (2, _), (0, _), (1, _)]) dX3_sell_18 rfl (by decide) (c1_cr (c1_cr (c1_ci c1_0))) rfl ?_
      refine g_iload_n 0 dX3_sell_19 rfl rfl ?_
      refine g_iconst dX3_sell_20 ?_
      refine g_icmp_ne (tgt := 35) (by omega) (by omega) dX3_sell_21 (by decide) (fun h21_1 => ?_) (fun h21_1 => ?_)
      · skip
        refine g_aload_n 1 dX3_sell_35 rfl rfl ?_
        refine g_iload_n 0 dX3_sell_36 rfl rfl ?_
        refine g_putfi cf_3 7 (ly_s0 s) (by decide) (by decide) rfl (by decide) wf_X3_260 (Or.inl rfl) rfl dX3_sell_37 (n2 (vc_s hV hs).1) (by omega) ?_
        refine g_aload_n 2 dX3_sell_40 rfl rfl ?_
        refine g_getfr2 (r := 9) cf_4 6 rfl (by decide) (by decide) rfl (by decide) wf_X3_36 dX3_sell_41 (hL 0 rfl) rfl ?_
        refine g_iload_n 0 dX3_sell_44 rfl rfl ?_
        refine g_dup2 dX3_sell_45 (c1_i _) (c1_r _) ?_
        refine g_ia (by omega) (by omega) rfl (by decide) dX3_sell_46 (n2 (hL 9 rfl)) (fun h46_2 => ?_)
        refine g_top (y := A 9 (bstC (A (201 + 3 * s)) (A (202 + 3 * s)) (A 9) 5).toNat) (by rw [gup_ap, if_neg (by omega)]) ?_
        refine g_aload_n 1 dX3_sell_47 rfl rfl ?_
        refine g_getfr2 (r := 201 + 3 * s) cf_3 9 (ly_s0 s) (by decide) (by decide) rfl (by decide) wf_X3_243 dX3_sell_48 (vc_s hV hs).1 (rfn_s9 s) ?_
        refine g_iload_n 0 dX3_sell_51 rfl rfl ?_
        refine g_ia (by omega) (by omega) (ly_s1 s) (by decide) dX3_sell_52 (n2 (vc_s hV hs).2.1) (fun h52_3 => ?_)
        refine g_top (y := A (201 + 3 * s) (bstC (A (201 + 3 * s)) (A (202 + 3 * s)) (A 9) 5).toNat) (by rw [gup_ap, if_neg (by omega)]) ?_
        have hq1 := hp9 (bstC (A (201 + 3 * s)) (A (202 + 3 * s)) (A 9) 5).toNat; have hq2 := hpq (bstC (A (201 + 3 * s)) (A (202 + 3 * s)) (A 9) 5).toNat
        refine g_isub dX3_sell_53 ?_
        refine g_is (by omega) (by omega) (by omega) rfl (by decide) dX3_sell_54 (n2 (hL 9 rfl)) ?_
        refine g_aload_n 2 dX3_sell_55 rfl rfl ?_
        refine g_getfr2 (r := 6) cf_4 3 rfl (by decide) (by decide) rfl (by decide) wf_X3_26 dX3_sell_56 (hL 0 rfl) rfl ?_
        refine g_aload_n 1 dX3_sell_59 rfl rfl ?_
        refine g_getfi cf_3 6 (ly_s0 s) (by decide) (by decide) rfl (by decide) wf_X3_217 dX3_sell_60 (n2 (vc_s hV hs).1) (fun h60_4 => ?_)
        refine g_top (y := A (200 + 3 * s) 6) (by rw [gup_ap, if_neg (by omega), gup_ap, if_neg (by omega)]) ?_
        refine g_dup2 dX3_sell_63 (c1_i _) (c1_r _) ?_
        refine g_ia (by omega) (by omega) rfl (by decide) dX3_sell_64 (n2 (hL 6 rfl)) (fun h64_5 => ?_)
        refine g_top (y := A 6 (A (200 + 3 * s) 6).toNat) (by rw [gup_ap, if_neg (by omega), gup_ap, if_neg (by omega)]) ?_
        have hq3 := hp6 (A (200 + 3 * s) 6).toNat
        refine g_aload_n 1 dX3_sell_65 rfl rfl ?_
        refine g_getfr2 (r := 201 + 3 * s) cf_3 9 (ly_s0 s) (by decide) (by decide) rfl (by decide) wf_X3_243 dX3_sell_66 (vc_s hV hs).1 (rfn_s9 s) ?_
        refine g_iload_n 0 dX3_sell_69 rfl rfl ?_
        refine g_ia (by omega) (by omega) (ly_s1 s) (by decide) dX3_sell_70 (n2 (vc_s hV hs).2.1) (fun h70_6 => ?_)
        refine g_top (y := A (201 + 3 * s) (bstC (A (201 + 3 * s)) (A (202 + 3 * s)) (A 9) 5).toNat) (by rw [gup_ap, if_neg (by omega), gup_ap, if_neg (by omega)]) ?_
        refine g_iadd dX3_sell_71 ?_
        refine g_is (by omega) (by omega) (by omega) rfl (by decide) dX3_sell_72 (n2 (hL 6 rfl)) ?_
        refine g_iload_n 0 dX3_sell_73 rfl rfl ?_
        exact g_iret dX3_sell_74 rfl (Nat.le_of_ble_eq_true rfl) (Nat.le_of_ble_eq_true rfl) (ex_ok (by unfold selE bstA; grind) (congrArg (fun z => some (gi z)) (rfl)) rfl (rfl))
      · skip
        exact g_throw thX3_sell_24 (Nat.le_of_ble_eq_true rfl) (Nat.le_of_ble_eq_true rfl) (by decide) (ex_th 1 (by unfold selE bstA; grind) rfl)
    · skip
      exact g_cS_t (My := mX3_needOfPerson_x) (gs := [_]) (c_X3_needOfPerson_x hV hs hs7) mfX3_needOfPerson_x rfl wst_X3_needOfPerson wm_X3_224 dX3_sell_7 (Nat.le_of_ble_eq_true rfl) rfl (fun _ => Nat.le_of_ble_eq_true rfl) (Nat.le_of_ble_eq_true rfl) (Nat.le_of_ble_eq_true rfl) rfl rfl rfl (ex_th 1 (by unfold selE; grind) rfl)
  · skip
    exact g_cV_t (My := mX3_stoneAt_x) (gs := [_]) (c_X3_stoneAt_x hV hx hs2) mfX3_stoneAt_x cf_4 wi_X3_stoneAt wsl_X3_stoneAt wm_X3_209 dX3_sell_2 (Nat.le_of_ble_eq_true rfl) rfl (by decide) (n2 (hL 0 rfl)) rfl (fun _ => Nat.le_of_ble_eq_true rfl) (Nat.le_of_ble_eq_true rfl) (Nat.le_of_ble_eq_true rfl) rfl rfl rfl (ex_th 0 (by unfold selE; grind) rfl)

set_option maxRecDepth 20000 in
theorem c_X3_hour {L : Nat → Nat} {A : Mem} (hV : VC L A) : Ct mX3_hour [gr 0] L A (pr (some (gi (A 0 9))) L A) := by
  have hL := vc_L hV
  have hnc := vc_nc hV; have hns := vc_ns hV; have hp0 := (vc_p hV).1
  refine Ct_of (ls := [(0, _)]) rfl (by decide) (fun _ => rfl) (fun _ => Nat.le_of_ble_eq_true rfl) ?_
  refine g_aload_n 0 dX3_hour_0 rfl rfl ?_
  refine g_getfi cf_4 9 rfl (by decide) (by decide) rfl (by decide) wf_X3_80 dX3_hour_1 (n2 (hL 0 rfl)) (fun h1_1 => ?_)
  exact g_iret dX3_hour_4 rfl (Nat.le_of_ble_eq_true rfl) (Nat.le_of_ble_eq_true rfl) (pr_i (rfl) (rfl))

