theorem xc_cg {L : Nat → Nat} {A B : Mem} (hX : XC L A) (h : ∀ n, (2 ≤ n ∧ n ≤ 5) → B n = A n) (h2 : ∀ n, (100 + 3 * (A 2 2).toNat ≤ n ∧ n < 200) ∨ 200 + 3 * (A 3 2).toNat ≤ n → B n = A n) : XC L B := by
  unfold XC LsE at *
  rw [h 2 (by omega), h 3 (by omega), h (2 + 2) (by omega), h (3 + 2) (by omega)]
  exact ⟨fun n q1 q2 => by rw [h2 n (by omega)]; exact hX.1 n q1 q2, fun n q1 => by rw [h2 n (by omega)]; exact hX.2.1 n q1, hX.2.2⟩
/-- the cell is open and empty, its stone is made -/
def opnA (A : Mem) (c : Int) : Mem := gup (gup A 14 c.toNat 0) 12 c.toNat 1
def unsC (A : Mem) (c w p : Int) : Mem := if 0 < A 14 c.toNat then addM (stnA (opnA A c) (A 3 2).toNat c (A 14 c.toNat) (A 15 c.toNat) w p) 3 (A 3 2).toNat else opnA A c
def uncA (A : Mem) (c w p : Int) : Mem := fallC (unsC A c w p) c
def uncL (L : Nat → Nat) (A : Mem) (c : Int) : Nat → Nat := if 0 < A 14 c.toNat then stoL L (A 3 2).toNat else L
theorem opnA_ne {A : Mem} {c : Int} {n : Nat} (h : n ≠ 14) (h2 : n ≠ 12) : opnA A c n = A n := by unfold opnA; rw [gup_ne h2, gup_ne h]
set_option maxHeartbeats 1000000 in
set_option maxRecDepth 20000 in
theorem t_unc {P : Pst} {L : Nat → Nat} {A : Mem} {s : Nat} {c w p f : Int} (hV : VC L A) (hX : XC L A) (hs : A 3 2 = s) (hs9 : s ≤ 99) (hc : 0 ≤ c ∧ c < 100) (hw : -2147483648 ≤ w ∧ w < 2147483648) (hp : -2147483648 ≤ p ∧ p < 2147483648) (hf : -2147483648 ≤ f ∧ f < 2147483648)
    (hP : P (.inr (some (gi f))) (stoL L s) (fallC (addM (stnA (opnA A c) s c f (A 15 c.toNat) w p) 3 s) c)) : GW mX3_uncover P 0 0 36 [(0, gr 0), (1, gi c), (2, gi w), (3, gi p), (4, gi f)] [] L (opnA A c) := by
  have hL := vc_L hV
  have h0 : L 0 = 2 := hL 0 rfl
  have h1 : L 1 = 2 := hL 1 rfl
  have h3 : L 3 = 2 := hL 3 rfl
  have hB : ∀ n, n ≠ 14 → n ≠ 12 → opnA A c n = A n := fun n q1 q2 => opnA_ne q1 q2
  have hn12 := vc_nc hV
  have hd5 : ∀ n, 136 ≤ n → n < 200 → L n = 0 := fun n q1 q2 => (hX.1 n (by omega) q2).1
  have hd0 : ∀ n, 200 + 3 * s ≤ n → L n = 0 := fun n q => (hX.2.1 n (by omega)).1
  have hz0 : ∀ n, 200 + 3 * s ≤ n → ∀ j, opnA A c n j = 0 := fun n q j => by rw [hB n (by omega) (by omega)]; exact (hX.2.1 n (by omega)).2 j
  have h4 : L 4 ≠ 0 → opnA A c 4 1 ≤ 12 := fun h => by rw [hB 4 (by omega) (by omega)]; have := xc_4 (k := (A 2 2).toNat) hV hX (by omega) h; omega
  have h5 : L 5 ≠ 0 → opnA A c 5 1 ≤ s := fun h => by rw [hB 5 (by omega) (by omega)]; exact xc_5 hV hX hs h
  have hg := vc_g hV
  have hd15 := hg.2.2.2.1 c.toNat
  have hne : ∀ m, m < 200 + 3 * s → (gset (gset (gset (gset L (200 + 3 * s) 1) (201 + 3 * s) 2) (202 + 3 * s) 2) (200 + 3 * s) 2) m = L m := fun m hm => by rw [gset_ne (by omega), gset_ne (by omega), gset_ne (by omega), gset_ne (by omega)]
  refine g_aload_n 0 dX3_uncover_36 rfl rfl ?_
  refine g_getfr cf_4 2 (n := 0) rfl (by decide) (by decide) rfl (by decide) wf_X3_23 dX3_uncover_37 h0 ?_
  refine g_new2 (n := 200 + 3 * s) cf_3 (ly_s0 s) (by decide) (hd0 _ (by omega)) rfl (Nat.le_of_ble_eq_true rfl) (Nat.le_of_ble_eq_true rfl) wc_X3_218 wt_X2 wn_X2 dX3_uncover_40 (fun eD a j hj => def_3 _ _ eD a j hj) (nr_stone (s := s) (t := 0) (by omega) (by omega) hd5 (fun m q => hd0 m (by omega)) h4 h5 (fun h => absurd h (by omega))) ⟨(by simp only [List.forall_mem_cons]; exact ⟨okv_r (n2 h0) (by decide), okv_i _, okv_i _, okv_i _, okv_i _, fun _ h => absurd h List.not_mem_nil⟩), (by simp only [List.forall_mem_cons]; exact ⟨okv_r (n2 h3) (by decide), fun _ h => absurd h List.not_mem_nil⟩)⟩ ?_
  rw [gz_id (hz0 _ (by omega))]
  refine g_dup dX3_uncover_43 (c1_r _) ?_
  refine g_iload_n 1 dX3_uncover_44 rfl rfl ?_
  refine g_iload 4 dX3_uncover_45 rfl ?_
  refine g_aload_n 0 dX3_uncover_47 rfl rfl ?_
  refine g_getfr cf_4 0 (n := 0) rfl (by decide) (by decide) rfl (by decide) wf_X3_12 dX3_uncover_48 (by rw [gset_ne (by omega)]; exact h0) ?_
  refine g_getfr cf_2 3 (n := 1) rfl (by decide) (by decide) rfl (by decide) wf_X3_77 dX3_uncover_51 (by rw [gset_ne (by omega)]; exact h1) ?_
  refine g_iload_n 1 dX3_uncover_54 rfl rfl ?_
  refine g_ia (N := 100) (n := 15) hc.1 hc.2 rfl (by decide) dX3_uncover_55 (by rw [gset_ne (by omega)]; exact n2 (hL 15 rfl)) (fun _ => ?_)
  rw [hB 15 (by omega) (by omega)]
  refine g_iload_n 2 dX3_uncover_56 rfl rfl ?_
  refine g_iload_n 3 dX3_uncover_57 rfl rfl ?_
  refine g_cIB_v (My := mX2_init) (gs := [_, _, _, _, _]) (st := [gr (200 + 3 * s), gr 3]) (c_X2_init (by omega) hf (by omega) hw hp gset_eq (fun n q1 q2 => by rw [gset_ne (by omega)]; exact hd5 n q1 q2) (fun n q => by rw [gset_ne (by omega)]; exact hd0 n (by omega)) (fun h => by rw [gset_ne (by omega)] at h; exact h4 h) (fun h => by rw [gset_ne (by omega)] at h; exact h5 h) (hz0 _ (by omega))) mfX2_init rfl rfl wi_X2_init wm_X3_378 dX3_uncover_58 (Nat.le_of_ble_eq_true rfl) rfl (fun _ => Nat.le_of_ble_eq_true rfl) (Nat.le_of_ble_eq_true rfl) (Nat.le_of_ble_eq_true rfl) rfl ⟨(by simp only [List.forall_mem_cons]; exact ⟨okv_r (by rw [gset_ne (by omega)]; exact n2 h0) (by decide), okv_i _, okv_i _, okv_i _, okv_i _, fun _ h => absurd h List.not_mem_nil⟩), (by simp only [List.forall_mem_cons]; exact ⟨okv_r (by rw [gset_eq]; decide) (by rw [ly_s0]; decide), okv_r (by rw [gset_ne (by omega)]; exact n2 h3) (by decide), fun _ h => absurd h List.not_mem_nil⟩)⟩ rfl ?_
  have hC := c_addX (L := gset (gset (gset (gset L (200 + 3 * s) 1) (201 + 3 * s) 2) (202 + 3 * s) 2) (200 + 3 * s) 2) (A := stnA (opnA A c) s c f (A 15 c.toNat) w p) (n := 3) (ci := 3) (k := s) (N9 := 11) (Or.inr rfl)
    (fun e => by
      have h := hX.2.2.2.1 (by omega)
      refine ⟨?_, ?_, ?_, ?_, ?_⟩
      · rw [hne 3 (by omega)]; exact h.1
      · rw [hne (3 + 2) (by omega)]; exact h.2.1
      · rw [stnA_ne (by omega), hB 3 (by omega) (by omega)]; exact h.2.2.1
      · rw [stnA_ne (by omega), hB 3 (by omega) (by omega)]; exact h.2.2.2.1
      · rw [stnA_ne (by omega), hB (3 + 2) (by omega) (by omega)]; exact h.2.2.2.2)
    (fun e => by
      have h := xc_F3 hV hX (by omega)
      refine ⟨?_, ?_, ?_, ?_, ?_, ?_, ?_, Or.inr rfl, ?_⟩
      · rw [hne 3 (by omega)]; exact h.1
      · rw [hne (3 + 2) (by omega)]; exact h.2.1
      · rw [stnA_ne (by omega), hB 3 (by omega) (by omega)]; exact h.2.2.1
      · rw [stnA_ne (by omega), stnA_ne (by omega), hB 3 (by omega) (by omega), hB (3 + 2) (by omega) (by omega)]; exact h.2.2.2.1
      · rw [stnA_ne (by omega), hB 3 (by omega) (by omega)]; exact h.2.2.2.2.1
      · rw [stnA_ne (by omega), stnA_ne (by omega), hB 3 (by omega) (by omega), hB (3 + 2) (by omega) (by omega)]; exact h.2.2.2.2.2.1
      · rw [stnA_ne (by omega), hB (3 + 2) (by omega) (by omega)]; exact h.2.2.2.2.2.2.1
      · rw [stnA_ne (by omega), hB 3 (by omega) (by omega)]
        intro j hj
        have h9 := h.2.2.2.2.2.2.2.2 j hj
        rw [hne _ (by rw [eln_5]; omega)]
        exact h9)
    (by rw [stnA_ne (by omega), hB 3 (by omega) (by omega)]; exact hs) (by omega) (Or.inr ⟨rfl, rfl⟩) gset_eq (ly_s0 s) (by rw [stnA_ne (by omega), hB 3 (by omega) (by omega), hX.2.2.2.2.2.2.2]; omega)
  rw [stoL_eq] at hC
  refine g_cVB_i (My := mJx4a65c_add_9ea2d) (gs := [_]) (st := []) hC mfJx4a65c_add_9ea2d cf_0 wi_Jx4a65c_add_9ea2d wsl_Jx4a65c_add_9ea2d wm_X3_108 dX3_uncover_61 (Nat.le_of_ble_eq_true rfl) rfl (by decide) (by rw [hne 3 (by omega)]; exact n2 h3) rfl (fun _ => Nat.le_of_ble_eq_true rfl) (Nat.le_of_ble_eq_true rfl) (Nat.le_of_ble_eq_true rfl) rfl ⟨(by simp only [List.forall_mem_cons]; exact ⟨okv_r (by rw [hne 0 (by omega)]; exact n2 h0) (by decide), okv_i _, okv_i _, okv_i _, okv_i _, fun _ h => absurd h List.not_mem_nil⟩), fun _ h => absurd h List.not_mem_nil⟩ rfl ?_
  refine g_pop dX3_uncover_64 (c1_i _) ?_
  have hLs : LC (stoL L s) := lc_keep hL (fun n hn => by
    unfold stoL
    rcases Nat.lt_or_ge n 100 with h | h
    · have := fx_lt n h hn
      rw [if_neg (by omega)]
    · split
      · have := hL n hn
        next q => rcases q with q | q
                  · omega
                  · rw [hd0 n (by omega)] at this; exact absurd this (by decide)
      · rfl)
  refine g_aload_n 0 dX3_uncover_65 rfl rfl ?_
  refine g_getfr cf_4 0 (n := 0) rfl (by decide) (by decide) rfl (by decide) wf_X3_12 dX3_uncover_66 (hLs 0 rfl) ?_
  refine g_iload_n 1 dX3_uncover_69 rfl rfl ?_
  refine g_cV_v (My := mX1_fall) (gs := [_]) (st := []) (c_X1_fall hLs hc) mfX1_fall cf_2 wi_X1_fall wsl_X1_fall wm_X3_379 dX3_uncover_70 (Nat.le_of_ble_eq_true rfl) rfl (by decide) (n2 (hLs 1 rfl)) rfl (fun _ => Nat.le_of_ble_eq_true rfl) (Nat.le_of_ble_eq_true rfl) (Nat.le_of_ble_eq_true rfl) rfl rfl ?_
  refine g_iload 4 dX3_uncover_73 rfl ?_
  exact g_iret dX3_uncover_75 rfl (Nat.le_of_ble_eq_true rfl) (Nat.le_of_ble_eq_true rfl) hP

set_option maxHeartbeats 2000000 in
set_option maxRecDepth 20000 in
theorem c_X3_uncover {L : Nat → Nat} {A : Mem} (hV : VC L A) (hX : XC L A) {c w p : Int} (hc : 0 ≤ c ∧ c < 100) (hw : -2147483648 ≤ w ∧ w < 2147483648) (hp : -2147483648 ≤ p ∧ p < 2147483648) (hs9 : 0 < A 14 c.toNat → A 3 2 ≤ 99) : Ct mX3_uncover [gr 0, gi c, gi w, gi p] L A (pr (some (gi (A 14 c.toNat))) (uncL L A c) (uncA A c w p)) := by
  have hL := vc_L hV
  have hnc := vc_nc hV; have hns := vc_ns hV; have hp0 := (vc_p hV).1
  refine Ct_of (ls := [(0, _), (1, _), (2, _), (3, _)]) rfl (by decide) (fun _ => rfl) (fun _ => Nat.le_of_ble_eq_true rfl) ?_
  refine g_aload_n 0 dX3_uncover_0 rfl rfl ?_
  refine g_getfr2 (r := 1) cf_4 0 rfl (by decide) (by decide) rfl (by decide) wf_X3_12 dX3_uncover_1 (hL 0 rfl) rfl ?_
  refine g_getfr2 (r := 14) cf_2 2 rfl (by decide) (by decide) rfl (by decide) wf_X3_74 dX3_uncover_4 (hL 1 rfl) rfl ?_
  refine g_iload_n 1 dX3_uncover_7 rfl rfl ?_
  refine g_ia (by omega) (by omega) rfl (by decide) dX3_uncover_8 (n2 (hL 14 rfl)) (fun h8_1 => ?_)
  refine g_st2 (ls2 := [(4, _), (0, _), (1, _), (2, _), (3, _)]) dX3_uncover_9 (by decide) (c1_cr (c1_ci (c1_ci (c1_ci c1_0)))) rfl ?_
  refine g_aload_n 1 dX3_uncover_11 rfl rfl ?_
  refine g_getfr2 (r := 1) cf_4 0 rfl (by decide) (by decide) rfl (by decide) wf_X3_12 dX3_uncover_12 (hL 0 rfl) rfl ?_
  refine g_getfr2 (r := 14) cf_2 2 rfl (by decide) (by decide) rfl (by decide) wf_X3_74 dX3_uncover_15 (hL 1 rfl) rfl ?_
  refine g_iload_n 2 dX3_uncover_18 rfl rfl ?_
  refine g_iconst dX3_uncover_19 ?_
  refine g_is (by omega) (by omega) (by omega) rfl (by decide) dX3_uncover_20 (n2 (hL 14 rfl)) ?_
  refine g_aload_n 1 dX3_uncover_21 rfl rfl ?_
  refine g_getfr2 (r := 1) cf_4 0 rfl (by decide) (by decide) rfl (by decide) wf_X3_12 dX3_uncover_22 (hL 0 rfl) rfl ?_
  refine g_getfr2 (r := 12) cf_2 0 rfl (by decide) (by decide) rfl (by decide) wf_X3_59 dX3_uncover_25 (hL 1 rfl) rfl ?_
  refine g_iload_n 2 dX3_uncover_28 rfl rfl ?_
  refine g_iconst dX3_uncover_29 ?_
  refine g_is (by omega) (by omega) (by omega) rfl (by decide) dX3_uncover_30 (n2 (hL 12 rfl)) ?_
  have hs32 : 0 < A 14 c.toNat → A 3 2 ≤ 99 := hs9
  have hg14 := (vc_g hV).2.2.1 c.toNat
  refine g_iload 0 dX3_uncover_31 rfl ?_
  refine g_if_le (tgt := 65) (by omega) dX3_uncover_33 (by decide) (fun h33_2 => ?_) (fun h33_2 => ?_)
  · skip
    refine g_aload_n 1 dX3_uncover_65 rfl rfl ?_
    refine g_getfr2 (r := 1) cf_4 0 rfl (by decide) (by decide) rfl (by decide) wf_X3_12 dX3_uncover_66 (hL 0 rfl) rfl ?_
    refine g_iload_n 2 dX3_uncover_69 rfl rfl ?_
    refine g_cV_v (My := mX1_fall) (gs := [_]) (c_X1_fall hL hc) mfX1_fall cf_2 wi_X1_fall wsl_X1_fall wm_X3_379 dX3_uncover_70 (Nat.le_of_ble_eq_true rfl) rfl (by decide) (n2 (hL 1 rfl)) rfl (fun _ => Nat.le_of_ble_eq_true rfl) (Nat.le_of_ble_eq_true rfl) (Nat.le_of_ble_eq_true rfl) rfl rfl ?_
    refine g_iload 0 dX3_uncover_73 rfl ?_
    exact g_iret dX3_uncover_75 rfl (Nat.le_of_ble_eq_true rfl) (Nat.le_of_ble_eq_true rfl) ⟨rfl, by unfold uncL; rw [if_neg (by omega)], by unfold uncA unsC; rw [if_neg (by omega)]; rfl⟩
  · skip
    refine g_sub [1, 2, 3, 4, 0] (ls2 := [(0, _), (1, _), (2, _), (3, _), (4, _)]) rfl ?_
    exact g_ls (by rfl) rfl rfl (t_unc hV hX (s := (A 3 2).toNat) (by omega) (by have := hs9 (by omega); omega) hc hw hp (by omega) ⟨rfl, by unfold uncL; rw [if_pos (by omega)], by unfold uncA unsC; rw [if_pos (by omega)]⟩)

