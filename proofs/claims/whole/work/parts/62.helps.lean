theorem mfX3_pegB : MF mX3_pegB 4 := mfX3_peg
/-- a whole number as an int holds it -/
def nrm (z : Int) : Int := (Int32.ofInt z).toInt
theorem nrm_rg (z : Int) : -2147483648 ≤ nrm z ∧ nrm z < 2147483648 := ⟨Int32.le_toInt _, Int32.toInt_lt _⟩
theorem nrm_of (z : Int) : Int32.ofInt (nrm z) = Int32.ofInt z := Int32.ofInt_toInt _
theorem gi_nrm (z : Int) : gi z = gi (nrm z) := by unfold gi; rw [nrm_of]
set_option maxRecDepth 100000 in
theorem wst_L_seam : Cond.static yL_seam ∈ WS := tb_in 128 (by decide +kernel) (by decide +kernel)
set_option maxRecDepth 100000 in
theorem wo_L_seam : Cond.codeWith yL_seam cL_seam 5 (some .int) [(0, 7, 10, 13), (0, 7, 14, 15), (0, 7, 18, 17)] ∈ WS := tb_in 129 (by decide +kernel) (by decide +kernel)
abbrev mL_seam : MD := (yL_seam, cL_seam, 5, (some .int), 3, 1, 6, false, [(0, 7, 10, 13), (0, 7, 14, 15), (0, 7, 18, 17)])
set_option maxRecDepth 100000 in
theorem mfL_seam : MFh mL_seam 4 := ⟨wo_L_seam, ⟨by decide, by decide⟩, by decide +kernel, wn_L, by decide, by decide⟩
set_option maxRecDepth 20000 in
theorem c_L_seam {L L2 : Nat → Nat} {A A2 : Mem} {E : Nat} {x0 x1 x2 : Int} (h0 : L 0 = 2) (hC : Ct mX3_seam [gr 0, gi x0, gi x1, gi x2] L A (exP [xIOE, xIAE, xISE] E none L2 A2 L A)) : Ct mL_seam [gr 0, gi x0, gi x1, gi x2] L A (pr (some (gi (E : Int))) (if E = 0 then L2 else L) (if E = 0 then A2 else A)) := by
  refine Ct_ofH (ls := [(0, _), (1, _), (2, _), (3, _)]) (by decide) (by decide) (fun _ => rfl) (fun _ => Nat.le_of_ble_eq_true rfl) ?_
  refine g_aload_n 0 dL_seam_0 rfl rfl ?_
  refine g_iload_n 1 dL_seam_1 rfl rfl ?_
  refine g_iload_n 2 dL_seam_2 rfl rfl ?_
  refine g_iload_n 3 dL_seam_3 rfl rfl ?_
  refine g_callVH (My := mX3_seam) (gs := [_, _, _]) (st := []) hC mfX3_seam cf_4 wi_X3_seam wsl_X3_seam wm_L_7 dL_seam_4 (Nat.le_of_ble_eq_true rfl) rfl (by decide) (n2 h0) rfl (fun _ => (Nat.le_of_ble_eq_true rfl)) (Nat.le_of_ble_eq_true rfl) (Nat.le_of_ble_eq_true rfl) (fun h => absurd h (by decide)) (Or.inl rfl) rfl (fun v L9 A9 h _ => ?_) (fun E9 L9 A9 h => ?_)
  · rcases h with ⟨hE0, hv, rfl, rfl⟩ | ⟨_, _, _, _, h1, _⟩
    · cases hv
      show GW mL_seam _ _ _ 7 [(0, gr 0), (1, gi x0), (2, gi x1), (3, gi x2)] [] _ _
      refine g_goto (tgt := 22) dL_seam_7 (by decide) ?_
      refine g_iconst dL_seam_22 ?_
      exact g_iret dL_seam_23 rfl (Nat.le_of_ble_eq_true rfl) (Nat.le_of_ble_eq_true rfl) ⟨by rw [hE0]; rfl, by rw [if_pos hE0], by rw [if_pos hE0]⟩
    · cases h1
  · rcases h with ⟨_, h1, _⟩ | ⟨k, E0, hk, hes, h1, rfl, rfl⟩
    · cases h1
    · cases h1
      rcases k with _ | _ | _ | k
      · cases hes
        refine ⟨10, ⟨(tableOf mL_seam.hh).take 0, (tableOf mL_seam.hh)[0]'(by decide), (tableOf mL_seam.hh).drop 1, rfl, fun z hz => absurd hz List.not_mem_nil, by decide, by decide, rfl, wc_L_13, by decide⟩, fun q => ?_⟩
        refine g_sax dL_seam_10 (by decide) ?_
        refine g_iconst dL_seam_12 ?_
        exact g_iret dL_seam_13 rfl (Nat.le_of_ble_eq_true rfl) (Nat.le_of_ble_eq_true rfl) ⟨by rw [hk]; rfl, by rw [if_neg (by omega)], by rw [if_neg (by omega)]⟩
      · cases hes
        refine ⟨14, ⟨(tableOf mL_seam.hh).take 1, (tableOf mL_seam.hh)[1]'(by decide), (tableOf mL_seam.hh).drop 2, rfl, fun z hz => by (rcases List.mem_cons.mp (show z ∈ _ :: _ from hz) with rfl | hz; exact Or.inr ⟨by decide, _, wc_L_13, by decide⟩; exact absurd hz List.not_mem_nil), by decide, by decide, rfl, wc_L_15, by decide⟩, fun q => ?_⟩
        refine g_sax dL_seam_14 (by decide) ?_
        refine g_iconst dL_seam_16 ?_
        exact g_iret dL_seam_17 rfl (Nat.le_of_ble_eq_true rfl) (Nat.le_of_ble_eq_true rfl) ⟨by rw [hk]; rfl, by rw [if_neg (by omega)], by rw [if_neg (by omega)]⟩
      · cases hes
        refine ⟨18, ⟨(tableOf mL_seam.hh).take 2, (tableOf mL_seam.hh)[2]'(by decide), (tableOf mL_seam.hh).drop 3, rfl, fun z hz => by (rcases List.mem_cons.mp (show z ∈ _ :: _ from hz) with rfl | hz; exact Or.inr ⟨by decide, _, wc_L_13, by decide⟩; rcases List.mem_cons.mp (show z ∈ _ :: _ from hz) with rfl | hz; exact Or.inr ⟨by decide, _, wc_L_15, by decide⟩; exact absurd hz List.not_mem_nil), by decide, by decide, rfl, wc_L_17, by decide⟩, fun q => ?_⟩
        refine g_sax dL_seam_18 (by decide) ?_
        refine g_iconst dL_seam_20 ?_
        exact g_iret dL_seam_21 rfl (Nat.le_of_ble_eq_true rfl) (Nat.le_of_ble_eq_true rfl) ⟨by rw [hk]; rfl, by rw [if_neg (by omega)], by rw [if_neg (by omega)]⟩
      · cases hes
set_option maxRecDepth 100000 in
theorem wst_L_pass : Cond.static yL_pass ∈ WS := tb_in 248 (by decide +kernel) (by decide +kernel)
set_option maxRecDepth 100000 in
theorem wo_L_pass : Cond.codeWith yL_pass cL_pass 4 (some .int) [(0, 9, 12, 15), (0, 9, 15, 17)] ∈ WS := tb_in 249 (by decide +kernel) (by decide +kernel)
abbrev mL_pass : MD := (yL_pass, cL_pass, 4, (some .int), 3, 1, 6, false, [(0, 9, 12, 15), (0, 9, 15, 17)])
set_option maxRecDepth 100000 in
theorem mfL_pass : MFh mL_pass 3 := ⟨wo_L_pass, ⟨by decide, by decide⟩, by decide +kernel, wn_L, by decide, by decide⟩
set_option maxRecDepth 20000 in
theorem c_L_pass {L L2 : Nat → Nat} {A A2 : Mem} {E : Nat} {x0 : Int} {V : Int} (h0 : L 0 = 2) (h18 : L 18 = 2) (h18b : L2 18 = 2) (hC : Ct mX3_pass [gr 0, gi x0] L A (exP [xIAE, xISE] E (some (gi V)) L2 A2 L A)) : Ct mL_pass [gr 0, gi x0, gr 18] L A (pr (some (gi (E : Int))) (if E = 0 then L2 else L) (if E = 0 then gup A2 18 0 (nrm V) else A)) := by
  refine Ct_ofH (ls := [(0, _), (1, _), (2, _)]) (by decide) (by decide) (fun _ => rfl) (fun _ => Nat.le_of_ble_eq_true rfl) ?_
  refine g_aload_n 2 dL_pass_0 rfl rfl ?_
  refine g_iconst dL_pass_1 ?_
  refine g_aload_n 0 dL_pass_2 rfl rfl ?_
  refine g_iload_n 1 dL_pass_3 rfl rfl ?_
  refine g_callVH (My := mX3_pass) (gs := [_]) (st := [gi 0, gr 18]) hC mfX3_pass cf_4 wi_X3_pass wsl_X3_pass wm_L_19 dL_pass_4 (Nat.le_of_ble_eq_true rfl) rfl (by decide) (n2 h0) rfl (fun _ => (Nat.le_of_ble_eq_true rfl)) (Nat.le_of_ble_eq_true rfl) (Nat.le_of_ble_eq_true rfl) (fun h => absurd h (by decide)) (Or.inl rfl) rfl (fun v L9 A9 h _ => ?_) (fun E9 L9 A9 h => ?_)
  · rcases h with ⟨hE0, hv, rfl, rfl⟩ | ⟨_, _, _, _, h1, _⟩
    · cases hv
      show GW mL_pass _ _ _ 7 [(0, gr 0), (1, gi x0), (2, gr 18)] [gi V, gi 0, gr 18] _ _
      rw [gi_nrm V]
      refine g_i2l (nrm_rg V) dL_pass_7 ?_
      refine g_last (N := 1) (n := 18) 0 rfl (by decide) (nrm_rg V) rfl (by decide) dL_pass_8 (n2 h18b) ?_
      refine g_goto (tgt := 18) dL_pass_9 (by decide) ?_
      refine g_iconst dL_pass_18 ?_
      exact g_iret dL_pass_19 rfl (Nat.le_of_ble_eq_true rfl) (Nat.le_of_ble_eq_true rfl) ⟨by rw [hE0]; rfl, by rw [if_pos hE0], by rw [if_pos hE0]⟩
    · cases h1
  · rcases h with ⟨_, h1, _⟩ | ⟨k, E0, hk, hes, h1, rfl, rfl⟩
    · cases h1
    · cases h1
      rcases k with _ | _ | k
      · cases hes
        refine ⟨12, ⟨(tableOf mL_pass.hh).take 0, (tableOf mL_pass.hh)[0]'(by decide), (tableOf mL_pass.hh).drop 1, rfl, fun z hz => absurd hz List.not_mem_nil, by decide, by decide, rfl, wc_L_15, by decide⟩, fun q => ?_⟩
        refine g_saxn (i := 3) dL_pass_12 rfl (by decide) ?_
        refine g_iconst dL_pass_13 ?_
        exact g_iret dL_pass_14 rfl (Nat.le_of_ble_eq_true rfl) (Nat.le_of_ble_eq_true rfl) ⟨by rw [hk]; rfl, by rw [if_neg (by omega)], by rw [if_neg (by omega)]⟩
      · cases hes
        refine ⟨15, ⟨(tableOf mL_pass.hh).take 1, (tableOf mL_pass.hh)[1]'(by decide), (tableOf mL_pass.hh).drop 2, rfl, fun z hz => by (rcases List.mem_cons.mp (show z ∈ _ :: _ from hz) with rfl | hz; exact Or.inr ⟨by decide, _, wc_L_15, by decide⟩; exact absurd hz List.not_mem_nil), by decide, by decide, rfl, wc_L_17, by decide⟩, fun q => ?_⟩
        refine g_saxn (i := 3) dL_pass_15 rfl (by decide) ?_
        refine g_iconst dL_pass_16 ?_
        exact g_iret dL_pass_17 rfl (Nat.le_of_ble_eq_true rfl) (Nat.le_of_ble_eq_true rfl) ⟨by rw [hk]; rfl, by rw [if_neg (by omega)], by rw [if_neg (by omega)]⟩
      · cases hes
set_option maxRecDepth 100000 in
theorem wst_L_peg : Cond.static yL_peg ∈ WS := tb_in 256 (by decide +kernel) (by decide +kernel)
set_option maxRecDepth 100000 in
theorem wo_L_peg : Cond.codeWith yL_peg cL_peg 7 (some .int) [(0, 14, 17, 13), (0, 14, 21, 15), (0, 14, 25, 17)] ∈ WS := tb_in 257 (by decide +kernel) (by decide +kernel)
abbrev mL_peg : MD := (yL_peg, cL_peg, 7, (some .int), 11, 4, 300, true, [(0, 14, 17, 13), (0, 14, 21, 15), (0, 14, 25, 17)])
set_option maxRecDepth 100000 in
theorem mfL_peg : MFh mL_peg 6 := ⟨wo_L_peg, ⟨by decide, by decide⟩, by decide +kernel, wn_L, by decide, by decide⟩
set_option maxRecDepth 20000 in
theorem c_L_peg {L L2 : Nat → Nat} {A A2 : Mem} {E : Nat} {x0 x1 x2 x3 : Int} {V : Int} (h0 : L 0 = 2) (h18 : L 18 = 2) (h18b : L2 18 = 2) (hC : Ct mX3_pegB [gr 0, gi x0, gi x1, gi x2, gi x3] L A (exP [xIOE, xIAE, xISE] E (some (gi V)) L2 A2 L A)) : Ct mL_peg [gr 0, gi x0, gi x1, gi x2, gi x3, gr 18] L A (pr (some (gi (E : Int))) (if E = 0 then L2 else L) (if E = 0 then gup A2 18 0 (nrm V) else A)) := by
  refine Ct_ofH (ls := [(0, _), (1, _), (2, _), (3, _), (4, _), (5, _)]) (by decide) (by decide) (fun _ => rfl) (fun _ => Nat.le_of_ble_eq_true rfl) ?_
  refine g_aload 5 dL_peg_0 rfl ?_
  refine g_iconst dL_peg_2 ?_
  refine g_aload_n 0 dL_peg_3 rfl rfl ?_
  refine g_iload_n 1 dL_peg_4 rfl rfl ?_
  refine g_iload_n 2 dL_peg_5 rfl rfl ?_
  refine g_iload_n 3 dL_peg_6 rfl rfl ?_
  refine g_iload 4 dL_peg_7 rfl ?_
  refine g_callVH (My := mX3_pegB) (gs := [_, _, _, _]) (st := [gi 0, gr 18]) hC mfX3_pegB cf_4 wi_X3_peg wsl_X3_peg wm_L_23 dL_peg_9 (Nat.le_of_ble_eq_true rfl) rfl (by decide) (n2 h0) rfl (fun _ => (Nat.le_of_ble_eq_true rfl)) (Nat.le_of_ble_eq_true rfl) (Nat.le_of_ble_eq_true rfl) (fun _ => rfl) (Or.inr ⟨(by simp only [List.forall_mem_cons]; exact ⟨okv_r (n2 h0) (by decide), okv_i _, okv_i _, okv_i _, okv_i _, okv_r (n2 h18) (by decide), fun _ h => absurd h List.not_mem_nil⟩), (by simp only [List.forall_mem_cons]; exact ⟨okv_i _, okv_r (n2 h18) (by decide), fun _ h => absurd h List.not_mem_nil⟩)⟩) rfl (fun v L9 A9 h _ => ?_) (fun E9 L9 A9 h => ?_)
  · rcases h with ⟨hE0, hv, rfl, rfl⟩ | ⟨_, _, _, _, h1, _⟩
    · cases hv
      show GW mL_peg _ _ _ 12 [(0, gr 0), (1, gi x0), (2, gi x1), (3, gi x2), (4, gi x3), (5, gr 18)] [gi V, gi 0, gr 18] _ _
      rw [gi_nrm V]
      refine g_i2l (nrm_rg V) dL_peg_12 ?_
      refine g_last (N := 1) (n := 18) 0 rfl (by decide) (nrm_rg V) rfl (by decide) dL_peg_13 (n2 h18b) ?_
      refine g_goto (tgt := 29) dL_peg_14 (by decide) ?_
      refine g_iconst dL_peg_29 ?_
      exact g_iret dL_peg_30 rfl (Nat.le_of_ble_eq_true rfl) (Nat.le_of_ble_eq_true rfl) ⟨by rw [hE0]; rfl, by rw [if_pos hE0], by rw [if_pos hE0]⟩
    · cases h1
  · rcases h with ⟨_, h1, _⟩ | ⟨k, E0, hk, hes, h1, rfl, rfl⟩
    · cases h1
    · cases h1
      rcases k with _ | _ | _ | k
      · cases hes
        refine ⟨17, ⟨(tableOf mL_peg.hh).take 0, (tableOf mL_peg.hh)[0]'(by decide), (tableOf mL_peg.hh).drop 1, rfl, fun z hz => absurd hz List.not_mem_nil, by decide, by decide, rfl, wc_L_13, by decide⟩, fun q => ?_⟩
        refine g_sax dL_peg_17 (by decide) ?_
        refine g_iconst dL_peg_19 ?_
        exact g_iret dL_peg_20 rfl (Nat.le_of_ble_eq_true rfl) (Nat.le_of_ble_eq_true rfl) ⟨by rw [hk]; rfl, by rw [if_neg (by omega)], by rw [if_neg (by omega)]⟩
      · cases hes
        refine ⟨21, ⟨(tableOf mL_peg.hh).take 1, (tableOf mL_peg.hh)[1]'(by decide), (tableOf mL_peg.hh).drop 2, rfl, fun z hz => by (rcases List.mem_cons.mp (show z ∈ _ :: _ from hz) with rfl | hz; exact Or.inr ⟨by decide, _, wc_L_13, by decide⟩; exact absurd hz List.not_mem_nil), by decide, by decide, rfl, wc_L_15, by decide⟩, fun q => ?_⟩
        refine g_sax dL_peg_21 (by decide) ?_
        refine g_iconst dL_peg_23 ?_
        exact g_iret dL_peg_24 rfl (Nat.le_of_ble_eq_true rfl) (Nat.le_of_ble_eq_true rfl) ⟨by rw [hk]; rfl, by rw [if_neg (by omega)], by rw [if_neg (by omega)]⟩
      · cases hes
        refine ⟨25, ⟨(tableOf mL_peg.hh).take 2, (tableOf mL_peg.hh)[2]'(by decide), (tableOf mL_peg.hh).drop 3, rfl, fun z hz => by (rcases List.mem_cons.mp (show z ∈ _ :: _ from hz) with rfl | hz; exact Or.inr ⟨by decide, _, wc_L_13, by decide⟩; rcases List.mem_cons.mp (show z ∈ _ :: _ from hz) with rfl | hz; exact Or.inr ⟨by decide, _, wc_L_15, by decide⟩; exact absurd hz List.not_mem_nil), by decide, by decide, rfl, wc_L_17, by decide⟩, fun q => ?_⟩
        refine g_sax dL_peg_25 (by decide) ?_
        refine g_iconst dL_peg_27 ?_
        exact g_iret dL_peg_28 rfl (Nat.le_of_ble_eq_true rfl) (Nat.le_of_ble_eq_true rfl) ⟨by rw [hk]; rfl, by rw [if_neg (by omega)], by rw [if_neg (by omega)]⟩
      · cases hes
set_option maxRecDepth 100000 in
theorem wst_L_witness : Cond.static yL_witness ∈ WS := tb_in 382 (by decide +kernel) (by decide +kernel)
set_option maxRecDepth 100000 in
theorem wo_L_witness : Cond.codeWith yL_witness cL_witness 6 (some .int) [(0, 12, 15, 13), (0, 12, 19, 15), (0, 12, 23, 17)] ∈ WS := tb_in 383 (by decide +kernel) (by decide +kernel)
abbrev mL_witness : MD := (yL_witness, cL_witness, 6, (some .int), 7, 1, 6, false, [(0, 12, 15, 13), (0, 12, 19, 15), (0, 12, 23, 17)])
set_option maxRecDepth 100000 in
theorem mfL_witness : MFh mL_witness 5 := ⟨wo_L_witness, ⟨by decide, by decide⟩, by decide +kernel, wn_L, by decide, by decide⟩
set_option maxRecDepth 20000 in
theorem c_L_witness {L L2 : Nat → Nat} {A A2 : Mem} {E : Nat} {x0 x1 x2 : Int} {V : Int} (h0 : L 0 = 2) (h18 : L 18 = 2) (h18b : L2 18 = 2) (hC : Ct mX3_witness [gr 0, gi x0, gi x1, gi x2] L A (exP [xIOE, xIAE, xISE] E (some (gi V)) L2 A2 L A)) : Ct mL_witness [gr 0, gi x0, gi x1, gi x2, gr 18] L A (pr (some (gi (E : Int))) (if E = 0 then L2 else L) (if E = 0 then gup A2 18 0 (nrm V) else A)) := by
  refine Ct_ofH (ls := [(0, _), (1, _), (2, _), (3, _), (4, _)]) (by decide) (by decide) (fun _ => rfl) (fun _ => Nat.le_of_ble_eq_true rfl) ?_
  refine g_aload 4 dL_witness_0 rfl ?_
  refine g_iconst dL_witness_2 ?_
  refine g_aload_n 0 dL_witness_3 rfl rfl ?_
  refine g_iload_n 1 dL_witness_4 rfl rfl ?_
  refine g_iload_n 2 dL_witness_5 rfl rfl ?_
  refine g_iload_n 3 dL_witness_6 rfl rfl ?_
  refine g_callVH (My := mX3_witness) (gs := [_, _, _]) (st := [gi 0, gr 18]) hC mfX3_witness cf_4 wi_X3_witness wsl_X3_witness wm_L_27 dL_witness_7 (Nat.le_of_ble_eq_true rfl) rfl (by decide) (n2 h0) rfl (fun _ => (Nat.le_of_ble_eq_true rfl)) (Nat.le_of_ble_eq_true rfl) (Nat.le_of_ble_eq_true rfl) (fun h => absurd h (by decide)) (Or.inl rfl) rfl (fun v L9 A9 h _ => ?_) (fun E9 L9 A9 h => ?_)
  · rcases h with ⟨hE0, hv, rfl, rfl⟩ | ⟨_, _, _, _, h1, _⟩
    · cases hv
      show GW mL_witness _ _ _ 10 [(0, gr 0), (1, gi x0), (2, gi x1), (3, gi x2), (4, gr 18)] [gi V, gi 0, gr 18] _ _
      rw [gi_nrm V]
      refine g_i2l (nrm_rg V) dL_witness_10 ?_
      refine g_last (N := 1) (n := 18) 0 rfl (by decide) (nrm_rg V) rfl (by decide) dL_witness_11 (n2 h18b) ?_
      refine g_goto (tgt := 27) dL_witness_12 (by decide) ?_
      refine g_iconst dL_witness_27 ?_
      exact g_iret dL_witness_28 rfl (Nat.le_of_ble_eq_true rfl) (Nat.le_of_ble_eq_true rfl) ⟨by rw [hE0]; rfl, by rw [if_pos hE0], by rw [if_pos hE0]⟩
    · cases h1
  · rcases h with ⟨_, h1, _⟩ | ⟨k, E0, hk, hes, h1, rfl, rfl⟩
    · cases h1
    · cases h1
      rcases k with _ | _ | _ | k
      · cases hes
        refine ⟨15, ⟨(tableOf mL_witness.hh).take 0, (tableOf mL_witness.hh)[0]'(by decide), (tableOf mL_witness.hh).drop 1, rfl, fun z hz => absurd hz List.not_mem_nil, by decide, by decide, rfl, wc_L_13, by decide⟩, fun q => ?_⟩
        refine g_sax dL_witness_15 (by decide) ?_
        refine g_iconst dL_witness_17 ?_
        exact g_iret dL_witness_18 rfl (Nat.le_of_ble_eq_true rfl) (Nat.le_of_ble_eq_true rfl) ⟨by rw [hk]; rfl, by rw [if_neg (by omega)], by rw [if_neg (by omega)]⟩
      · cases hes
        refine ⟨19, ⟨(tableOf mL_witness.hh).take 1, (tableOf mL_witness.hh)[1]'(by decide), (tableOf mL_witness.hh).drop 2, rfl, fun z hz => by (rcases List.mem_cons.mp (show z ∈ _ :: _ from hz) with rfl | hz; exact Or.inr ⟨by decide, _, wc_L_13, by decide⟩; exact absurd hz List.not_mem_nil), by decide, by decide, rfl, wc_L_15, by decide⟩, fun q => ?_⟩
        refine g_sax dL_witness_19 (by decide) ?_
        refine g_iconst dL_witness_21 ?_
        exact g_iret dL_witness_22 rfl (Nat.le_of_ble_eq_true rfl) (Nat.le_of_ble_eq_true rfl) ⟨by rw [hk]; rfl, by rw [if_neg (by omega)], by rw [if_neg (by omega)]⟩
      · cases hes
        refine ⟨23, ⟨(tableOf mL_witness.hh).take 2, (tableOf mL_witness.hh)[2]'(by decide), (tableOf mL_witness.hh).drop 3, rfl, fun z hz => by (rcases List.mem_cons.mp (show z ∈ _ :: _ from hz) with rfl | hz; exact Or.inr ⟨by decide, _, wc_L_13, by decide⟩; rcases List.mem_cons.mp (show z ∈ _ :: _ from hz) with rfl | hz; exact Or.inr ⟨by decide, _, wc_L_15, by decide⟩; exact absurd hz List.not_mem_nil), by decide, by decide, rfl, wc_L_17, by decide⟩, fun q => ?_⟩
        refine g_sax dL_witness_23 (by decide) ?_
        refine g_iconst dL_witness_25 ?_
        exact g_iret dL_witness_26 rfl (Nat.le_of_ble_eq_true rfl) (Nat.le_of_ble_eq_true rfl) ⟨by rw [hk]; rfl, by rw [if_neg (by omega)], by rw [if_neg (by omega)]⟩
      · cases hes
set_option maxRecDepth 100000 in
theorem wst_L_partner : Cond.static yL_partner ∈ WS := tb_in 425 (by decide +kernel) (by decide +kernel)
set_option maxRecDepth 100000 in
theorem wo_L_partner : Cond.codeWith yL_partner cL_partner 6 (some .int) [(0, 12, 15, 13), (0, 12, 19, 15), (0, 12, 23, 17)] ∈ WS := tb_in 426 (by decide +kernel) (by decide +kernel)
abbrev mL_partner : MD := (yL_partner, cL_partner, 6, (some .int), 7, 1, 6, false, [(0, 12, 15, 13), (0, 12, 19, 15), (0, 12, 23, 17)])
set_option maxRecDepth 100000 in
theorem mfL_partner : MFh mL_partner 5 := ⟨wo_L_partner, ⟨by decide, by decide⟩, by decide +kernel, wn_L, by decide, by decide⟩
set_option maxRecDepth 20000 in
theorem c_L_partner {L L2 : Nat → Nat} {A A2 : Mem} {E : Nat} {x0 x1 x2 : Int} {V : Int} (h0 : L 0 = 2) (h18 : L 18 = 2) (h18b : L2 18 = 2) (hC : Ct mX3_partner [gr 0, gi x0, gi x1, gi x2] L A (exP [xIOE, xIAE, xISE] E (some (gi V)) L2 A2 L A)) : Ct mL_partner [gr 0, gi x0, gi x1, gi x2, gr 18] L A (pr (some (gi (E : Int))) (if E = 0 then L2 else L) (if E = 0 then gup A2 18 0 (nrm V) else A)) := by
  refine Ct_ofH (ls := [(0, _), (1, _), (2, _), (3, _), (4, _)]) (by decide) (by decide) (fun _ => rfl) (fun _ => Nat.le_of_ble_eq_true rfl) ?_
  refine g_aload 4 dL_partner_0 rfl ?_
  refine g_iconst dL_partner_2 ?_
  refine g_aload_n 0 dL_partner_3 rfl rfl ?_
  refine g_iload_n 1 dL_partner_4 rfl rfl ?_
  refine g_iload_n 2 dL_partner_5 rfl rfl ?_
  refine g_iload_n 3 dL_partner_6 rfl rfl ?_
  refine g_callVH (My := mX3_partner) (gs := [_, _, _]) (st := [gi 0, gr 18]) hC mfX3_partner cf_4 wi_X3_partner wsl_X3_partner wm_L_31 dL_partner_7 (Nat.le_of_ble_eq_true rfl) rfl (by decide) (n2 h0) rfl (fun _ => (Nat.le_of_ble_eq_true rfl)) (Nat.le_of_ble_eq_true rfl) (Nat.le_of_ble_eq_true rfl) (fun h => absurd h (by decide)) (Or.inl rfl) rfl (fun v L9 A9 h _ => ?_) (fun E9 L9 A9 h => ?_)
  · rcases h with ⟨hE0, hv, rfl, rfl⟩ | ⟨_, _, _, _, h1, _⟩
    · cases hv
      show GW mL_partner _ _ _ 10 [(0, gr 0), (1, gi x0), (2, gi x1), (3, gi x2), (4, gr 18)] [gi V, gi 0, gr 18] _ _
      rw [gi_nrm V]
      refine g_i2l (nrm_rg V) dL_partner_10 ?_
      refine g_last (N := 1) (n := 18) 0 rfl (by decide) (nrm_rg V) rfl (by decide) dL_partner_11 (n2 h18b) ?_
      refine g_goto (tgt := 27) dL_partner_12 (by decide) ?_
      refine g_iconst dL_partner_27 ?_
      exact g_iret dL_partner_28 rfl (Nat.le_of_ble_eq_true rfl) (Nat.le_of_ble_eq_true rfl) ⟨by rw [hE0]; rfl, by rw [if_pos hE0], by rw [if_pos hE0]⟩
    · cases h1
  · rcases h with ⟨_, h1, _⟩ | ⟨k, E0, hk, hes, h1, rfl, rfl⟩
    · cases h1
    · cases h1
      rcases k with _ | _ | _ | k
      · cases hes
        refine ⟨15, ⟨(tableOf mL_partner.hh).take 0, (tableOf mL_partner.hh)[0]'(by decide), (tableOf mL_partner.hh).drop 1, rfl, fun z hz => absurd hz List.not_mem_nil, by decide, by decide, rfl, wc_L_13, by decide⟩, fun q => ?_⟩
        refine g_sax dL_partner_15 (by decide) ?_
        refine g_iconst dL_partner_17 ?_
        exact g_iret dL_partner_18 rfl (Nat.le_of_ble_eq_true rfl) (Nat.le_of_ble_eq_true rfl) ⟨by rw [hk]; rfl, by rw [if_neg (by omega)], by rw [if_neg (by omega)]⟩
      · cases hes
        refine ⟨19, ⟨(tableOf mL_partner.hh).take 1, (tableOf mL_partner.hh)[1]'(by decide), (tableOf mL_partner.hh).drop 2, rfl, fun z hz => by (rcases List.mem_cons.mp (show z ∈ _ :: _ from hz) with rfl | hz; exact Or.inr ⟨by decide, _, wc_L_13, by decide⟩; exact absurd hz List.not_mem_nil), by decide, by decide, rfl, wc_L_15, by decide⟩, fun q => ?_⟩
        refine g_sax dL_partner_19 (by decide) ?_
        refine g_iconst dL_partner_21 ?_
        exact g_iret dL_partner_22 rfl (Nat.le_of_ble_eq_true rfl) (Nat.le_of_ble_eq_true rfl) ⟨by rw [hk]; rfl, by rw [if_neg (by omega)], by rw [if_neg (by omega)]⟩
      · cases hes
        refine ⟨23, ⟨(tableOf mL_partner.hh).take 2, (tableOf mL_partner.hh)[2]'(by decide), (tableOf mL_partner.hh).drop 3, rfl, fun z hz => by (rcases List.mem_cons.mp (show z ∈ _ :: _ from hz) with rfl | hz; exact Or.inr ⟨by decide, _, wc_L_13, by decide⟩; rcases List.mem_cons.mp (show z ∈ _ :: _ from hz) with rfl | hz; exact Or.inr ⟨by decide, _, wc_L_15, by decide⟩; exact absurd hz List.not_mem_nil), by decide, by decide, rfl, wc_L_17, by decide⟩, fun q => ?_⟩
        refine g_sax dL_partner_23 (by decide) ?_
        refine g_iconst dL_partner_25 ?_
        exact g_iret dL_partner_26 rfl (Nat.le_of_ble_eq_true rfl) (Nat.le_of_ble_eq_true rfl) ⟨by rw [hk]; rfl, by rw [if_neg (by omega)], by rw [if_neg (by omega)]⟩
      · cases hes
set_option maxRecDepth 100000 in
theorem wst_L_dig : Cond.static yL_dig ∈ WS := tb_in 433 (by decide +kernel) (by decide +kernel)
set_option maxRecDepth 100000 in
theorem wo_L_dig : Cond.codeWith yL_dig cL_dig 6 (some .int) [(0, 12, 15, 13), (0, 12, 19, 17)] ∈ WS := tb_in 434 (by decide +kernel) (by decide +kernel)
abbrev mL_dig : MD := (yL_dig, cL_dig, 6, (some .int), 13, 4, 300, true, [(0, 12, 15, 13), (0, 12, 19, 17)])
set_option maxRecDepth 100000 in
theorem mfL_dig : MFh mL_dig 5 := ⟨wo_L_dig, ⟨by decide, by decide⟩, by decide +kernel, wn_L, by decide, by decide⟩
set_option maxRecDepth 20000 in
theorem c_L_dig {L L2 : Nat → Nat} {A A2 : Mem} {E : Nat} {x0 x1 x2 : Int} {V : Int} (h0 : L 0 = 2) (h18 : L 18 = 2) (h18b : L2 18 = 2) (hC : Ct mX3_dig [gr 0, gi x0, gi x1, gi x2] L A (exP [xIOE, xISE] E (some (gi V)) L2 A2 L A)) : Ct mL_dig [gr 0, gi x0, gi x1, gi x2, gr 18] L A (pr (some (gi (E : Int))) (if E = 0 then L2 else L) (if E = 0 then gup A2 18 0 (nrm V) else A)) := by
  refine Ct_ofH (ls := [(0, _), (1, _), (2, _), (3, _), (4, _)]) (by decide) (by decide) (fun _ => rfl) (fun _ => Nat.le_of_ble_eq_true rfl) ?_
  refine g_aload 4 dL_dig_0 rfl ?_
  refine g_iconst dL_dig_2 ?_
  refine g_aload_n 0 dL_dig_3 rfl rfl ?_
  refine g_iload_n 1 dL_dig_4 rfl rfl ?_
  refine g_iload_n 2 dL_dig_5 rfl rfl ?_
  refine g_iload_n 3 dL_dig_6 rfl rfl ?_
  refine g_callVH (My := mX3_dig) (gs := [_, _, _]) (st := [gi 0, gr 18]) hC mfX3_dig cf_4 wi_X3_dig wsl_X3_dig wm_L_34 dL_dig_7 (Nat.le_of_ble_eq_true rfl) rfl (by decide) (n2 h0) rfl (fun _ => (Nat.le_of_ble_eq_true rfl)) (Nat.le_of_ble_eq_true rfl) (Nat.le_of_ble_eq_true rfl) (fun _ => rfl) (Or.inr ⟨(by simp only [List.forall_mem_cons]; exact ⟨okv_r (n2 h0) (by decide), okv_i _, okv_i _, okv_i _, okv_r (n2 h18) (by decide), fun _ h => absurd h List.not_mem_nil⟩), (by simp only [List.forall_mem_cons]; exact ⟨okv_i _, okv_r (n2 h18) (by decide), fun _ h => absurd h List.not_mem_nil⟩)⟩) rfl (fun v L9 A9 h _ => ?_) (fun E9 L9 A9 h => ?_)
  · rcases h with ⟨hE0, hv, rfl, rfl⟩ | ⟨_, _, _, _, h1, _⟩
    · cases hv
      show GW mL_dig _ _ _ 10 [(0, gr 0), (1, gi x0), (2, gi x1), (3, gi x2), (4, gr 18)] [gi V, gi 0, gr 18] _ _
      rw [gi_nrm V]
      refine g_i2l (nrm_rg V) dL_dig_10 ?_
      refine g_last (N := 1) (n := 18) 0 rfl (by decide) (nrm_rg V) rfl (by decide) dL_dig_11 (n2 h18b) ?_
      refine g_goto (tgt := 23) dL_dig_12 (by decide) ?_
      refine g_iconst dL_dig_23 ?_
      exact g_iret dL_dig_24 rfl (Nat.le_of_ble_eq_true rfl) (Nat.le_of_ble_eq_true rfl) ⟨by rw [hE0]; rfl, by rw [if_pos hE0], by rw [if_pos hE0]⟩
    · cases h1
  · rcases h with ⟨_, h1, _⟩ | ⟨k, E0, hk, hes, h1, rfl, rfl⟩
    · cases h1
    · cases h1
      rcases k with _ | _ | k
      · cases hes
        refine ⟨15, ⟨(tableOf mL_dig.hh).take 0, (tableOf mL_dig.hh)[0]'(by decide), (tableOf mL_dig.hh).drop 1, rfl, fun z hz => absurd hz List.not_mem_nil, by decide, by decide, rfl, wc_L_13, by decide⟩, fun q => ?_⟩
        refine g_sax dL_dig_15 (by decide) ?_
        refine g_iconst dL_dig_17 ?_
        exact g_iret dL_dig_18 rfl (Nat.le_of_ble_eq_true rfl) (Nat.le_of_ble_eq_true rfl) ⟨by rw [hk]; rfl, by rw [if_neg (by omega)], by rw [if_neg (by omega)]⟩
      · cases hes
        refine ⟨19, ⟨(tableOf mL_dig.hh).take 1, (tableOf mL_dig.hh)[1]'(by decide), (tableOf mL_dig.hh).drop 2, rfl, fun z hz => by (rcases List.mem_cons.mp (show z ∈ _ :: _ from hz) with rfl | hz; exact Or.inr ⟨by decide, _, wc_L_13, by decide⟩; exact absurd hz List.not_mem_nil), by decide, by decide, rfl, wc_L_17, by decide⟩, fun q => ?_⟩
        refine g_sax dL_dig_19 (by decide) ?_
        refine g_iconst dL_dig_21 ?_
        exact g_iret dL_dig_22 rfl (Nat.le_of_ble_eq_true rfl) (Nat.le_of_ble_eq_true rfl) ⟨by rw [hk]; rfl, by rw [if_neg (by omega)], by rw [if_neg (by omega)]⟩
      · cases hes
set_option maxRecDepth 100000 in
theorem wst_L_sink : Cond.static yL_sink ∈ WS := tb_in 553 (by decide +kernel) (by decide +kernel)
set_option maxRecDepth 100000 in
theorem wo_L_sink : Cond.codeWith yL_sink cL_sink 6 (some .int) [(0, 12, 15, 13), (0, 12, 19, 17)] ∈ WS := tb_in 554 (by decide +kernel) (by decide +kernel)
abbrev mL_sink : MD := (yL_sink, cL_sink, 6, (some .int), 13, 4, 300, true, [(0, 12, 15, 13), (0, 12, 19, 17)])
set_option maxRecDepth 100000 in
theorem mfL_sink : MFh mL_sink 5 := ⟨wo_L_sink, ⟨by decide, by decide⟩, by decide +kernel, wn_L, by decide, by decide⟩
set_option maxRecDepth 20000 in
theorem c_L_sink {L L2 : Nat → Nat} {A A2 : Mem} {E : Nat} {x0 x1 x2 : Int} {V : Int} (h0 : L 0 = 2) (h18 : L 18 = 2) (h18b : L2 18 = 2) (hC : Ct mX3_sink [gr 0, gi x0, gi x1, gi x2] L A (exP [xIOE, xISE] E (some (gi V)) L2 A2 L A)) : Ct mL_sink [gr 0, gi x0, gi x1, gi x2, gr 18] L A (pr (some (gi (E : Int))) (if E = 0 then L2 else L) (if E = 0 then gup A2 18 0 (nrm V) else A)) := by
  refine Ct_ofH (ls := [(0, _), (1, _), (2, _), (3, _), (4, _)]) (by decide) (by decide) (fun _ => rfl) (fun _ => Nat.le_of_ble_eq_true rfl) ?_
  refine g_aload 4 dL_sink_0 rfl ?_
  refine g_iconst dL_sink_2 ?_
  refine g_aload_n 0 dL_sink_3 rfl rfl ?_
  refine g_iload_n 1 dL_sink_4 rfl rfl ?_
  refine g_iload_n 2 dL_sink_5 rfl rfl ?_
  refine g_iload_n 3 dL_sink_6 rfl rfl ?_
  refine g_callVH (My := mX3_sink) (gs := [_, _, _]) (st := [gi 0, gr 18]) hC mfX3_sink cf_4 wi_X3_sink wsl_X3_sink wm_L_37 dL_sink_7 (Nat.le_of_ble_eq_true rfl) rfl (by decide) (n2 h0) rfl (fun _ => (Nat.le_of_ble_eq_true rfl)) (Nat.le_of_ble_eq_true rfl) (Nat.le_of_ble_eq_true rfl) (fun _ => rfl) (Or.inr ⟨(by simp only [List.forall_mem_cons]; exact ⟨okv_r (n2 h0) (by decide), okv_i _, okv_i _, okv_i _, okv_r (n2 h18) (by decide), fun _ h => absurd h List.not_mem_nil⟩), (by simp only [List.forall_mem_cons]; exact ⟨okv_i _, okv_r (n2 h18) (by decide), fun _ h => absurd h List.not_mem_nil⟩)⟩) rfl (fun v L9 A9 h _ => ?_) (fun E9 L9 A9 h => ?_)
  · rcases h with ⟨hE0, hv, rfl, rfl⟩ | ⟨_, _, _, _, h1, _⟩
    · cases hv
      show GW mL_sink _ _ _ 10 [(0, gr 0), (1, gi x0), (2, gi x1), (3, gi x2), (4, gr 18)] [gi V, gi 0, gr 18] _ _
      rw [gi_nrm V]
      refine g_i2l (nrm_rg V) dL_sink_10 ?_
      refine g_last (N := 1) (n := 18) 0 rfl (by decide) (nrm_rg V) rfl (by decide) dL_sink_11 (n2 h18b) ?_
      refine g_goto (tgt := 23) dL_sink_12 (by decide) ?_
      refine g_iconst dL_sink_23 ?_
      exact g_iret dL_sink_24 rfl (Nat.le_of_ble_eq_true rfl) (Nat.le_of_ble_eq_true rfl) ⟨by rw [hE0]; rfl, by rw [if_pos hE0], by rw [if_pos hE0]⟩
    · cases h1
  · rcases h with ⟨_, h1, _⟩ | ⟨k, E0, hk, hes, h1, rfl, rfl⟩
    · cases h1
    · cases h1
      rcases k with _ | _ | k
      · cases hes
        refine ⟨15, ⟨(tableOf mL_sink.hh).take 0, (tableOf mL_sink.hh)[0]'(by decide), (tableOf mL_sink.hh).drop 1, rfl, fun z hz => absurd hz List.not_mem_nil, by decide, by decide, rfl, wc_L_13, by decide⟩, fun q => ?_⟩
        refine g_sax dL_sink_15 (by decide) ?_
        refine g_iconst dL_sink_17 ?_
        exact g_iret dL_sink_18 rfl (Nat.le_of_ble_eq_true rfl) (Nat.le_of_ble_eq_true rfl) ⟨by rw [hk]; rfl, by rw [if_neg (by omega)], by rw [if_neg (by omega)]⟩
      · cases hes
        refine ⟨19, ⟨(tableOf mL_sink.hh).take 1, (tableOf mL_sink.hh)[1]'(by decide), (tableOf mL_sink.hh).drop 2, rfl, fun z hz => by (rcases List.mem_cons.mp (show z ∈ _ :: _ from hz) with rfl | hz; exact Or.inr ⟨by decide, _, wc_L_13, by decide⟩; exact absurd hz List.not_mem_nil), by decide, by decide, rfl, wc_L_17, by decide⟩, fun q => ?_⟩
        refine g_sax dL_sink_19 (by decide) ?_
        refine g_iconst dL_sink_21 ?_
        exact g_iret dL_sink_22 rfl (Nat.le_of_ble_eq_true rfl) (Nat.le_of_ble_eq_true rfl) ⟨by rw [hk]; rfl, by rw [if_neg (by omega)], by rw [if_neg (by omega)]⟩
      · cases hes
set_option maxRecDepth 100000 in
theorem wst_L_prop : Cond.static yL_prop ∈ WS := tb_in 563 (by decide +kernel) (by decide +kernel)
set_option maxRecDepth 100000 in
theorem wo_L_prop : Cond.codeWith yL_prop cL_prop 5 (some .int) [(0, 7, 10, 13), (0, 7, 14, 17)] ∈ WS := tb_in 564 (by decide +kernel) (by decide +kernel)
abbrev mL_prop : MD := (yL_prop, cL_prop, 5, (some .int), 8, 1, 6, false, [(0, 7, 10, 13), (0, 7, 14, 17)])
set_option maxRecDepth 100000 in
theorem mfL_prop : MFh mL_prop 4 := ⟨wo_L_prop, ⟨by decide, by decide⟩, by decide +kernel, wn_L, by decide, by decide⟩
set_option maxRecDepth 20000 in
theorem c_L_prop {L L2 : Nat → Nat} {A A2 : Mem} {E : Nat} {x0 x1 x2 : Int} (h0 : L 0 = 2) (hC : Ct mX3_prop [gr 0, gi x0, gi x1, gi x2] L A (exP [xIOE, xISE] E none L2 A2 L A)) : Ct mL_prop [gr 0, gi x0, gi x1, gi x2] L A (pr (some (gi (E : Int))) (if E = 0 then L2 else L) (if E = 0 then A2 else A)) := by
  refine Ct_ofH (ls := [(0, _), (1, _), (2, _), (3, _)]) (by decide) (by decide) (fun _ => rfl) (fun _ => Nat.le_of_ble_eq_true rfl) ?_
  refine g_aload_n 0 dL_prop_0 rfl rfl ?_
  refine g_iload_n 1 dL_prop_1 rfl rfl ?_
  refine g_iload_n 2 dL_prop_2 rfl rfl ?_
  refine g_iload_n 3 dL_prop_3 rfl rfl ?_
  refine g_callVH (My := mX3_prop) (gs := [_, _, _]) (st := []) hC mfX3_prop cf_4 wi_X3_prop wsl_X3_prop wm_L_40 dL_prop_4 (Nat.le_of_ble_eq_true rfl) rfl (by decide) (n2 h0) rfl (fun _ => (Nat.le_of_ble_eq_true rfl)) (Nat.le_of_ble_eq_true rfl) (Nat.le_of_ble_eq_true rfl) (fun h => absurd h (by decide)) (Or.inl rfl) rfl (fun v L9 A9 h _ => ?_) (fun E9 L9 A9 h => ?_)
  · rcases h with ⟨hE0, hv, rfl, rfl⟩ | ⟨_, _, _, _, h1, _⟩
    · cases hv
      show GW mL_prop _ _ _ 7 [(0, gr 0), (1, gi x0), (2, gi x1), (3, gi x2)] [] _ _
      refine g_goto (tgt := 18) dL_prop_7 (by decide) ?_
      refine g_iconst dL_prop_18 ?_
      exact g_iret dL_prop_19 rfl (Nat.le_of_ble_eq_true rfl) (Nat.le_of_ble_eq_true rfl) ⟨by rw [hE0]; rfl, by rw [if_pos hE0], by rw [if_pos hE0]⟩
    · cases h1
  · rcases h with ⟨_, h1, _⟩ | ⟨k, E0, hk, hes, h1, rfl, rfl⟩
    · cases h1
    · cases h1
      rcases k with _ | _ | k
      · cases hes
        refine ⟨10, ⟨(tableOf mL_prop.hh).take 0, (tableOf mL_prop.hh)[0]'(by decide), (tableOf mL_prop.hh).drop 1, rfl, fun z hz => absurd hz List.not_mem_nil, by decide, by decide, rfl, wc_L_13, by decide⟩, fun q => ?_⟩
        refine g_sax dL_prop_10 (by decide) ?_
        refine g_iconst dL_prop_12 ?_
        exact g_iret dL_prop_13 rfl (Nat.le_of_ble_eq_true rfl) (Nat.le_of_ble_eq_true rfl) ⟨by rw [hk]; rfl, by rw [if_neg (by omega)], by rw [if_neg (by omega)]⟩
      · cases hes
        refine ⟨14, ⟨(tableOf mL_prop.hh).take 1, (tableOf mL_prop.hh)[1]'(by decide), (tableOf mL_prop.hh).drop 2, rfl, fun z hz => by (rcases List.mem_cons.mp (show z ∈ _ :: _ from hz) with rfl | hz; exact Or.inr ⟨by decide, _, wc_L_13, by decide⟩; exact absurd hz List.not_mem_nil), by decide, by decide, rfl, wc_L_17, by decide⟩, fun q => ?_⟩
        refine g_sax dL_prop_14 (by decide) ?_
        refine g_iconst dL_prop_16 ?_
        exact g_iret dL_prop_17 rfl (Nat.le_of_ble_eq_true rfl) (Nat.le_of_ble_eq_true rfl) ⟨by rw [hk]; rfl, by rw [if_neg (by omega)], by rw [if_neg (by omega)]⟩
      · cases hes
set_option maxRecDepth 100000 in
theorem wst_L_trap : Cond.static yL_trap ∈ WS := tb_in 572 (by decide +kernel) (by decide +kernel)
set_option maxRecDepth 100000 in
theorem wo_L_trap : Cond.codeWith yL_trap cL_trap 6 (some .int) [(0, 12, 15, 13), (0, 12, 19, 17)] ∈ WS := tb_in 573 (by decide +kernel) (by decide +kernel)
abbrev mL_trap : MD := (yL_trap, cL_trap, 6, (some .int), 8, 1, 6, false, [(0, 12, 15, 13), (0, 12, 19, 17)])
set_option maxRecDepth 100000 in
theorem mfL_trap : MFh mL_trap 5 := ⟨wo_L_trap, ⟨by decide, by decide⟩, by decide +kernel, wn_L, by decide, by decide⟩
set_option maxRecDepth 20000 in
theorem c_L_trap {L L2 : Nat → Nat} {A A2 : Mem} {E : Nat} {x0 x1 x2 : Int} {V : Int} (h0 : L 0 = 2) (h18 : L 18 = 2) (h18b : L2 18 = 2) (hC : Ct mX3_trap [gr 0, gi x0, gi x1, gi x2] L A (exP [xIOE, xISE] E (some (gi V)) L2 A2 L A)) : Ct mL_trap [gr 0, gi x0, gi x1, gi x2, gr 18] L A (pr (some (gi (E : Int))) (if E = 0 then L2 else L) (if E = 0 then gup A2 18 0 (nrm V) else A)) := by
  refine Ct_ofH (ls := [(0, _), (1, _), (2, _), (3, _), (4, _)]) (by decide) (by decide) (fun _ => rfl) (fun _ => Nat.le_of_ble_eq_true rfl) ?_
  refine g_aload 4 dL_trap_0 rfl ?_
  refine g_iconst dL_trap_2 ?_
  refine g_aload_n 0 dL_trap_3 rfl rfl ?_
  refine g_iload_n 1 dL_trap_4 rfl rfl ?_
  refine g_iload_n 2 dL_trap_5 rfl rfl ?_
  refine g_iload_n 3 dL_trap_6 rfl rfl ?_
  refine g_callVH (My := mX3_trap) (gs := [_, _, _]) (st := [gi 0, gr 18]) hC mfX3_trap cf_4 wi_X3_trap wsl_X3_trap wm_L_43 dL_trap_7 (Nat.le_of_ble_eq_true rfl) rfl (by decide) (n2 h0) rfl (fun _ => (Nat.le_of_ble_eq_true rfl)) (Nat.le_of_ble_eq_true rfl) (Nat.le_of_ble_eq_true rfl) (fun h => absurd h (by decide)) (Or.inl rfl) rfl (fun v L9 A9 h _ => ?_) (fun E9 L9 A9 h => ?_)
  · rcases h with ⟨hE0, hv, rfl, rfl⟩ | ⟨_, _, _, _, h1, _⟩
    · cases hv
      show GW mL_trap _ _ _ 10 [(0, gr 0), (1, gi x0), (2, gi x1), (3, gi x2), (4, gr 18)] [gi V, gi 0, gr 18] _ _
      rw [gi_nrm V]
      refine g_i2l (nrm_rg V) dL_trap_10 ?_
      refine g_last (N := 1) (n := 18) 0 rfl (by decide) (nrm_rg V) rfl (by decide) dL_trap_11 (n2 h18b) ?_
      refine g_goto (tgt := 23) dL_trap_12 (by decide) ?_
      refine g_iconst dL_trap_23 ?_
      exact g_iret dL_trap_24 rfl (Nat.le_of_ble_eq_true rfl) (Nat.le_of_ble_eq_true rfl) ⟨by rw [hE0]; rfl, by rw [if_pos hE0], by rw [if_pos hE0]⟩
    · cases h1
  · rcases h with ⟨_, h1, _⟩ | ⟨k, E0, hk, hes, h1, rfl, rfl⟩
    · cases h1
    · cases h1
      rcases k with _ | _ | k
      · cases hes
        refine ⟨15, ⟨(tableOf mL_trap.hh).take 0, (tableOf mL_trap.hh)[0]'(by decide), (tableOf mL_trap.hh).drop 1, rfl, fun z hz => absurd hz List.not_mem_nil, by decide, by decide, rfl, wc_L_13, by decide⟩, fun q => ?_⟩
        refine g_sax dL_trap_15 (by decide) ?_
        refine g_iconst dL_trap_17 ?_
        exact g_iret dL_trap_18 rfl (Nat.le_of_ble_eq_true rfl) (Nat.le_of_ble_eq_true rfl) ⟨by rw [hk]; rfl, by rw [if_neg (by omega)], by rw [if_neg (by omega)]⟩
      · cases hes
        refine ⟨19, ⟨(tableOf mL_trap.hh).take 1, (tableOf mL_trap.hh)[1]'(by decide), (tableOf mL_trap.hh).drop 2, rfl, fun z hz => by (rcases List.mem_cons.mp (show z ∈ _ :: _ from hz) with rfl | hz; exact Or.inr ⟨by decide, _, wc_L_13, by decide⟩; exact absurd hz List.not_mem_nil), by decide, by decide, rfl, wc_L_17, by decide⟩, fun q => ?_⟩
        refine g_sax dL_trap_19 (by decide) ?_
        refine g_iconst dL_trap_21 ?_
        exact g_iret dL_trap_22 rfl (Nat.le_of_ble_eq_true rfl) (Nat.le_of_ble_eq_true rfl) ⟨by rw [hk]; rfl, by rw [if_neg (by omega)], by rw [if_neg (by omega)]⟩
      · cases hes
set_option maxRecDepth 100000 in
theorem wst_L_rat : Cond.static yL_rat ∈ WS := tb_in 586 (by decide +kernel) (by decide +kernel)
set_option maxRecDepth 100000 in
theorem wo_L_rat : Cond.codeWith yL_rat cL_rat 5 (some .int) [(0, 10, 13, 13), (0, 10, 17, 17)] ∈ WS := tb_in 587 (by decide +kernel) (by decide +kernel)
abbrev mL_rat : MD := (yL_rat, cL_rat, 5, (some .int), 12, 4, 300, true, [(0, 10, 13, 13), (0, 10, 17, 17)])
set_option maxRecDepth 100000 in
theorem mfL_rat : MFh mL_rat 4 := ⟨wo_L_rat, ⟨by decide, by decide⟩, by decide +kernel, wn_L, by decide, by decide⟩
set_option maxRecDepth 20000 in
theorem c_L_rat {L L2 : Nat → Nat} {A A2 : Mem} {E : Nat} {x0 x1 : Int} {V : Int} (h0 : L 0 = 2) (h18 : L 18 = 2) (h18b : L2 18 = 2) (hC : Ct mX3_rat [gr 0, gi x0, gi x1] L A (exP [xIOE, xISE] E (some (gi V)) L2 A2 L A)) : Ct mL_rat [gr 0, gi x0, gi x1, gr 18] L A (pr (some (gi (E : Int))) (if E = 0 then L2 else L) (if E = 0 then gup A2 18 0 (nrm V) else A)) := by
  refine Ct_ofH (ls := [(0, _), (1, _), (2, _), (3, _)]) (by decide) (by decide) (fun _ => rfl) (fun _ => Nat.le_of_ble_eq_true rfl) ?_
  refine g_aload_n 3 dL_rat_0 rfl rfl ?_
  refine g_iconst dL_rat_1 ?_
  refine g_aload_n 0 dL_rat_2 rfl rfl ?_
  refine g_iload_n 1 dL_rat_3 rfl rfl ?_
  refine g_iload_n 2 dL_rat_4 rfl rfl ?_
  refine g_callVH (My := mX3_rat) (gs := [_, _]) (st := [gi 0, gr 18]) hC mfX3_rat cf_4 wi_X3_rat wsl_X3_rat wm_L_46 dL_rat_5 (Nat.le_of_ble_eq_true rfl) rfl (by decide) (n2 h0) rfl (fun _ => (Nat.le_of_ble_eq_true rfl)) (Nat.le_of_ble_eq_true rfl) (Nat.le_of_ble_eq_true rfl) (fun _ => rfl) (Or.inr ⟨(by simp only [List.forall_mem_cons]; exact ⟨okv_r (n2 h0) (by decide), okv_i _, okv_i _, okv_r (n2 h18) (by decide), fun _ h => absurd h List.not_mem_nil⟩), (by simp only [List.forall_mem_cons]; exact ⟨okv_i _, okv_r (n2 h18) (by decide), fun _ h => absurd h List.not_mem_nil⟩)⟩) rfl (fun v L9 A9 h _ => ?_) (fun E9 L9 A9 h => ?_)
  · rcases h with ⟨hE0, hv, rfl, rfl⟩ | ⟨_, _, _, _, h1, _⟩
    · cases hv
      show GW mL_rat _ _ _ 8 [(0, gr 0), (1, gi x0), (2, gi x1), (3, gr 18)] [gi V, gi 0, gr 18] _ _
      rw [gi_nrm V]
      refine g_i2l (nrm_rg V) dL_rat_8 ?_
      refine g_last (N := 1) (n := 18) 0 rfl (by decide) (nrm_rg V) rfl (by decide) dL_rat_9 (n2 h18b) ?_
      refine g_goto (tgt := 21) dL_rat_10 (by decide) ?_
      refine g_iconst dL_rat_21 ?_
      exact g_iret dL_rat_22 rfl (Nat.le_of_ble_eq_true rfl) (Nat.le_of_ble_eq_true rfl) ⟨by rw [hE0]; rfl, by rw [if_pos hE0], by rw [if_pos hE0]⟩
    · cases h1
  · rcases h with ⟨_, h1, _⟩ | ⟨k, E0, hk, hes, h1, rfl, rfl⟩
    · cases h1
    · cases h1
      rcases k with _ | _ | k
      · cases hes
        refine ⟨13, ⟨(tableOf mL_rat.hh).take 0, (tableOf mL_rat.hh)[0]'(by decide), (tableOf mL_rat.hh).drop 1, rfl, fun z hz => absurd hz List.not_mem_nil, by decide, by decide, rfl, wc_L_13, by decide⟩, fun q => ?_⟩
        refine g_sax dL_rat_13 (by decide) ?_
        refine g_iconst dL_rat_15 ?_
        exact g_iret dL_rat_16 rfl (Nat.le_of_ble_eq_true rfl) (Nat.le_of_ble_eq_true rfl) ⟨by rw [hk]; rfl, by rw [if_neg (by omega)], by rw [if_neg (by omega)]⟩
      · cases hes
        refine ⟨17, ⟨(tableOf mL_rat.hh).take 1, (tableOf mL_rat.hh)[1]'(by decide), (tableOf mL_rat.hh).drop 2, rfl, fun z hz => by (rcases List.mem_cons.mp (show z ∈ _ :: _ from hz) with rfl | hz; exact Or.inr ⟨by decide, _, wc_L_13, by decide⟩; exact absurd hz List.not_mem_nil), by decide, by decide, rfl, wc_L_17, by decide⟩, fun q => ?_⟩
        refine g_sax dL_rat_17 (by decide) ?_
        refine g_iconst dL_rat_19 ?_
        exact g_iret dL_rat_20 rfl (Nat.le_of_ble_eq_true rfl) (Nat.le_of_ble_eq_true rfl) ⟨by rw [hk]; rfl, by rw [if_neg (by omega)], by rw [if_neg (by omega)]⟩
      · cases hes
set_option maxRecDepth 100000 in
theorem wst_L_divide : Cond.static yL_divide ∈ WS := tb_in 599 (by decide +kernel) (by decide +kernel)
set_option maxRecDepth 100000 in
theorem wo_L_divide : Cond.codeWith yL_divide cL_divide 4 (some .int) [(0, 9, 12, 13), (0, 9, 15, 17)] ∈ WS := tb_in 600 (by decide +kernel) (by decide +kernel)
abbrev mL_divide : MD := (yL_divide, cL_divide, 4, (some .int), 7, 1, 6, false, [(0, 9, 12, 13), (0, 9, 15, 17)])
set_option maxRecDepth 100000 in
theorem mfL_divide : MFh mL_divide 3 := ⟨wo_L_divide, ⟨by decide, by decide⟩, by decide +kernel, wn_L, by decide, by decide⟩
set_option maxRecDepth 20000 in
theorem c_L_divide {L L2 : Nat → Nat} {A A2 : Mem} {E : Nat} {x0 : Int} {V : Int} (h0 : L 0 = 2) (h18 : L 18 = 2) (h18b : L2 18 = 2) (hC : Ct mX3_divide [gr 0, gi x0] L A (exP [xIOE, xISE] E (some (gi V)) L2 A2 L A)) : Ct mL_divide [gr 0, gi x0, gr 18] L A (pr (some (gi (E : Int))) (if E = 0 then L2 else L) (if E = 0 then gup A2 18 0 (nrm V) else A)) := by
  refine Ct_ofH (ls := [(0, _), (1, _), (2, _)]) (by decide) (by decide) (fun _ => rfl) (fun _ => Nat.le_of_ble_eq_true rfl) ?_
  refine g_aload_n 2 dL_divide_0 rfl rfl ?_
  refine g_iconst dL_divide_1 ?_
  refine g_aload_n 0 dL_divide_2 rfl rfl ?_
  refine g_iload_n 1 dL_divide_3 rfl rfl ?_
  refine g_callVH (My := mX3_divide) (gs := [_]) (st := [gi 0, gr 18]) hC mfX3_divide cf_4 wi_X3_divide wsl_X3_divide wm_L_50 dL_divide_4 (Nat.le_of_ble_eq_true rfl) rfl (by decide) (n2 h0) rfl (fun _ => (Nat.le_of_ble_eq_true rfl)) (Nat.le_of_ble_eq_true rfl) (Nat.le_of_ble_eq_true rfl) (fun h => absurd h (by decide)) (Or.inl rfl) rfl (fun v L9 A9 h _ => ?_) (fun E9 L9 A9 h => ?_)
  · rcases h with ⟨hE0, hv, rfl, rfl⟩ | ⟨_, _, _, _, h1, _⟩
    · cases hv
      show GW mL_divide _ _ _ 7 [(0, gr 0), (1, gi x0), (2, gr 18)] [gi V, gi 0, gr 18] _ _
      rw [gi_nrm V]
      refine g_i2l (nrm_rg V) dL_divide_7 ?_
      refine g_last (N := 1) (n := 18) 0 rfl (by decide) (nrm_rg V) rfl (by decide) dL_divide_8 (n2 h18b) ?_
      refine g_goto (tgt := 18) dL_divide_9 (by decide) ?_
      refine g_iconst dL_divide_18 ?_
      exact g_iret dL_divide_19 rfl (Nat.le_of_ble_eq_true rfl) (Nat.le_of_ble_eq_true rfl) ⟨by rw [hE0]; rfl, by rw [if_pos hE0], by rw [if_pos hE0]⟩
    · cases h1
  · rcases h with ⟨_, h1, _⟩ | ⟨k, E0, hk, hes, h1, rfl, rfl⟩
    · cases h1
    · cases h1
      rcases k with _ | _ | k
      · cases hes
        refine ⟨12, ⟨(tableOf mL_divide.hh).take 0, (tableOf mL_divide.hh)[0]'(by decide), (tableOf mL_divide.hh).drop 1, rfl, fun z hz => absurd hz List.not_mem_nil, by decide, by decide, rfl, wc_L_13, by decide⟩, fun q => ?_⟩
        refine g_saxn (i := 3) dL_divide_12 rfl (by decide) ?_
        refine g_iconst dL_divide_13 ?_
        exact g_iret dL_divide_14 rfl (Nat.le_of_ble_eq_true rfl) (Nat.le_of_ble_eq_true rfl) ⟨by rw [hk]; rfl, by rw [if_neg (by omega)], by rw [if_neg (by omega)]⟩
      · cases hes
        refine ⟨15, ⟨(tableOf mL_divide.hh).take 1, (tableOf mL_divide.hh)[1]'(by decide), (tableOf mL_divide.hh).drop 2, rfl, fun z hz => by (rcases List.mem_cons.mp (show z ∈ _ :: _ from hz) with rfl | hz; exact Or.inr ⟨by decide, _, wc_L_13, by decide⟩; exact absurd hz List.not_mem_nil), by decide, by decide, rfl, wc_L_17, by decide⟩, fun q => ?_⟩
        refine g_saxn (i := 3) dL_divide_15 rfl (by decide) ?_
        refine g_iconst dL_divide_16 ?_
        exact g_iret dL_divide_17 rfl (Nat.le_of_ble_eq_true rfl) (Nat.le_of_ble_eq_true rfl) ⟨by rw [hk]; rfl, by rw [if_neg (by omega)], by rw [if_neg (by omega)]⟩
      · cases hes
set_option maxRecDepth 100000 in
theorem wst_L_rub : Cond.static yL_rub ∈ WS := tb_in 642 (by decide +kernel) (by decide +kernel)
set_option maxRecDepth 100000 in
theorem wo_L_rub : Cond.codeWith yL_rub cL_rub 4 (some .int) [(0, 9, 12, 13), (0, 9, 15, 17)] ∈ WS := tb_in 643 (by decide +kernel) (by decide +kernel)
abbrev mL_rub : MD := (yL_rub, cL_rub, 4, (some .int), 7, 1, 6, false, [(0, 9, 12, 13), (0, 9, 15, 17)])
set_option maxRecDepth 100000 in
theorem mfL_rub : MFh mL_rub 3 := ⟨wo_L_rub, ⟨by decide, by decide⟩, by decide +kernel, wn_L, by decide, by decide⟩
set_option maxRecDepth 20000 in
theorem c_L_rub {L L2 : Nat → Nat} {A A2 : Mem} {E : Nat} {x0 : Int} {V : Int} (h0 : L 0 = 2) (h18 : L 18 = 2) (h18b : L2 18 = 2) (hC : Ct mX3_rub [gr 0, gi x0] L A (exP [xIOE, xISE] E (some (gi V)) L2 A2 L A)) : Ct mL_rub [gr 0, gi x0, gr 18] L A (pr (some (gi (E : Int))) (if E = 0 then L2 else L) (if E = 0 then gup A2 18 0 (nrm V) else A)) := by
  refine Ct_ofH (ls := [(0, _), (1, _), (2, _)]) (by decide) (by decide) (fun _ => rfl) (fun _ => Nat.le_of_ble_eq_true rfl) ?_
  refine g_aload_n 2 dL_rub_0 rfl rfl ?_
  refine g_iconst dL_rub_1 ?_
  refine g_aload_n 0 dL_rub_2 rfl rfl ?_
  refine g_iload_n 1 dL_rub_3 rfl rfl ?_
  refine g_callVH (My := mX3_rub) (gs := [_]) (st := [gi 0, gr 18]) hC mfX3_rub cf_4 wi_X3_rub wsl_X3_rub wm_L_53 dL_rub_4 (Nat.le_of_ble_eq_true rfl) rfl (by decide) (n2 h0) rfl (fun _ => (Nat.le_of_ble_eq_true rfl)) (Nat.le_of_ble_eq_true rfl) (Nat.le_of_ble_eq_true rfl) (fun h => absurd h (by decide)) (Or.inl rfl) rfl (fun v L9 A9 h _ => ?_) (fun E9 L9 A9 h => ?_)
  · rcases h with ⟨hE0, hv, rfl, rfl⟩ | ⟨_, _, _, _, h1, _⟩
    · cases hv
      show GW mL_rub _ _ _ 7 [(0, gr 0), (1, gi x0), (2, gr 18)] [gi V, gi 0, gr 18] _ _
      rw [gi_nrm V]
      refine g_i2l (nrm_rg V) dL_rub_7 ?_
      refine g_last (N := 1) (n := 18) 0 rfl (by decide) (nrm_rg V) rfl (by decide) dL_rub_8 (n2 h18b) ?_
      refine g_goto (tgt := 18) dL_rub_9 (by decide) ?_
      refine g_iconst dL_rub_18 ?_
      exact g_iret dL_rub_19 rfl (Nat.le_of_ble_eq_true rfl) (Nat.le_of_ble_eq_true rfl) ⟨by rw [hE0]; rfl, by rw [if_pos hE0], by rw [if_pos hE0]⟩
    · cases h1
  · rcases h with ⟨_, h1, _⟩ | ⟨k, E0, hk, hes, h1, rfl, rfl⟩
    · cases h1
    · cases h1
      rcases k with _ | _ | k
      · cases hes
        refine ⟨12, ⟨(tableOf mL_rub.hh).take 0, (tableOf mL_rub.hh)[0]'(by decide), (tableOf mL_rub.hh).drop 1, rfl, fun z hz => absurd hz List.not_mem_nil, by decide, by decide, rfl, wc_L_13, by decide⟩, fun q => ?_⟩
        refine g_saxn (i := 3) dL_rub_12 rfl (by decide) ?_
        refine g_iconst dL_rub_13 ?_
        exact g_iret dL_rub_14 rfl (Nat.le_of_ble_eq_true rfl) (Nat.le_of_ble_eq_true rfl) ⟨by rw [hk]; rfl, by rw [if_neg (by omega)], by rw [if_neg (by omega)]⟩
      · cases hes
        refine ⟨15, ⟨(tableOf mL_rub.hh).take 1, (tableOf mL_rub.hh)[1]'(by decide), (tableOf mL_rub.hh).drop 2, rfl, fun z hz => by (rcases List.mem_cons.mp (show z ∈ _ :: _ from hz) with rfl | hz; exact Or.inr ⟨by decide, _, wc_L_13, by decide⟩; exact absurd hz List.not_mem_nil), by decide, by decide, rfl, wc_L_17, by decide⟩, fun q => ?_⟩
        refine g_saxn (i := 3) dL_rub_15 rfl (by decide) ?_
        refine g_iconst dL_rub_16 ?_
        exact g_iret dL_rub_17 rfl (Nat.le_of_ble_eq_true rfl) (Nat.le_of_ble_eq_true rfl) ⟨by rw [hk]; rfl, by rw [if_neg (by omega)], by rw [if_neg (by omega)]⟩
      · cases hes
set_option maxRecDepth 100000 in
theorem wst_L_bid : Cond.static yL_bid ∈ WS := tb_in 659 (by decide +kernel) (by decide +kernel)
set_option maxRecDepth 100000 in
theorem wo_L_bid : Cond.codeWith yL_bid cL_bid 6 (some .int) [(0, 12, 15, 13), (0, 12, 19, 15), (0, 12, 23, 17)] ∈ WS := tb_in 660 (by decide +kernel) (by decide +kernel)
abbrev mL_bid : MD := (yL_bid, cL_bid, 6, (some .int), 7, 1, 6, false, [(0, 12, 15, 13), (0, 12, 19, 15), (0, 12, 23, 17)])
set_option maxRecDepth 100000 in
theorem mfL_bid : MFh mL_bid 5 := ⟨wo_L_bid, ⟨by decide, by decide⟩, by decide +kernel, wn_L, by decide, by decide⟩
set_option maxRecDepth 20000 in
theorem c_L_bid {L L2 : Nat → Nat} {A A2 : Mem} {E : Nat} {x0 x1 x2 : Int} {V : Int} (h0 : L 0 = 2) (h18 : L 18 = 2) (h18b : L2 18 = 2) (hC : Ct mX3_bid [gr 0, gi x0, gi x1, gi x2] L A (exP [xIOE, xIAE, xISE] E (some (gi V)) L2 A2 L A)) : Ct mL_bid [gr 0, gi x0, gi x1, gi x2, gr 18] L A (pr (some (gi (E : Int))) (if E = 0 then L2 else L) (if E = 0 then gup A2 18 0 (nrm V) else A)) := by
  refine Ct_ofH (ls := [(0, _), (1, _), (2, _), (3, _), (4, _)]) (by decide) (by decide) (fun _ => rfl) (fun _ => Nat.le_of_ble_eq_true rfl) ?_
  refine g_aload 4 dL_bid_0 rfl ?_
  refine g_iconst dL_bid_2 ?_
  refine g_aload_n 0 dL_bid_3 rfl rfl ?_
  refine g_iload_n 1 dL_bid_4 rfl rfl ?_
  refine g_iload_n 2 dL_bid_5 rfl rfl ?_
  refine g_iload_n 3 dL_bid_6 rfl rfl ?_
  refine g_callVH (My := mX3_bid) (gs := [_, _, _]) (st := [gi 0, gr 18]) hC mfX3_bid cf_4 wi_X3_bid wsl_X3_bid wm_L_56 dL_bid_7 (Nat.le_of_ble_eq_true rfl) rfl (by decide) (n2 h0) rfl (fun _ => (Nat.le_of_ble_eq_true rfl)) (Nat.le_of_ble_eq_true rfl) (Nat.le_of_ble_eq_true rfl) (fun h => absurd h (by decide)) (Or.inl rfl) rfl (fun v L9 A9 h _ => ?_) (fun E9 L9 A9 h => ?_)
  · rcases h with ⟨hE0, hv, rfl, rfl⟩ | ⟨_, _, _, _, h1, _⟩
    · cases hv
      show GW mL_bid _ _ _ 10 [(0, gr 0), (1, gi x0), (2, gi x1), (3, gi x2), (4, gr 18)] [gi V, gi 0, gr 18] _ _
      rw [gi_nrm V]
      refine g_i2l (nrm_rg V) dL_bid_10 ?_
      refine g_last (N := 1) (n := 18) 0 rfl (by decide) (nrm_rg V) rfl (by decide) dL_bid_11 (n2 h18b) ?_
      refine g_goto (tgt := 27) dL_bid_12 (by decide) ?_
      refine g_iconst dL_bid_27 ?_
      exact g_iret dL_bid_28 rfl (Nat.le_of_ble_eq_true rfl) (Nat.le_of_ble_eq_true rfl) ⟨by rw [hE0]; rfl, by rw [if_pos hE0], by rw [if_pos hE0]⟩
    · cases h1
  · rcases h with ⟨_, h1, _⟩ | ⟨k, E0, hk, hes, h1, rfl, rfl⟩
    · cases h1
    · cases h1
      rcases k with _ | _ | _ | k
      · cases hes
        refine ⟨15, ⟨(tableOf mL_bid.hh).take 0, (tableOf mL_bid.hh)[0]'(by decide), (tableOf mL_bid.hh).drop 1, rfl, fun z hz => absurd hz List.not_mem_nil, by decide, by decide, rfl, wc_L_13, by decide⟩, fun q => ?_⟩
        refine g_sax dL_bid_15 (by decide) ?_
        refine g_iconst dL_bid_17 ?_
        exact g_iret dL_bid_18 rfl (Nat.le_of_ble_eq_true rfl) (Nat.le_of_ble_eq_true rfl) ⟨by rw [hk]; rfl, by rw [if_neg (by omega)], by rw [if_neg (by omega)]⟩
      · cases hes
        refine ⟨19, ⟨(tableOf mL_bid.hh).take 1, (tableOf mL_bid.hh)[1]'(by decide), (tableOf mL_bid.hh).drop 2, rfl, fun z hz => by (rcases List.mem_cons.mp (show z ∈ _ :: _ from hz) with rfl | hz; exact Or.inr ⟨by decide, _, wc_L_13, by decide⟩; exact absurd hz List.not_mem_nil), by decide, by decide, rfl, wc_L_15, by decide⟩, fun q => ?_⟩
        refine g_sax dL_bid_19 (by decide) ?_
        refine g_iconst dL_bid_21 ?_
        exact g_iret dL_bid_22 rfl (Nat.le_of_ble_eq_true rfl) (Nat.le_of_ble_eq_true rfl) ⟨by rw [hk]; rfl, by rw [if_neg (by omega)], by rw [if_neg (by omega)]⟩
      · cases hes
        refine ⟨23, ⟨(tableOf mL_bid.hh).take 2, (tableOf mL_bid.hh)[2]'(by decide), (tableOf mL_bid.hh).drop 3, rfl, fun z hz => by (rcases List.mem_cons.mp (show z ∈ _ :: _ from hz) with rfl | hz; exact Or.inr ⟨by decide, _, wc_L_13, by decide⟩; rcases List.mem_cons.mp (show z ∈ _ :: _ from hz) with rfl | hz; exact Or.inr ⟨by decide, _, wc_L_15, by decide⟩; exact absurd hz List.not_mem_nil), by decide, by decide, rfl, wc_L_17, by decide⟩, fun q => ?_⟩
        refine g_sax dL_bid_23 (by decide) ?_
        refine g_iconst dL_bid_25 ?_
        exact g_iret dL_bid_26 rfl (Nat.le_of_ble_eq_true rfl) (Nat.le_of_ble_eq_true rfl) ⟨by rw [hk]; rfl, by rw [if_neg (by omega)], by rw [if_neg (by omega)]⟩
      · cases hes
set_option maxRecDepth 100000 in
theorem wst_L_sell : Cond.static yL_sell ∈ WS := tb_in 672 (by decide +kernel) (by decide +kernel)
set_option maxRecDepth 100000 in
theorem wo_L_sell : Cond.codeWith yL_sell cL_sell 4 (some .int) [(0, 9, 12, 13), (0, 9, 15, 17)] ∈ WS := tb_in 673 (by decide +kernel) (by decide +kernel)
abbrev mL_sell : MD := (yL_sell, cL_sell, 4, (some .int), 7, 1, 6, false, [(0, 9, 12, 13), (0, 9, 15, 17)])
set_option maxRecDepth 100000 in
theorem mfL_sell : MFh mL_sell 3 := ⟨wo_L_sell, ⟨by decide, by decide⟩, by decide +kernel, wn_L, by decide, by decide⟩
set_option maxRecDepth 20000 in
theorem c_L_sell {L L2 : Nat → Nat} {A A2 : Mem} {E : Nat} {x0 : Int} {V : Int} (h0 : L 0 = 2) (h18 : L 18 = 2) (h18b : L2 18 = 2) (hC : Ct mX3_sell [gr 0, gi x0] L A (exP [xIOE, xISE] E (some (gi V)) L2 A2 L A)) : Ct mL_sell [gr 0, gi x0, gr 18] L A (pr (some (gi (E : Int))) (if E = 0 then L2 else L) (if E = 0 then gup A2 18 0 (nrm V) else A)) := by
  refine Ct_ofH (ls := [(0, _), (1, _), (2, _)]) (by decide) (by decide) (fun _ => rfl) (fun _ => Nat.le_of_ble_eq_true rfl) ?_
  refine g_aload_n 2 dL_sell_0 rfl rfl ?_
  refine g_iconst dL_sell_1 ?_
  refine g_aload_n 0 dL_sell_2 rfl rfl ?_
  refine g_iload_n 1 dL_sell_3 rfl rfl ?_
  refine g_callVH (My := mX3_sell) (gs := [_]) (st := [gi 0, gr 18]) hC mfX3_sell cf_4 wi_X3_sell wsl_X3_sell wm_L_59 dL_sell_4 (Nat.le_of_ble_eq_true rfl) rfl (by decide) (n2 h0) rfl (fun _ => (Nat.le_of_ble_eq_true rfl)) (Nat.le_of_ble_eq_true rfl) (Nat.le_of_ble_eq_true rfl) (fun h => absurd h (by decide)) (Or.inl rfl) rfl (fun v L9 A9 h _ => ?_) (fun E9 L9 A9 h => ?_)
  · rcases h with ⟨hE0, hv, rfl, rfl⟩ | ⟨_, _, _, _, h1, _⟩
    · cases hv
      show GW mL_sell _ _ _ 7 [(0, gr 0), (1, gi x0), (2, gr 18)] [gi V, gi 0, gr 18] _ _
      rw [gi_nrm V]
      refine g_i2l (nrm_rg V) dL_sell_7 ?_
      refine g_last (N := 1) (n := 18) 0 rfl (by decide) (nrm_rg V) rfl (by decide) dL_sell_8 (n2 h18b) ?_
      refine g_goto (tgt := 18) dL_sell_9 (by decide) ?_
      refine g_iconst dL_sell_18 ?_
      exact g_iret dL_sell_19 rfl (Nat.le_of_ble_eq_true rfl) (Nat.le_of_ble_eq_true rfl) ⟨by rw [hE0]; rfl, by rw [if_pos hE0], by rw [if_pos hE0]⟩
    · cases h1
  · rcases h with ⟨_, h1, _⟩ | ⟨k, E0, hk, hes, h1, rfl, rfl⟩
    · cases h1
    · cases h1
      rcases k with _ | _ | k
      · cases hes
        refine ⟨12, ⟨(tableOf mL_sell.hh).take 0, (tableOf mL_sell.hh)[0]'(by decide), (tableOf mL_sell.hh).drop 1, rfl, fun z hz => absurd hz List.not_mem_nil, by decide, by decide, rfl, wc_L_13, by decide⟩, fun q => ?_⟩
        refine g_saxn (i := 3) dL_sell_12 rfl (by decide) ?_
        refine g_iconst dL_sell_13 ?_
        exact g_iret dL_sell_14 rfl (Nat.le_of_ble_eq_true rfl) (Nat.le_of_ble_eq_true rfl) ⟨by rw [hk]; rfl, by rw [if_neg (by omega)], by rw [if_neg (by omega)]⟩
      · cases hes
        refine ⟨15, ⟨(tableOf mL_sell.hh).take 1, (tableOf mL_sell.hh)[1]'(by decide), (tableOf mL_sell.hh).drop 2, rfl, fun z hz => by (rcases List.mem_cons.mp (show z ∈ _ :: _ from hz) with rfl | hz; exact Or.inr ⟨by decide, _, wc_L_13, by decide⟩; exact absurd hz List.not_mem_nil), by decide, by decide, rfl, wc_L_17, by decide⟩, fun q => ?_⟩
        refine g_saxn (i := 3) dL_sell_15 rfl (by decide) ?_
        refine g_iconst dL_sell_16 ?_
        exact g_iret dL_sell_17 rfl (Nat.le_of_ble_eq_true rfl) (Nat.le_of_ble_eq_true rfl) ⟨by rw [hk]; rfl, by rw [if_neg (by omega)], by rw [if_neg (by omega)]⟩
      · cases hes
set_option maxRecDepth 100000 in
theorem wst_L_bore : Cond.static yL_bore ∈ WS := tb_in 688 (by decide +kernel) (by decide +kernel)
set_option maxRecDepth 100000 in
theorem wo_L_bore : Cond.codeWith yL_bore cL_bore 4 (some .int) [(0, 9, 12, 13)] ∈ WS := tb_in 689 (by decide +kernel) (by decide +kernel)
abbrev mL_bore : MD := (yL_bore, cL_bore, 4, (some .int), 4, 1, 6, false, [(0, 9, 12, 13)])
set_option maxRecDepth 100000 in
theorem mfL_bore : MFh mL_bore 3 := ⟨wo_L_bore, ⟨by decide, by decide⟩, by decide +kernel, wn_L, by decide, by decide⟩
set_option maxRecDepth 20000 in
theorem c_L_bore {L L2 : Nat → Nat} {A A2 : Mem} {E : Nat} {x0 : Int} {V : Int} (h0 : L 0 = 2) (h18 : L 18 = 2) (h18b : L2 18 = 2) (hC : Ct mX3_bore [gr 0, gi x0] L A (exP [xIOE] E (some (gi V)) L2 A2 L A)) : Ct mL_bore [gr 0, gi x0, gr 18] L A (pr (some (gi (E : Int))) (if E = 0 then L2 else L) (if E = 0 then gup A2 18 0 (nrm V) else A)) := by
  refine Ct_ofH (ls := [(0, _), (1, _), (2, _)]) (by decide) (by decide) (fun _ => rfl) (fun _ => Nat.le_of_ble_eq_true rfl) ?_
  refine g_aload_n 2 dL_bore_0 rfl rfl ?_
  refine g_iconst dL_bore_1 ?_
  refine g_aload_n 0 dL_bore_2 rfl rfl ?_
  refine g_iload_n 1 dL_bore_3 rfl rfl ?_
  refine g_callVH (My := mX3_bore) (gs := [_]) (st := [gi 0, gr 18]) hC mfX3_bore cf_4 wi_X3_bore wsl_X3_bore wm_L_62 dL_bore_4 (Nat.le_of_ble_eq_true rfl) rfl (by decide) (n2 h0) rfl (fun _ => (Nat.le_of_ble_eq_true rfl)) (Nat.le_of_ble_eq_true rfl) (Nat.le_of_ble_eq_true rfl) (fun h => absurd h (by decide)) (Or.inl rfl) rfl (fun v L9 A9 h _ => ?_) (fun E9 L9 A9 h => ?_)
  · rcases h with ⟨hE0, hv, rfl, rfl⟩ | ⟨_, _, _, _, h1, _⟩
    · cases hv
      show GW mL_bore _ _ _ 7 [(0, gr 0), (1, gi x0), (2, gr 18)] [gi V, gi 0, gr 18] _ _
      rw [gi_nrm V]
      refine g_i2l (nrm_rg V) dL_bore_7 ?_
      refine g_last (N := 1) (n := 18) 0 rfl (by decide) (nrm_rg V) rfl (by decide) dL_bore_8 (n2 h18b) ?_
      refine g_goto (tgt := 15) dL_bore_9 (by decide) ?_
      refine g_iconst dL_bore_15 ?_
      exact g_iret dL_bore_16 rfl (Nat.le_of_ble_eq_true rfl) (Nat.le_of_ble_eq_true rfl) ⟨by rw [hE0]; rfl, by rw [if_pos hE0], by rw [if_pos hE0]⟩
    · cases h1
  · rcases h with ⟨_, h1, _⟩ | ⟨k, E0, hk, hes, h1, rfl, rfl⟩
    · cases h1
    · cases h1
      rcases k with _ | k
      · cases hes
        refine ⟨12, ⟨(tableOf mL_bore.hh).take 0, (tableOf mL_bore.hh)[0]'(by decide), (tableOf mL_bore.hh).drop 1, rfl, fun z hz => absurd hz List.not_mem_nil, by decide, by decide, rfl, wc_L_13, by decide⟩, fun q => ?_⟩
        refine g_saxn (i := 3) dL_bore_12 rfl (by decide) ?_
        refine g_iconst dL_bore_13 ?_
        exact g_iret dL_bore_14 rfl (Nat.le_of_ble_eq_true rfl) (Nat.le_of_ble_eq_true rfl) ⟨by rw [hk]; rfl, by rw [if_neg (by omega)], by rw [if_neg (by omega)]⟩
      · cases hes
set_option maxRecDepth 100000 in
theorem wst_L_ofCell : Cond.static yL_ofCell ∈ WS := tb_in 703 (by decide +kernel) (by decide +kernel)
set_option maxRecDepth 100000 in
theorem wo_L_ofCell : Cond.codeWith yL_ofCell cL_ofCell 5 (some .int) [(0, 10, 13, 13), (0, 10, 17, 15)] ∈ WS := tb_in 704 (by decide +kernel) (by decide +kernel)
abbrev mL_ofCell : MD := (yL_ofCell, cL_ofCell, 5, (some .int), 7, 1, 6, false, [(0, 10, 13, 13), (0, 10, 17, 15)])
set_option maxRecDepth 100000 in
theorem mfL_ofCell : MFh mL_ofCell 4 := ⟨wo_L_ofCell, ⟨by decide, by decide⟩, by decide +kernel, wn_L, by decide, by decide⟩
set_option maxRecDepth 20000 in
theorem c_L_ofCell {L L2 : Nat → Nat} {A A2 : Mem} {E : Nat} {x0 x1 : Int} {V : Int} (h0 : L 0 = 2) (h18 : L 18 = 2) (h18b : L2 18 = 2) (hC : Ct mX3_ofCell [gr 0, gi x0, gi x1] L A (exP [xIOE, xIAE] E (some (gi V)) L2 A2 L A)) : Ct mL_ofCell [gr 0, gi x0, gi x1, gr 18] L A (pr (some (gi (E : Int))) (if E = 0 then L2 else L) (if E = 0 then gup A2 18 0 (nrm V) else A)) := by
  refine Ct_ofH (ls := [(0, _), (1, _), (2, _), (3, _)]) (by decide) (by decide) (fun _ => rfl) (fun _ => Nat.le_of_ble_eq_true rfl) ?_
  refine g_aload_n 3 dL_ofCell_0 rfl rfl ?_
  refine g_iconst dL_ofCell_1 ?_
  refine g_aload_n 0 dL_ofCell_2 rfl rfl ?_
  refine g_iload_n 1 dL_ofCell_3 rfl rfl ?_
  refine g_iload_n 2 dL_ofCell_4 rfl rfl ?_
  refine g_callVH (My := mX3_ofCell) (gs := [_, _]) (st := [gi 0, gr 18]) hC mfX3_ofCell cf_4 wi_X3_ofCell wsl_X3_ofCell wm_L_65 dL_ofCell_5 (Nat.le_of_ble_eq_true rfl) rfl (by decide) (n2 h0) rfl (fun _ => (Nat.le_of_ble_eq_true rfl)) (Nat.le_of_ble_eq_true rfl) (Nat.le_of_ble_eq_true rfl) (fun h => absurd h (by decide)) (Or.inl rfl) rfl (fun v L9 A9 h _ => ?_) (fun E9 L9 A9 h => ?_)
  · rcases h with ⟨hE0, hv, rfl, rfl⟩ | ⟨_, _, _, _, h1, _⟩
    · cases hv
      show GW mL_ofCell _ _ _ 8 [(0, gr 0), (1, gi x0), (2, gi x1), (3, gr 18)] [gi V, gi 0, gr 18] _ _
      rw [gi_nrm V]
      refine g_i2l (nrm_rg V) dL_ofCell_8 ?_
      refine g_last (N := 1) (n := 18) 0 rfl (by decide) (nrm_rg V) rfl (by decide) dL_ofCell_9 (n2 h18b) ?_
      refine g_goto (tgt := 21) dL_ofCell_10 (by decide) ?_
      refine g_iconst dL_ofCell_21 ?_
      exact g_iret dL_ofCell_22 rfl (Nat.le_of_ble_eq_true rfl) (Nat.le_of_ble_eq_true rfl) ⟨by rw [hE0]; rfl, by rw [if_pos hE0], by rw [if_pos hE0]⟩
    · cases h1
  · rcases h with ⟨_, h1, _⟩ | ⟨k, E0, hk, hes, h1, rfl, rfl⟩
    · cases h1
    · cases h1
      rcases k with _ | _ | k
      · cases hes
        refine ⟨13, ⟨(tableOf mL_ofCell.hh).take 0, (tableOf mL_ofCell.hh)[0]'(by decide), (tableOf mL_ofCell.hh).drop 1, rfl, fun z hz => absurd hz List.not_mem_nil, by decide, by decide, rfl, wc_L_13, by decide⟩, fun q => ?_⟩
        refine g_sax dL_ofCell_13 (by decide) ?_
        refine g_iconst dL_ofCell_15 ?_
        exact g_iret dL_ofCell_16 rfl (Nat.le_of_ble_eq_true rfl) (Nat.le_of_ble_eq_true rfl) ⟨by rw [hk]; rfl, by rw [if_neg (by omega)], by rw [if_neg (by omega)]⟩
      · cases hes
        refine ⟨17, ⟨(tableOf mL_ofCell.hh).take 1, (tableOf mL_ofCell.hh)[1]'(by decide), (tableOf mL_ofCell.hh).drop 2, rfl, fun z hz => by (rcases List.mem_cons.mp (show z ∈ _ :: _ from hz) with rfl | hz; exact Or.inr ⟨by decide, _, wc_L_13, by decide⟩; exact absurd hz List.not_mem_nil), by decide, by decide, rfl, wc_L_15, by decide⟩, fun q => ?_⟩
        refine g_sax dL_ofCell_17 (by decide) ?_
        refine g_iconst dL_ofCell_19 ?_
        exact g_iret dL_ofCell_20 rfl (Nat.le_of_ble_eq_true rfl) (Nat.le_of_ble_eq_true rfl) ⟨by rw [hk]; rfl, by rw [if_neg (by omega)], by rw [if_neg (by omega)]⟩
      · cases hes
set_option maxRecDepth 100000 in
theorem wst_L_ofClaim : Cond.static yL_ofClaim ∈ WS := tb_in 711 (by decide +kernel) (by decide +kernel)
set_option maxRecDepth 100000 in
theorem wo_L_ofClaim : Cond.codeWith yL_ofClaim cL_ofClaim 5 (some .int) [(0, 10, 13, 13), (0, 10, 17, 15)] ∈ WS := tb_in 712 (by decide +kernel) (by decide +kernel)
abbrev mL_ofClaim : MD := (yL_ofClaim, cL_ofClaim, 5, (some .int), 8, 1, 6, false, [(0, 10, 13, 13), (0, 10, 17, 15)])
set_option maxRecDepth 100000 in
theorem mfL_ofClaim : MFh mL_ofClaim 4 := ⟨wo_L_ofClaim, ⟨by decide, by decide⟩, by decide +kernel, wn_L, by decide, by decide⟩
set_option maxRecDepth 20000 in
theorem c_L_ofClaim {L L2 : Nat → Nat} {A A2 : Mem} {E : Nat} {x0 x1 : Int} {V : Int} (h0 : L 0 = 2) (h18 : L 18 = 2) (h18b : L2 18 = 2) (hC : Ct mX3_ofClaim [gr 0, gi x0, gi x1] L A (exP [xIOE, xIAE] E (some (gi V)) L2 A2 L A)) : Ct mL_ofClaim [gr 0, gi x0, gi x1, gr 18] L A (pr (some (gi (E : Int))) (if E = 0 then L2 else L) (if E = 0 then gup A2 18 0 (nrm V) else A)) := by
  refine Ct_ofH (ls := [(0, _), (1, _), (2, _), (3, _)]) (by decide) (by decide) (fun _ => rfl) (fun _ => Nat.le_of_ble_eq_true rfl) ?_
  refine g_aload_n 3 dL_ofClaim_0 rfl rfl ?_
  refine g_iconst dL_ofClaim_1 ?_
  refine g_aload_n 0 dL_ofClaim_2 rfl rfl ?_
  refine g_iload_n 1 dL_ofClaim_3 rfl rfl ?_
  refine g_iload_n 2 dL_ofClaim_4 rfl rfl ?_
  refine g_callVH (My := mX3_ofClaim) (gs := [_, _]) (st := [gi 0, gr 18]) hC mfX3_ofClaim cf_4 wi_X3_ofClaim wsl_X3_ofClaim wm_L_68 dL_ofClaim_5 (Nat.le_of_ble_eq_true rfl) rfl (by decide) (n2 h0) rfl (fun _ => (Nat.le_of_ble_eq_true rfl)) (Nat.le_of_ble_eq_true rfl) (Nat.le_of_ble_eq_true rfl) (fun h => absurd h (by decide)) (Or.inl rfl) rfl (fun v L9 A9 h _ => ?_) (fun E9 L9 A9 h => ?_)
  · rcases h with ⟨hE0, hv, rfl, rfl⟩ | ⟨_, _, _, _, h1, _⟩
    · cases hv
      show GW mL_ofClaim _ _ _ 8 [(0, gr 0), (1, gi x0), (2, gi x1), (3, gr 18)] [gi V, gi 0, gr 18] _ _
      rw [gi_nrm V]
      refine g_i2l (nrm_rg V) dL_ofClaim_8 ?_
      refine g_last (N := 1) (n := 18) 0 rfl (by decide) (nrm_rg V) rfl (by decide) dL_ofClaim_9 (n2 h18b) ?_
      refine g_goto (tgt := 21) dL_ofClaim_10 (by decide) ?_
      refine g_iconst dL_ofClaim_21 ?_
      exact g_iret dL_ofClaim_22 rfl (Nat.le_of_ble_eq_true rfl) (Nat.le_of_ble_eq_true rfl) ⟨by rw [hE0]; rfl, by rw [if_pos hE0], by rw [if_pos hE0]⟩
    · cases h1
  · rcases h with ⟨_, h1, _⟩ | ⟨k, E0, hk, hes, h1, rfl, rfl⟩
    · cases h1
    · cases h1
      rcases k with _ | _ | k
      · cases hes
        refine ⟨13, ⟨(tableOf mL_ofClaim.hh).take 0, (tableOf mL_ofClaim.hh)[0]'(by decide), (tableOf mL_ofClaim.hh).drop 1, rfl, fun z hz => absurd hz List.not_mem_nil, by decide, by decide, rfl, wc_L_13, by decide⟩, fun q => ?_⟩
        refine g_sax dL_ofClaim_13 (by decide) ?_
        refine g_iconst dL_ofClaim_15 ?_
        exact g_iret dL_ofClaim_16 rfl (Nat.le_of_ble_eq_true rfl) (Nat.le_of_ble_eq_true rfl) ⟨by rw [hk]; rfl, by rw [if_neg (by omega)], by rw [if_neg (by omega)]⟩
      · cases hes
        refine ⟨17, ⟨(tableOf mL_ofClaim.hh).take 1, (tableOf mL_ofClaim.hh)[1]'(by decide), (tableOf mL_ofClaim.hh).drop 2, rfl, fun z hz => by (rcases List.mem_cons.mp (show z ∈ _ :: _ from hz) with rfl | hz; exact Or.inr ⟨by decide, _, wc_L_13, by decide⟩; exact absurd hz List.not_mem_nil), by decide, by decide, rfl, wc_L_15, by decide⟩, fun q => ?_⟩
        refine g_sax dL_ofClaim_17 (by decide) ?_
        refine g_iconst dL_ofClaim_19 ?_
        exact g_iret dL_ofClaim_20 rfl (Nat.le_of_ble_eq_true rfl) (Nat.le_of_ble_eq_true rfl) ⟨by rw [hk]; rfl, by rw [if_neg (by omega)], by rw [if_neg (by omega)]⟩
      · cases hes
set_option maxRecDepth 100000 in
theorem wst_L_share : Cond.static yL_share ∈ WS := tb_in 724 (by decide +kernel) (by decide +kernel)
set_option maxRecDepth 100000 in
theorem wo_L_share : Cond.codeWith yL_share cL_share 5 (some .int) [(0, 10, 13, 13)] ∈ WS := tb_in 725 (by decide +kernel) (by decide +kernel)
abbrev mL_share : MD := (yL_share, cL_share, 5, (some .int), 7, 1, 6, false, [(0, 10, 13, 13)])
set_option maxRecDepth 100000 in
theorem mfL_share : MFh mL_share 4 := ⟨wo_L_share, ⟨by decide, by decide⟩, by decide +kernel, wn_L, by decide, by decide⟩
set_option maxRecDepth 20000 in
theorem c_L_share {L L2 : Nat → Nat} {A A2 : Mem} {E : Nat} {x0 x1 : Int} {V : Int} (h0 : L 0 = 2) (h18 : L 18 = 2) (h18b : L2 18 = 2) (hC : Ct mX3_share [gr 0, gi x0, gi x1] L A (exP [xIOE] E (some (gi V)) L2 A2 L A)) : Ct mL_share [gr 0, gi x0, gi x1, gr 18] L A (pr (some (gi (E : Int))) (if E = 0 then L2 else L) (if E = 0 then gup A2 18 0 (nrm V) else A)) := by
  refine Ct_ofH (ls := [(0, _), (1, _), (2, _), (3, _)]) (by decide) (by decide) (fun _ => rfl) (fun _ => Nat.le_of_ble_eq_true rfl) ?_
  refine g_aload_n 3 dL_share_0 rfl rfl ?_
  refine g_iconst dL_share_1 ?_
  refine g_aload_n 0 dL_share_2 rfl rfl ?_
  refine g_iload_n 1 dL_share_3 rfl rfl ?_
  refine g_iload_n 2 dL_share_4 rfl rfl ?_
  refine g_callVH (My := mX3_share) (gs := [_, _]) (st := [gi 0, gr 18]) hC mfX3_share cf_4 wi_X3_share wsl_X3_share wm_L_71 dL_share_5 (Nat.le_of_ble_eq_true rfl) rfl (by decide) (n2 h0) rfl (fun _ => (Nat.le_of_ble_eq_true rfl)) (Nat.le_of_ble_eq_true rfl) (Nat.le_of_ble_eq_true rfl) (fun h => absurd h (by decide)) (Or.inl rfl) rfl (fun v L9 A9 h _ => ?_) (fun E9 L9 A9 h => ?_)
  · rcases h with ⟨hE0, hv, rfl, rfl⟩ | ⟨_, _, _, _, h1, _⟩
    · cases hv
      show GW mL_share _ _ _ 8 [(0, gr 0), (1, gi x0), (2, gi x1), (3, gr 18)] [gi V, gi 0, gr 18] _ _
      rw [gi_nrm V]
      refine g_i2l (nrm_rg V) dL_share_8 ?_
      refine g_last (N := 1) (n := 18) 0 rfl (by decide) (nrm_rg V) rfl (by decide) dL_share_9 (n2 h18b) ?_
      refine g_goto (tgt := 17) dL_share_10 (by decide) ?_
      refine g_iconst dL_share_17 ?_
      exact g_iret dL_share_18 rfl (Nat.le_of_ble_eq_true rfl) (Nat.le_of_ble_eq_true rfl) ⟨by rw [hE0]; rfl, by rw [if_pos hE0], by rw [if_pos hE0]⟩
    · cases h1
  · rcases h with ⟨_, h1, _⟩ | ⟨k, E0, hk, hes, h1, rfl, rfl⟩
    · cases h1
    · cases h1
      rcases k with _ | k
      · cases hes
        refine ⟨13, ⟨(tableOf mL_share.hh).take 0, (tableOf mL_share.hh)[0]'(by decide), (tableOf mL_share.hh).drop 1, rfl, fun z hz => absurd hz List.not_mem_nil, by decide, by decide, rfl, wc_L_13, by decide⟩, fun q => ?_⟩
        refine g_sax dL_share_13 (by decide) ?_
        refine g_iconst dL_share_15 ?_
        exact g_iret dL_share_16 rfl (Nat.le_of_ble_eq_true rfl) (Nat.le_of_ble_eq_true rfl) ⟨by rw [hk]; rfl, by rw [if_neg (by omega)], by rw [if_neg (by omega)]⟩
      · cases hes
set_option maxRecDepth 100000 in
theorem wst_L_verdict : Cond.static yL_verdict ∈ WS := tb_in 731 (by decide +kernel) (by decide +kernel)
set_option maxRecDepth 100000 in
theorem wo_L_verdict : Cond.codeWith yL_verdict cL_verdict 5 (some .int) [(0, 10, 13, 13), (0, 10, 17, 15)] ∈ WS := tb_in 732 (by decide +kernel) (by decide +kernel)
abbrev mL_verdict : MD := (yL_verdict, cL_verdict, 5, (some .int), 7, 1, 6, false, [(0, 10, 13, 13), (0, 10, 17, 15)])
set_option maxRecDepth 100000 in
theorem mfL_verdict : MFh mL_verdict 4 := ⟨wo_L_verdict, ⟨by decide, by decide⟩, by decide +kernel, wn_L, by decide, by decide⟩
set_option maxRecDepth 20000 in
theorem c_L_verdict {L L2 : Nat → Nat} {A A2 : Mem} {E : Nat} {x0 x1 : Int} {V : Int} (h0 : L 0 = 2) (h18 : L 18 = 2) (h18b : L2 18 = 2) (hC : Ct mX3_verdict [gr 0, gi x0, gi x1] L A (exP [xIOE, xIAE] E (some (gi V)) L2 A2 L A)) : Ct mL_verdict [gr 0, gi x0, gi x1, gr 18] L A (pr (some (gi (E : Int))) (if E = 0 then L2 else L) (if E = 0 then gup A2 18 0 (nrm V) else A)) := by
  refine Ct_ofH (ls := [(0, _), (1, _), (2, _), (3, _)]) (by decide) (by decide) (fun _ => rfl) (fun _ => Nat.le_of_ble_eq_true rfl) ?_
  refine g_aload_n 3 dL_verdict_0 rfl rfl ?_
  refine g_iconst dL_verdict_1 ?_
  refine g_aload_n 0 dL_verdict_2 rfl rfl ?_
  refine g_iload_n 1 dL_verdict_3 rfl rfl ?_
  refine g_iload_n 2 dL_verdict_4 rfl rfl ?_
  refine g_callVH (My := mX3_verdict) (gs := [_, _]) (st := [gi 0, gr 18]) hC mfX3_verdict cf_4 wi_X3_verdict wsl_X3_verdict wm_L_74 dL_verdict_5 (Nat.le_of_ble_eq_true rfl) rfl (by decide) (n2 h0) rfl (fun _ => (Nat.le_of_ble_eq_true rfl)) (Nat.le_of_ble_eq_true rfl) (Nat.le_of_ble_eq_true rfl) (fun h => absurd h (by decide)) (Or.inl rfl) rfl (fun v L9 A9 h _ => ?_) (fun E9 L9 A9 h => ?_)
  · rcases h with ⟨hE0, hv, rfl, rfl⟩ | ⟨_, _, _, _, h1, _⟩
    · cases hv
      show GW mL_verdict _ _ _ 8 [(0, gr 0), (1, gi x0), (2, gi x1), (3, gr 18)] [gi V, gi 0, gr 18] _ _
      rw [gi_nrm V]
      refine g_i2l (nrm_rg V) dL_verdict_8 ?_
      refine g_last (N := 1) (n := 18) 0 rfl (by decide) (nrm_rg V) rfl (by decide) dL_verdict_9 (n2 h18b) ?_
      refine g_goto (tgt := 21) dL_verdict_10 (by decide) ?_
      refine g_iconst dL_verdict_21 ?_
      exact g_iret dL_verdict_22 rfl (Nat.le_of_ble_eq_true rfl) (Nat.le_of_ble_eq_true rfl) ⟨by rw [hE0]; rfl, by rw [if_pos hE0], by rw [if_pos hE0]⟩
    · cases h1
  · rcases h with ⟨_, h1, _⟩ | ⟨k, E0, hk, hes, h1, rfl, rfl⟩
    · cases h1
    · cases h1
      rcases k with _ | _ | k
      · cases hes
        refine ⟨13, ⟨(tableOf mL_verdict.hh).take 0, (tableOf mL_verdict.hh)[0]'(by decide), (tableOf mL_verdict.hh).drop 1, rfl, fun z hz => absurd hz List.not_mem_nil, by decide, by decide, rfl, wc_L_13, by decide⟩, fun q => ?_⟩
        refine g_sax dL_verdict_13 (by decide) ?_
        refine g_iconst dL_verdict_15 ?_
        exact g_iret dL_verdict_16 rfl (Nat.le_of_ble_eq_true rfl) (Nat.le_of_ble_eq_true rfl) ⟨by rw [hk]; rfl, by rw [if_neg (by omega)], by rw [if_neg (by omega)]⟩
      · cases hes
        refine ⟨17, ⟨(tableOf mL_verdict.hh).take 1, (tableOf mL_verdict.hh)[1]'(by decide), (tableOf mL_verdict.hh).drop 2, rfl, fun z hz => by (rcases List.mem_cons.mp (show z ∈ _ :: _ from hz) with rfl | hz; exact Or.inr ⟨by decide, _, wc_L_13, by decide⟩; exact absurd hz List.not_mem_nil), by decide, by decide, rfl, wc_L_15, by decide⟩, fun q => ?_⟩
        refine g_sax dL_verdict_17 (by decide) ?_
        refine g_iconst dL_verdict_19 ?_
        exact g_iret dL_verdict_20 rfl (Nat.le_of_ble_eq_true rfl) (Nat.le_of_ble_eq_true rfl) ⟨by rw [hk]; rfl, by rw [if_neg (by omega)], by rw [if_neg (by omega)]⟩
      · cases hes
set_option maxRecDepth 100000 in
theorem wst_L_ofPerson : Cond.static yL_ofPerson ∈ WS := tb_in 744 (by decide +kernel) (by decide +kernel)
set_option maxRecDepth 100000 in
theorem wo_L_ofPerson : Cond.codeWith yL_ofPerson cL_ofPerson 5 (some .int) [(0, 10, 13, 13), (0, 10, 17, 15)] ∈ WS := tb_in 745 (by decide +kernel) (by decide +kernel)
abbrev mL_ofPerson : MD := (yL_ofPerson, cL_ofPerson, 5, (some .int), 7, 1, 6, false, [(0, 10, 13, 13), (0, 10, 17, 15)])
set_option maxRecDepth 100000 in
theorem mfL_ofPerson : MFh mL_ofPerson 4 := ⟨wo_L_ofPerson, ⟨by decide, by decide⟩, by decide +kernel, wn_L, by decide, by decide⟩
set_option maxRecDepth 20000 in
theorem c_L_ofPerson {L L2 : Nat → Nat} {A A2 : Mem} {E : Nat} {x0 x1 : Int} {V : Int} (h0 : L 0 = 2) (h18 : L 18 = 2) (h18b : L2 18 = 2) (hC : Ct mX3_ofPerson [gr 0, gi x0, gi x1] L A (exP [xIOE, xIAE] E (some (gi V)) L2 A2 L A)) : Ct mL_ofPerson [gr 0, gi x0, gi x1, gr 18] L A (pr (some (gi (E : Int))) (if E = 0 then L2 else L) (if E = 0 then gup A2 18 0 (nrm V) else A)) := by
  refine Ct_ofH (ls := [(0, _), (1, _), (2, _), (3, _)]) (by decide) (by decide) (fun _ => rfl) (fun _ => Nat.le_of_ble_eq_true rfl) ?_
  refine g_aload_n 3 dL_ofPerson_0 rfl rfl ?_
  refine g_iconst dL_ofPerson_1 ?_
  refine g_aload_n 0 dL_ofPerson_2 rfl rfl ?_
  refine g_iload_n 1 dL_ofPerson_3 rfl rfl ?_
  refine g_iload_n 2 dL_ofPerson_4 rfl rfl ?_
  refine g_callVH (My := mX3_ofPerson) (gs := [_, _]) (st := [gi 0, gr 18]) hC mfX3_ofPerson cf_4 wi_X3_ofPerson wsl_X3_ofPerson wm_L_77 dL_ofPerson_5 (Nat.le_of_ble_eq_true rfl) rfl (by decide) (n2 h0) rfl (fun _ => (Nat.le_of_ble_eq_true rfl)) (Nat.le_of_ble_eq_true rfl) (Nat.le_of_ble_eq_true rfl) (fun h => absurd h (by decide)) (Or.inl rfl) rfl (fun v L9 A9 h _ => ?_) (fun E9 L9 A9 h => ?_)
  · rcases h with ⟨hE0, hv, rfl, rfl⟩ | ⟨_, _, _, _, h1, _⟩
    · cases hv
      show GW mL_ofPerson _ _ _ 8 [(0, gr 0), (1, gi x0), (2, gi x1), (3, gr 18)] [gi V, gi 0, gr 18] _ _
      rw [gi_nrm V]
      refine g_i2l (nrm_rg V) dL_ofPerson_8 ?_
      refine g_last (N := 1) (n := 18) 0 rfl (by decide) (nrm_rg V) rfl (by decide) dL_ofPerson_9 (n2 h18b) ?_
      refine g_goto (tgt := 21) dL_ofPerson_10 (by decide) ?_
      refine g_iconst dL_ofPerson_21 ?_
      exact g_iret dL_ofPerson_22 rfl (Nat.le_of_ble_eq_true rfl) (Nat.le_of_ble_eq_true rfl) ⟨by rw [hE0]; rfl, by rw [if_pos hE0], by rw [if_pos hE0]⟩
    · cases h1
  · rcases h with ⟨_, h1, _⟩ | ⟨k, E0, hk, hes, h1, rfl, rfl⟩
    · cases h1
    · cases h1
      rcases k with _ | _ | k
      · cases hes
        refine ⟨13, ⟨(tableOf mL_ofPerson.hh).take 0, (tableOf mL_ofPerson.hh)[0]'(by decide), (tableOf mL_ofPerson.hh).drop 1, rfl, fun z hz => absurd hz List.not_mem_nil, by decide, by decide, rfl, wc_L_13, by decide⟩, fun q => ?_⟩
        refine g_sax dL_ofPerson_13 (by decide) ?_
        refine g_iconst dL_ofPerson_15 ?_
        exact g_iret dL_ofPerson_16 rfl (Nat.le_of_ble_eq_true rfl) (Nat.le_of_ble_eq_true rfl) ⟨by rw [hk]; rfl, by rw [if_neg (by omega)], by rw [if_neg (by omega)]⟩
      · cases hes
        refine ⟨17, ⟨(tableOf mL_ofPerson.hh).take 1, (tableOf mL_ofPerson.hh)[1]'(by decide), (tableOf mL_ofPerson.hh).drop 2, rfl, fun z hz => by (rcases List.mem_cons.mp (show z ∈ _ :: _ from hz) with rfl | hz; exact Or.inr ⟨by decide, _, wc_L_13, by decide⟩; exact absurd hz List.not_mem_nil), by decide, by decide, rfl, wc_L_15, by decide⟩, fun q => ?_⟩
        refine g_sax dL_ofPerson_17 (by decide) ?_
        refine g_iconst dL_ofPerson_19 ?_
        exact g_iret dL_ofPerson_20 rfl (Nat.le_of_ble_eq_true rfl) (Nat.le_of_ble_eq_true rfl) ⟨by rw [hk]; rfl, by rw [if_neg (by omega)], by rw [if_neg (by omega)]⟩
      · cases hes
set_option maxRecDepth 100000 in
theorem wst_L_ofStone : Cond.static yL_ofStone ∈ WS := tb_in 756 (by decide +kernel) (by decide +kernel)
set_option maxRecDepth 100000 in
theorem wo_L_ofStone : Cond.codeWith yL_ofStone cL_ofStone 5 (some .int) [(0, 10, 13, 13), (0, 10, 17, 15)] ∈ WS := tb_in 757 (by decide +kernel) (by decide +kernel)
abbrev mL_ofStone : MD := (yL_ofStone, cL_ofStone, 5, (some .int), 7, 1, 6, false, [(0, 10, 13, 13), (0, 10, 17, 15)])
set_option maxRecDepth 100000 in
theorem mfL_ofStone : MFh mL_ofStone 4 := ⟨wo_L_ofStone, ⟨by decide, by decide⟩, by decide +kernel, wn_L, by decide, by decide⟩
set_option maxRecDepth 20000 in
theorem c_L_ofStone {L L2 : Nat → Nat} {A A2 : Mem} {E : Nat} {x0 x1 : Int} {V : Int} (h0 : L 0 = 2) (h18 : L 18 = 2) (h18b : L2 18 = 2) (hC : Ct mX3_ofStone [gr 0, gi x0, gi x1] L A (exP [xIOE, xIAE] E (some (gi V)) L2 A2 L A)) : Ct mL_ofStone [gr 0, gi x0, gi x1, gr 18] L A (pr (some (gi (E : Int))) (if E = 0 then L2 else L) (if E = 0 then gup A2 18 0 (nrm V) else A)) := by
  refine Ct_ofH (ls := [(0, _), (1, _), (2, _), (3, _)]) (by decide) (by decide) (fun _ => rfl) (fun _ => Nat.le_of_ble_eq_true rfl) ?_
  refine g_aload_n 3 dL_ofStone_0 rfl rfl ?_
  refine g_iconst dL_ofStone_1 ?_
  refine g_aload_n 0 dL_ofStone_2 rfl rfl ?_
  refine g_iload_n 1 dL_ofStone_3 rfl rfl ?_
  refine g_iload_n 2 dL_ofStone_4 rfl rfl ?_
  refine g_callVH (My := mX3_ofStone) (gs := [_, _]) (st := [gi 0, gr 18]) hC mfX3_ofStone cf_4 wi_X3_ofStone wsl_X3_ofStone wm_L_80 dL_ofStone_5 (Nat.le_of_ble_eq_true rfl) rfl (by decide) (n2 h0) rfl (fun _ => (Nat.le_of_ble_eq_true rfl)) (Nat.le_of_ble_eq_true rfl) (Nat.le_of_ble_eq_true rfl) (fun h => absurd h (by decide)) (Or.inl rfl) rfl (fun v L9 A9 h _ => ?_) (fun E9 L9 A9 h => ?_)
  · rcases h with ⟨hE0, hv, rfl, rfl⟩ | ⟨_, _, _, _, h1, _⟩
    · cases hv
      show GW mL_ofStone _ _ _ 8 [(0, gr 0), (1, gi x0), (2, gi x1), (3, gr 18)] [gi V, gi 0, gr 18] _ _
      rw [gi_nrm V]
      refine g_i2l (nrm_rg V) dL_ofStone_8 ?_
      refine g_last (N := 1) (n := 18) 0 rfl (by decide) (nrm_rg V) rfl (by decide) dL_ofStone_9 (n2 h18b) ?_
      refine g_goto (tgt := 21) dL_ofStone_10 (by decide) ?_
      refine g_iconst dL_ofStone_21 ?_
      exact g_iret dL_ofStone_22 rfl (Nat.le_of_ble_eq_true rfl) (Nat.le_of_ble_eq_true rfl) ⟨by rw [hE0]; rfl, by rw [if_pos hE0], by rw [if_pos hE0]⟩
    · cases h1
  · rcases h with ⟨_, h1, _⟩ | ⟨k, E0, hk, hes, h1, rfl, rfl⟩
    · cases h1
    · cases h1
      rcases k with _ | _ | k
      · cases hes
        refine ⟨13, ⟨(tableOf mL_ofStone.hh).take 0, (tableOf mL_ofStone.hh)[0]'(by decide), (tableOf mL_ofStone.hh).drop 1, rfl, fun z hz => absurd hz List.not_mem_nil, by decide, by decide, rfl, wc_L_13, by decide⟩, fun q => ?_⟩
        refine g_sax dL_ofStone_13 (by decide) ?_
        refine g_iconst dL_ofStone_15 ?_
        exact g_iret dL_ofStone_16 rfl (Nat.le_of_ble_eq_true rfl) (Nat.le_of_ble_eq_true rfl) ⟨by rw [hk]; rfl, by rw [if_neg (by omega)], by rw [if_neg (by omega)]⟩
      · cases hes
        refine ⟨17, ⟨(tableOf mL_ofStone.hh).take 1, (tableOf mL_ofStone.hh)[1]'(by decide), (tableOf mL_ofStone.hh).drop 2, rfl, fun z hz => by (rcases List.mem_cons.mp (show z ∈ _ :: _ from hz) with rfl | hz; exact Or.inr ⟨by decide, _, wc_L_13, by decide⟩; exact absurd hz List.not_mem_nil), by decide, by decide, rfl, wc_L_15, by decide⟩, fun q => ?_⟩
        refine g_sax dL_ofStone_17 (by decide) ?_
        refine g_iconst dL_ofStone_19 ?_
        exact g_iret dL_ofStone_20 rfl (Nat.le_of_ble_eq_true rfl) (Nat.le_of_ble_eq_true rfl) ⟨by rw [hk]; rfl, by rw [if_neg (by omega)], by rw [if_neg (by omega)]⟩
      · cases hes
set_option maxRecDepth 100000 in
theorem wst_L_purse : Cond.static yL_purse ∈ WS := tb_in 769 (by decide +kernel) (by decide +kernel)
set_option maxRecDepth 100000 in
theorem wo_L_purse : Cond.codeWith yL_purse cL_purse 4 (some .int) [(0, 9, 12, 13)] ∈ WS := tb_in 770 (by decide +kernel) (by decide +kernel)
abbrev mL_purse : MD := (yL_purse, cL_purse, 4, (some .int), 3, 1, 6, false, [(0, 9, 12, 13)])
set_option maxRecDepth 100000 in
theorem mfL_purse : MFh mL_purse 3 := ⟨wo_L_purse, ⟨by decide, by decide⟩, by decide +kernel, wn_L, by decide, by decide⟩
set_option maxRecDepth 20000 in
theorem c_L_purse {L L2 : Nat → Nat} {A A2 : Mem} {E : Nat} {x0 : Int} {V : Int} (h0 : L 0 = 2) (h18 : L 18 = 2) (h18b : L2 18 = 2) (hC : Ct mX3_purse [gr 0, gi x0] L A (exP [xIOE] E (some (gi V)) L2 A2 L A)) : Ct mL_purse [gr 0, gi x0, gr 18] L A (pr (some (gi (E : Int))) (if E = 0 then L2 else L) (if E = 0 then gup A2 18 0 (nrm V) else A)) := by
  refine Ct_ofH (ls := [(0, _), (1, _), (2, _)]) (by decide) (by decide) (fun _ => rfl) (fun _ => Nat.le_of_ble_eq_true rfl) ?_
  refine g_aload_n 2 dL_purse_0 rfl rfl ?_
  refine g_iconst dL_purse_1 ?_
  refine g_aload_n 0 dL_purse_2 rfl rfl ?_
  refine g_iload_n 1 dL_purse_3 rfl rfl ?_
  refine g_callVH (My := mX3_purse) (gs := [_]) (st := [gi 0, gr 18]) hC mfX3_purse cf_4 wi_X3_purse wsl_X3_purse wm_L_83 dL_purse_4 (Nat.le_of_ble_eq_true rfl) rfl (by decide) (n2 h0) rfl (fun _ => (Nat.le_of_ble_eq_true rfl)) (Nat.le_of_ble_eq_true rfl) (Nat.le_of_ble_eq_true rfl) (fun h => absurd h (by decide)) (Or.inl rfl) rfl (fun v L9 A9 h _ => ?_) (fun E9 L9 A9 h => ?_)
  · rcases h with ⟨hE0, hv, rfl, rfl⟩ | ⟨_, _, _, _, h1, _⟩
    · cases hv
      show GW mL_purse _ _ _ 7 [(0, gr 0), (1, gi x0), (2, gr 18)] [gi V, gi 0, gr 18] _ _
      rw [gi_nrm V]
      refine g_i2l (nrm_rg V) dL_purse_7 ?_
      refine g_last (N := 1) (n := 18) 0 rfl (by decide) (nrm_rg V) rfl (by decide) dL_purse_8 (n2 h18b) ?_
      refine g_goto (tgt := 15) dL_purse_9 (by decide) ?_
      refine g_iconst dL_purse_15 ?_
      exact g_iret dL_purse_16 rfl (Nat.le_of_ble_eq_true rfl) (Nat.le_of_ble_eq_true rfl) ⟨by rw [hE0]; rfl, by rw [if_pos hE0], by rw [if_pos hE0]⟩
    · cases h1
  · rcases h with ⟨_, h1, _⟩ | ⟨k, E0, hk, hes, h1, rfl, rfl⟩
    · cases h1
    · cases h1
      rcases k with _ | k
      · cases hes
        refine ⟨12, ⟨(tableOf mL_purse.hh).take 0, (tableOf mL_purse.hh)[0]'(by decide), (tableOf mL_purse.hh).drop 1, rfl, fun z hz => absurd hz List.not_mem_nil, by decide, by decide, rfl, wc_L_13, by decide⟩, fun q => ?_⟩
        refine g_saxn (i := 3) dL_purse_12 rfl (by decide) ?_
        refine g_iconst dL_purse_13 ?_
        exact g_iret dL_purse_14 rfl (Nat.le_of_ble_eq_true rfl) (Nat.le_of_ble_eq_true rfl) ⟨by rw [hk]; rfl, by rw [if_neg (by omega)], by rw [if_neg (by omega)]⟩
      · cases hes
set_option maxRecDepth 100000 in
theorem wst_L_carats : Cond.static yL_carats ∈ WS := tb_in 776 (by decide +kernel) (by decide +kernel)
set_option maxRecDepth 100000 in
theorem wo_L_carats : Cond.codeWith yL_carats cL_carats 4 (some .int) [(0, 9, 12, 15)] ∈ WS := tb_in 777 (by decide +kernel) (by decide +kernel)
abbrev mL_carats : MD := (yL_carats, cL_carats, 4, (some .int), 7, 1, 6, false, [(0, 9, 12, 15)])
set_option maxRecDepth 100000 in
theorem mfL_carats : MFh mL_carats 3 := ⟨wo_L_carats, ⟨by decide, by decide⟩, by decide +kernel, wn_L, by decide, by decide⟩
set_option maxRecDepth 20000 in
theorem c_L_carats {L L2 : Nat → Nat} {A A2 : Mem} {E : Nat} {x0 : Int} {V : Int} (h0 : L 0 = 2) (h18 : L 18 = 2) (h18b : L2 18 = 2) (hC : Ct mX3_carats [gr 0, gi x0] L A (exP [xIAE] E (some (gi V)) L2 A2 L A)) : Ct mL_carats [gr 0, gi x0, gr 18] L A (pr (some (gi (E : Int))) (if E = 0 then L2 else L) (if E = 0 then gup A2 18 0 (nrm V) else A)) := by
  refine Ct_ofH (ls := [(0, _), (1, _), (2, _)]) (by decide) (by decide) (fun _ => rfl) (fun _ => Nat.le_of_ble_eq_true rfl) ?_
  refine g_aload_n 2 dL_carats_0 rfl rfl ?_
  refine g_iconst dL_carats_1 ?_
  refine g_aload_n 0 dL_carats_2 rfl rfl ?_
  refine g_iload_n 1 dL_carats_3 rfl rfl ?_
  refine g_callVH (My := mX3_carats) (gs := [_]) (st := [gi 0, gr 18]) hC mfX3_carats cf_4 wi_X3_carats wsl_X3_carats wm_L_86 dL_carats_4 (Nat.le_of_ble_eq_true rfl) rfl (by decide) (n2 h0) rfl (fun _ => (Nat.le_of_ble_eq_true rfl)) (Nat.le_of_ble_eq_true rfl) (Nat.le_of_ble_eq_true rfl) (fun h => absurd h (by decide)) (Or.inl rfl) rfl (fun v L9 A9 h _ => ?_) (fun E9 L9 A9 h => ?_)
  · rcases h with ⟨hE0, hv, rfl, rfl⟩ | ⟨_, _, _, _, h1, _⟩
    · cases hv
      show GW mL_carats _ _ _ 7 [(0, gr 0), (1, gi x0), (2, gr 18)] [gi V, gi 0, gr 18] _ _
      rw [gi_nrm V]
      refine g_i2l (nrm_rg V) dL_carats_7 ?_
      refine g_last (N := 1) (n := 18) 0 rfl (by decide) (nrm_rg V) rfl (by decide) dL_carats_8 (n2 h18b) ?_
      refine g_goto (tgt := 15) dL_carats_9 (by decide) ?_
      refine g_iconst dL_carats_15 ?_
      exact g_iret dL_carats_16 rfl (Nat.le_of_ble_eq_true rfl) (Nat.le_of_ble_eq_true rfl) ⟨by rw [hE0]; rfl, by rw [if_pos hE0], by rw [if_pos hE0]⟩
    · cases h1
  · rcases h with ⟨_, h1, _⟩ | ⟨k, E0, hk, hes, h1, rfl, rfl⟩
    · cases h1
    · cases h1
      rcases k with _ | k
      · cases hes
        refine ⟨12, ⟨(tableOf mL_carats.hh).take 0, (tableOf mL_carats.hh)[0]'(by decide), (tableOf mL_carats.hh).drop 1, rfl, fun z hz => absurd hz List.not_mem_nil, by decide, by decide, rfl, wc_L_15, by decide⟩, fun q => ?_⟩
        refine g_saxn (i := 3) dL_carats_12 rfl (by decide) ?_
        refine g_iconst dL_carats_13 ?_
        exact g_iret dL_carats_14 rfl (Nat.le_of_ble_eq_true rfl) (Nat.le_of_ble_eq_true rfl) ⟨by rw [hk]; rfl, by rw [if_neg (by omega)], by rw [if_neg (by omega)]⟩
      · cases hes
set_option maxRecDepth 100000 in
theorem wst_L_plan : Cond.static yL_plan ∈ WS := tb_in 795 (by decide +kernel) (by decide +kernel)
set_option maxRecDepth 100000 in
theorem wo_L_plan : Cond.codeWith yL_plan cL_plan 5 (some .int) [(0, 10, 13, 13), (0, 10, 17, 15)] ∈ WS := tb_in 796 (by decide +kernel) (by decide +kernel)
abbrev mL_plan : MD := (yL_plan, cL_plan, 5, (some .int), 8, 1, 6, false, [(0, 10, 13, 13), (0, 10, 17, 15)])
set_option maxRecDepth 100000 in
theorem mfL_plan : MFh mL_plan 4 := ⟨wo_L_plan, ⟨by decide, by decide⟩, by decide +kernel, wn_L, by decide, by decide⟩
set_option maxRecDepth 20000 in
theorem c_L_plan {L L2 : Nat → Nat} {A A2 : Mem} {E : Nat} {x0 x1 : Int} {V : Int} (h0 : L 0 = 2) (h18 : L 18 = 2) (h18b : L2 18 = 2) (hC : Ct mX3_plan [gr 0, gi x0, gi x1] L A (exP [xIOE, xIAE] E (some (gi V)) L2 A2 L A)) : Ct mL_plan [gr 0, gi x0, gi x1, gr 18] L A (pr (some (gi (E : Int))) (if E = 0 then L2 else L) (if E = 0 then gup A2 18 0 (nrm V) else A)) := by
  refine Ct_ofH (ls := [(0, _), (1, _), (2, _), (3, _)]) (by decide) (by decide) (fun _ => rfl) (fun _ => Nat.le_of_ble_eq_true rfl) ?_
  refine g_aload_n 3 dL_plan_0 rfl rfl ?_
  refine g_iconst dL_plan_1 ?_
  refine g_aload_n 0 dL_plan_2 rfl rfl ?_
  refine g_iload_n 1 dL_plan_3 rfl rfl ?_
  refine g_iload_n 2 dL_plan_4 rfl rfl ?_
  refine g_callVH (My := mX3_plan) (gs := [_, _]) (st := [gi 0, gr 18]) hC mfX3_plan cf_4 wi_X3_plan wsl_X3_plan wm_L_89 dL_plan_5 (Nat.le_of_ble_eq_true rfl) rfl (by decide) (n2 h0) rfl (fun _ => (Nat.le_of_ble_eq_true rfl)) (Nat.le_of_ble_eq_true rfl) (Nat.le_of_ble_eq_true rfl) (fun h => absurd h (by decide)) (Or.inl rfl) rfl (fun v L9 A9 h _ => ?_) (fun E9 L9 A9 h => ?_)
  · rcases h with ⟨hE0, hv, rfl, rfl⟩ | ⟨_, _, _, _, h1, _⟩
    · cases hv
      show GW mL_plan _ _ _ 8 [(0, gr 0), (1, gi x0), (2, gi x1), (3, gr 18)] [gi V, gi 0, gr 18] _ _
      rw [gi_nrm V]
      refine g_i2l (nrm_rg V) dL_plan_8 ?_
      refine g_last (N := 1) (n := 18) 0 rfl (by decide) (nrm_rg V) rfl (by decide) dL_plan_9 (n2 h18b) ?_
      refine g_goto (tgt := 21) dL_plan_10 (by decide) ?_
      refine g_iconst dL_plan_21 ?_
      exact g_iret dL_plan_22 rfl (Nat.le_of_ble_eq_true rfl) (Nat.le_of_ble_eq_true rfl) ⟨by rw [hE0]; rfl, by rw [if_pos hE0], by rw [if_pos hE0]⟩
    · cases h1
  · rcases h with ⟨_, h1, _⟩ | ⟨k, E0, hk, hes, h1, rfl, rfl⟩
    · cases h1
    · cases h1
      rcases k with _ | _ | k
      · cases hes
        refine ⟨13, ⟨(tableOf mL_plan.hh).take 0, (tableOf mL_plan.hh)[0]'(by decide), (tableOf mL_plan.hh).drop 1, rfl, fun z hz => absurd hz List.not_mem_nil, by decide, by decide, rfl, wc_L_13, by decide⟩, fun q => ?_⟩
        refine g_sax dL_plan_13 (by decide) ?_
        refine g_iconst dL_plan_15 ?_
        exact g_iret dL_plan_16 rfl (Nat.le_of_ble_eq_true rfl) (Nat.le_of_ble_eq_true rfl) ⟨by rw [hk]; rfl, by rw [if_neg (by omega)], by rw [if_neg (by omega)]⟩
      · cases hes
        refine ⟨17, ⟨(tableOf mL_plan.hh).take 1, (tableOf mL_plan.hh)[1]'(by decide), (tableOf mL_plan.hh).drop 2, rfl, fun z hz => by (rcases List.mem_cons.mp (show z ∈ _ :: _ from hz) with rfl | hz; exact Or.inr ⟨by decide, _, wc_L_13, by decide⟩; exact absurd hz List.not_mem_nil), by decide, by decide, rfl, wc_L_15, by decide⟩, fun q => ?_⟩
        refine g_sax dL_plan_17 (by decide) ?_
        refine g_iconst dL_plan_19 ?_
        exact g_iret dL_plan_20 rfl (Nat.le_of_ble_eq_true rfl) (Nat.le_of_ble_eq_true rfl) ⟨by rw [hk]; rfl, by rw [if_neg (by omega)], by rw [if_neg (by omega)]⟩
      · cases hes
set_option maxRecDepth 100000 in
theorem wst_L_planAnew : Cond.static yL_planAnew ∈ WS := tb_in 818 (by decide +kernel) (by decide +kernel)
set_option maxRecDepth 100000 in
theorem wo_L_planAnew : Cond.codeWith yL_planAnew cL_planAnew 5 (some .int) [(0, 10, 13, 13), (0, 10, 17, 15)] ∈ WS := tb_in 819 (by decide +kernel) (by decide +kernel)
abbrev mL_planAnew : MD := (yL_planAnew, cL_planAnew, 5, (some .int), 8, 1, 6, false, [(0, 10, 13, 13), (0, 10, 17, 15)])
set_option maxRecDepth 100000 in
theorem mfL_planAnew : MFh mL_planAnew 4 := ⟨wo_L_planAnew, ⟨by decide, by decide⟩, by decide +kernel, wn_L, by decide, by decide⟩
set_option maxRecDepth 20000 in
theorem c_L_planAnew {L L2 : Nat → Nat} {A A2 : Mem} {E : Nat} {x0 x1 : Int} {V : Int} (h0 : L 0 = 2) (h18 : L 18 = 2) (h18b : L2 18 = 2) (hC : Ct mX3_planAnew [gr 0, gi x0, gi x1] L A (exP [xIOE, xIAE] E (some (gi V)) L2 A2 L A)) : Ct mL_planAnew [gr 0, gi x0, gi x1, gr 18] L A (pr (some (gi (E : Int))) (if E = 0 then L2 else L) (if E = 0 then gup A2 18 0 (nrm V) else A)) := by
  refine Ct_ofH (ls := [(0, _), (1, _), (2, _), (3, _)]) (by decide) (by decide) (fun _ => rfl) (fun _ => Nat.le_of_ble_eq_true rfl) ?_
  refine g_aload_n 3 dL_planAnew_0 rfl rfl ?_
  refine g_iconst dL_planAnew_1 ?_
  refine g_aload_n 0 dL_planAnew_2 rfl rfl ?_
  refine g_iload_n 1 dL_planAnew_3 rfl rfl ?_
  refine g_iload_n 2 dL_planAnew_4 rfl rfl ?_
  refine g_callVH (My := mX3_planAnew) (gs := [_, _]) (st := [gi 0, gr 18]) hC mfX3_planAnew cf_4 wi_X3_planAnew wsl_X3_planAnew wm_L_92 dL_planAnew_5 (Nat.le_of_ble_eq_true rfl) rfl (by decide) (n2 h0) rfl (fun _ => (Nat.le_of_ble_eq_true rfl)) (Nat.le_of_ble_eq_true rfl) (Nat.le_of_ble_eq_true rfl) (fun h => absurd h (by decide)) (Or.inl rfl) rfl (fun v L9 A9 h _ => ?_) (fun E9 L9 A9 h => ?_)
  · rcases h with ⟨hE0, hv, rfl, rfl⟩ | ⟨_, _, _, _, h1, _⟩
    · cases hv
      show GW mL_planAnew _ _ _ 8 [(0, gr 0), (1, gi x0), (2, gi x1), (3, gr 18)] [gi V, gi 0, gr 18] _ _
      rw [gi_nrm V]
      refine g_i2l (nrm_rg V) dL_planAnew_8 ?_
      refine g_last (N := 1) (n := 18) 0 rfl (by decide) (nrm_rg V) rfl (by decide) dL_planAnew_9 (n2 h18b) ?_
      refine g_goto (tgt := 21) dL_planAnew_10 (by decide) ?_
      refine g_iconst dL_planAnew_21 ?_
      exact g_iret dL_planAnew_22 rfl (Nat.le_of_ble_eq_true rfl) (Nat.le_of_ble_eq_true rfl) ⟨by rw [hE0]; rfl, by rw [if_pos hE0], by rw [if_pos hE0]⟩
    · cases h1
  · rcases h with ⟨_, h1, _⟩ | ⟨k, E0, hk, hes, h1, rfl, rfl⟩
    · cases h1
    · cases h1
      rcases k with _ | _ | k
      · cases hes
        refine ⟨13, ⟨(tableOf mL_planAnew.hh).take 0, (tableOf mL_planAnew.hh)[0]'(by decide), (tableOf mL_planAnew.hh).drop 1, rfl, fun z hz => absurd hz List.not_mem_nil, by decide, by decide, rfl, wc_L_13, by decide⟩, fun q => ?_⟩
        refine g_sax dL_planAnew_13 (by decide) ?_
        refine g_iconst dL_planAnew_15 ?_
        exact g_iret dL_planAnew_16 rfl (Nat.le_of_ble_eq_true rfl) (Nat.le_of_ble_eq_true rfl) ⟨by rw [hk]; rfl, by rw [if_neg (by omega)], by rw [if_neg (by omega)]⟩
      · cases hes
        refine ⟨17, ⟨(tableOf mL_planAnew.hh).take 1, (tableOf mL_planAnew.hh)[1]'(by decide), (tableOf mL_planAnew.hh).drop 2, rfl, fun z hz => by (rcases List.mem_cons.mp (show z ∈ _ :: _ from hz) with rfl | hz; exact Or.inr ⟨by decide, _, wc_L_13, by decide⟩; exact absurd hz List.not_mem_nil), by decide, by decide, rfl, wc_L_15, by decide⟩, fun q => ?_⟩
        refine g_sax dL_planAnew_17 (by decide) ?_
        refine g_iconst dL_planAnew_19 ?_
        exact g_iret dL_planAnew_20 rfl (Nat.le_of_ble_eq_true rfl) (Nat.le_of_ble_eq_true rfl) ⟨by rw [hk]; rfl, by rw [if_neg (by omega)], by rw [if_neg (by omega)]⟩
      · cases hes
