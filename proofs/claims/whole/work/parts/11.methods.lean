def nms : List String := ["java/lang/RuntimeException", "java/lang/Exception"]
def xIAE : String := "java/lang/IllegalArgumentException"
set_option maxRecDepth 100000 in
theorem hat_IAE0 : (vx_atS RX3 93 xIAE nms).all (fun w => (decide (w ∈ lw_tbl) && goodWord w) || decide (w ∈ EVW)) = true := by decide +kernel
set_option maxRecDepth 100000 in
theorem hat_IAE2 : (vx_atS RX3 93 xIAE nms).all vx_ot = true := by decide +kernel
theorem hat_IAE : ∀ w ∈ vx_atS RX3 93 xIAE nms, w ∈ WS ∨ w ∈ EVW := fun w hw => by
  have h := List.all_eq_true.mp hat_IAE0 w hw
  rcases Bool.or_eq_true _ _ ▸ h with h | h
  · obtain ⟨h1, h2⟩ := Bool.and_eq_true_iff.mp h
    exact Or.inl (WS_in (of_decide_eq_true h1) h2)
  · exact Or.inr (of_decide_eq_true h)
theorem hgd_IAE {ik : Nat} : ∀ w ∈ Cond.classLink RX3 ik xIAE :: Cond.initialized xIAE :: vx_atS RX3 93 xIAE nms, vx_ot w = true := fun w hw => by
  rcases List.mem_cons.mp hw with rfl | hw
  · rfl
  · rcases List.mem_cons.mp hw with rfl | hw
    · rfl
    · exact List.all_eq_true.mp hat_IAE2 w hw
def xISE : String := "java/lang/IllegalStateException"
set_option maxRecDepth 100000 in
theorem hat_ISE0 : (vx_atS RX3 66 xISE nms).all (fun w => (decide (w ∈ lw_tbl) && goodWord w) || decide (w ∈ EVW)) = true := by decide +kernel
set_option maxRecDepth 100000 in
theorem hat_ISE2 : (vx_atS RX3 66 xISE nms).all vx_ot = true := by decide +kernel
theorem hat_ISE : ∀ w ∈ vx_atS RX3 66 xISE nms, w ∈ WS ∨ w ∈ EVW := fun w hw => by
  have h := List.all_eq_true.mp hat_ISE0 w hw
  rcases Bool.or_eq_true _ _ ▸ h with h | h
  · obtain ⟨h1, h2⟩ := Bool.and_eq_true_iff.mp h
    exact Or.inl (WS_in (of_decide_eq_true h1) h2)
  · exact Or.inr (of_decide_eq_true h)
theorem hgd_ISE {ik : Nat} : ∀ w ∈ Cond.classLink RX3 ik xISE :: Cond.initialized xISE :: vx_atS RX3 66 xISE nms, vx_ot w = true := fun w hw => by
  rcases List.mem_cons.mp hw with rfl | hw
  · rfl
  · rcases List.mem_cons.mp hw with rfl | hw
    · rfl
    · exact List.all_eq_true.mp hat_ISE2 w hw
def xIOE : String := "java/lang/IndexOutOfBoundsException"
set_option maxRecDepth 100000 in
theorem hat_IOE0 : (vx_atS RX3 343 xIOE nms).all (fun w => (decide (w ∈ lw_tbl) && goodWord w) || decide (w ∈ EVW)) = true := by decide +kernel
set_option maxRecDepth 100000 in
theorem hat_IOE2 : (vx_atS RX3 343 xIOE nms).all vx_ot = true := by decide +kernel
theorem hat_IOE : ∀ w ∈ vx_atS RX3 343 xIOE nms, w ∈ WS ∨ w ∈ EVW := fun w hw => by
  have h := List.all_eq_true.mp hat_IOE0 w hw
  rcases Bool.or_eq_true _ _ ▸ h with h | h
  · obtain ⟨h1, h2⟩ := Bool.and_eq_true_iff.mp h
    exact Or.inl (WS_in (of_decide_eq_true h1) h2)
  · exact Or.inr (of_decide_eq_true h)
theorem hgd_IOE {ik : Nat} : ∀ w ∈ Cond.classLink RX3 ik xIOE :: Cond.initialized xIOE :: vx_atS RX3 343 xIOE nms, vx_ot w = true := fun w hw => by
  rcases List.mem_cons.mp hw with rfl | hw
  · rfl
  · rcases List.mem_cons.mp hw with rfl | hw
    · rfl
    · exact List.all_eq_true.mp hat_IOE2 w hw
abbrev mX3_init : MD := (yX3_init, cX3_init, 1, none, 6, 30, 1200, true, [])
set_option maxRecDepth 100000 in
theorem mfX3_init : MF mX3_init 0 := ⟨wo_X3_init, ⟨by decide, by decide⟩, by decide +kernel, wn_X3, rfl, by decide⟩
abbrev mX3_seam : MD := (yX3_seam, cX3_seam, 4, none, 2, 1, 6, false, [])
set_option maxRecDepth 100000 in
theorem mfX3_seam : MF mX3_seam 3 := ⟨wo_X3_seam, ⟨by decide, by decide⟩, by decide +kernel, wn_X3, rfl, by decide⟩
abbrev mX3_pass : MD := (yX3_pass, cX3_pass, 2, (some .int), 2, 1, 6, false, [])
set_option maxRecDepth 100000 in
theorem mfX3_pass : MF mX3_pass 1 := ⟨wo_X3_pass, ⟨by decide, by decide⟩, by decide +kernel, wn_X3, rfl, by decide⟩
abbrev mX3_peg : MD := (yX3_peg, cX3_peg, 5, (some .int), 10, 4, 100, true, [])
set_option maxRecDepth 100000 in
theorem mfX3_peg : MF mX3_peg 4 := ⟨wo_X3_peg, ⟨by decide, by decide⟩, by decide +kernel, wn_X3, rfl, by decide⟩
abbrev mX3_witness : MD := (yX3_witness, cX3_witness, 5, (some .int), 6, 1, 6, false, [])
set_option maxRecDepth 100000 in
theorem mfX3_witness : MF mX3_witness 3 := ⟨wo_X3_witness, ⟨by decide, by decide⟩, by decide +kernel, wn_X3, rfl, by decide⟩
abbrev mX3_partner : MD := (yX3_partner, cX3_partner, 5, (some .int), 6, 1, 6, false, [])
set_option maxRecDepth 100000 in
theorem mfX3_partner : MF mX3_partner 3 := ⟨wo_X3_partner, ⟨by decide, by decide⟩, by decide +kernel, wn_X3, rfl, by decide⟩
abbrev mX3_dig : MD := (yX3_dig, cX3_dig, 5, (some .int), 12, 4, 300, true, [])
set_option maxRecDepth 100000 in
theorem mfX3_dig : MF mX3_dig 3 := ⟨wo_X3_dig, ⟨by decide, by decide⟩, by decide +kernel, wn_X3, rfl, by decide⟩
abbrev mX3_sink : MD := (yX3_sink, cX3_sink, 5, (some .int), 12, 4, 300, true, [])
set_option maxRecDepth 100000 in
theorem mfX3_sink : MF mX3_sink 3 := ⟨wo_X3_sink, ⟨by decide, by decide⟩, by decide +kernel, wn_X3, rfl, by decide⟩
abbrev mX3_prop : MD := (yX3_prop, cX3_prop, 4, none, 7, 1, 6, false, [])
set_option maxRecDepth 100000 in
theorem mfX3_prop : MF mX3_prop 3 := ⟨wo_X3_prop, ⟨by decide, by decide⟩, by decide +kernel, wn_X3, rfl, by decide⟩
abbrev mX3_trap : MD := (yX3_trap, cX3_trap, 4, (some .int), 7, 1, 6, false, [])
set_option maxRecDepth 100000 in
theorem mfX3_trap : MF mX3_trap 3 := ⟨wo_X3_trap, ⟨by decide, by decide⟩, by decide +kernel, wn_X3, rfl, by decide⟩
abbrev mX3_rat : MD := (yX3_rat, cX3_rat, 4, (some .int), 11, 4, 300, true, [])
set_option maxRecDepth 100000 in
theorem mfX3_rat : MF mX3_rat 2 := ⟨wo_X3_rat, ⟨by decide, by decide⟩, by decide +kernel, wn_X3, rfl, by decide⟩
abbrev mX3_divide : MD := (yX3_divide, cX3_divide, 8, (some .int), 6, 1, 6, false, [])
set_option maxRecDepth 100000 in
theorem mfX3_divide : MF mX3_divide 1 := ⟨wo_X3_divide, ⟨by decide, by decide⟩, by decide +kernel, wn_X3, rfl, by decide⟩
abbrev mX3_rub : MD := (yX3_rub, cX3_rub, 4, (some .int), 6, 1, 6, false, [])
set_option maxRecDepth 100000 in
theorem mfX3_rub : MF mX3_rub 1 := ⟨wo_X3_rub, ⟨by decide, by decide⟩, by decide +kernel, wn_X3, rfl, by decide⟩
abbrev mX3_bid : MD := (yX3_bid, cX3_bid, 5, (some .int), 6, 1, 6, false, [])
set_option maxRecDepth 100000 in
theorem mfX3_bid : MF mX3_bid 3 := ⟨wo_X3_bid, ⟨by decide, by decide⟩, by decide +kernel, wn_X3, rfl, by decide⟩
abbrev mX3_sell : MD := (yX3_sell, cX3_sell, 4, (some .int), 6, 1, 6, false, [])
set_option maxRecDepth 100000 in
theorem mfX3_sell : MF mX3_sell 1 := ⟨wo_X3_sell, ⟨by decide, by decide⟩, by decide +kernel, wn_X3, rfl, by decide⟩
abbrev mX3_hour : MD := (yX3_hour, cX3_hour, 1, (some .int), 0, 0, 0, false, [])
set_option maxRecDepth 100000 in
theorem mfX3_hour : MF mX3_hour 0 := ⟨wo_X3_hour, ⟨by decide, by decide⟩, by decide +kernel, wn_X3, rfl, by decide⟩
abbrev mX3_bore : MD := (yX3_bore, cX3_bore, 2, (some .int), 3, 1, 6, false, [])
set_option maxRecDepth 100000 in
theorem mfX3_bore : MF mX3_bore 1 := ⟨wo_X3_bore, ⟨by decide, by decide⟩, by decide +kernel, wn_X3, rfl, by decide⟩
abbrev mX3_ofCell : MD := (yX3_ofCell, cX3_ofCell, 3, (some .int), 6, 1, 6, false, [])
set_option maxRecDepth 100000 in
theorem mfX3_ofCell : MF mX3_ofCell 2 := ⟨wo_X3_ofCell, ⟨by decide, by decide⟩, by decide +kernel, wn_X3, rfl, by decide⟩
abbrev mX3_ofClaim : MD := (yX3_ofClaim, cX3_ofClaim, 4, (some .int), 7, 1, 6, false, [])
set_option maxRecDepth 100000 in
theorem mfX3_ofClaim : MF mX3_ofClaim 2 := ⟨wo_X3_ofClaim, ⟨by decide, by decide⟩, by decide +kernel, wn_X3, rfl, by decide⟩
abbrev mX3_share : MD := (yX3_share, cX3_share, 4, (some .int), 6, 1, 6, false, [])
set_option maxRecDepth 100000 in
theorem mfX3_share : MF mX3_share 2 := ⟨wo_X3_share, ⟨by decide, by decide⟩, by decide +kernel, wn_X3, rfl, by decide⟩
abbrev mX3_verdict : MD := (yX3_verdict, cX3_verdict, 5, (some .int), 6, 1, 6, false, [])
set_option maxRecDepth 100000 in
theorem mfX3_verdict : MF mX3_verdict 2 := ⟨wo_X3_verdict, ⟨by decide, by decide⟩, by decide +kernel, wn_X3, rfl, by decide⟩
abbrev mX3_ofPerson : MD := (yX3_ofPerson, cX3_ofPerson, 3, (some .int), 6, 1, 6, false, [])
set_option maxRecDepth 100000 in
theorem mfX3_ofPerson : MF mX3_ofPerson 2 := ⟨wo_X3_ofPerson, ⟨by decide, by decide⟩, by decide +kernel, wn_X3, rfl, by decide⟩
abbrev mX3_ofStone : MD := (yX3_ofStone, cX3_ofStone, 4, (some .int), 6, 1, 6, false, [])
set_option maxRecDepth 100000 in
theorem mfX3_ofStone : MF mX3_ofStone 2 := ⟨wo_X3_ofStone, ⟨by decide, by decide⟩, by decide +kernel, wn_X3, rfl, by decide⟩
abbrev mX3_purse : MD := (yX3_purse, cX3_purse, 2, (some .int), 2, 1, 6, false, [])
set_option maxRecDepth 100000 in
theorem mfX3_purse : MF mX3_purse 1 := ⟨wo_X3_purse, ⟨by decide, by decide⟩, by decide +kernel, wn_X3, rfl, by decide⟩
abbrev mX3_carats : MD := (yX3_carats, cX3_carats, 2, (some .int), 6, 1, 6, false, [])
set_option maxRecDepth 100000 in
theorem mfX3_carats : MF mX3_carats 1 := ⟨wo_X3_carats, ⟨by decide, by decide⟩, by decide +kernel, wn_X3, rfl, by decide⟩
abbrev mX3_plan : MD := (yX3_plan, cX3_plan, 4, (some .int), 7, 1, 6, false, [])
set_option maxRecDepth 100000 in
theorem mfX3_plan : MF mX3_plan 2 := ⟨wo_X3_plan, ⟨by decide, by decide⟩, by decide +kernel, wn_X3, rfl, by decide⟩
abbrev mX3_planAnew : MD := (yX3_planAnew, cX3_planAnew, 4, (some .int), 7, 1, 6, false, [])
set_option maxRecDepth 100000 in
theorem mfX3_planAnew : MF mX3_planAnew 2 := ⟨wo_X3_planAnew, ⟨by decide, by decide⟩, by decide +kernel, wn_X3, rfl, by decide⟩
abbrev mX3_needCell : MD := (yX3_needCell, cX3_needCell, 1, none, 1, 0, 0, false, [])
set_option maxRecDepth 100000 in
theorem mfX3_needCell : MF mX3_needCell 1 := ⟨wo_X3_needCell, ⟨by decide, by decide⟩, by decide +kernel, wn_X3, rfl, by decide⟩
abbrev mX3_needCell_x : MD := (yX3_needCell, cX3_needCell, 1, none, 1, 1, 6, false, [])
set_option maxRecDepth 100000 in
theorem mfX3_needCell_x : MF mX3_needCell_x 1 := ⟨wo_X3_needCell, ⟨by decide, by decide⟩, by decide +kernel, wn_X3, rfl, by decide⟩
abbrev mX3_needPerson : MD := (yX3_needPerson, cX3_needPerson, 1, none, 1, 0, 0, false, [])
set_option maxRecDepth 100000 in
theorem mfX3_needPerson : MF mX3_needPerson 1 := ⟨wo_X3_needPerson, ⟨by decide, by decide⟩, by decide +kernel, wn_X3, rfl, by decide⟩
abbrev mX3_needPerson_x : MD := (yX3_needPerson, cX3_needPerson, 1, none, 1, 1, 6, false, [])
set_option maxRecDepth 100000 in
theorem mfX3_needPerson_x : MF mX3_needPerson_x 1 := ⟨wo_X3_needPerson, ⟨by decide, by decide⟩, by decide +kernel, wn_X3, rfl, by decide⟩
abbrev mX3_needBuyer : MD := (yX3_needBuyer, cX3_needBuyer, 1, none, 1, 0, 0, false, [])
set_option maxRecDepth 100000 in
theorem mfX3_needBuyer : MF mX3_needBuyer 1 := ⟨wo_X3_needBuyer, ⟨by decide, by decide⟩, by decide +kernel, wn_X3, rfl, by decide⟩
abbrev mX3_needBuyer_x : MD := (yX3_needBuyer, cX3_needBuyer, 1, none, 1, 1, 6, false, [])
set_option maxRecDepth 100000 in
theorem mfX3_needBuyer_x : MF mX3_needBuyer_x 1 := ⟨wo_X3_needBuyer, ⟨by decide, by decide⟩, by decide +kernel, wn_X3, rfl, by decide⟩
abbrev mX3_claimAt : MD := (yX3_claimAt, cX3_claimAt, 2, (some (.object "OpalField$Claim")), 5, 0, 0, false, [])
set_option maxRecDepth 100000 in
theorem mfX3_claimAt : MF mX3_claimAt 1 := ⟨wo_X3_claimAt, ⟨by decide, by decide⟩, by decide +kernel, wn_X3, rfl, by decide⟩
abbrev mX3_claimAt_x : MD := (yX3_claimAt, cX3_claimAt, 2, (some (.object "OpalField$Claim")), 5, 1, 6, false, [])
set_option maxRecDepth 100000 in
theorem mfX3_claimAt_x : MF mX3_claimAt_x 1 := ⟨wo_X3_claimAt, ⟨by decide, by decide⟩, by decide +kernel, wn_X3, rfl, by decide⟩
abbrev mX3_stoneAt : MD := (yX3_stoneAt, cX3_stoneAt, 2, (some (.object "OpalField$Stone")), 5, 0, 0, false, [])
set_option maxRecDepth 100000 in
theorem mfX3_stoneAt : MF mX3_stoneAt 1 := ⟨wo_X3_stoneAt, ⟨by decide, by decide⟩, by decide +kernel, wn_X3, rfl, by decide⟩
abbrev mX3_stoneAt_x : MD := (yX3_stoneAt, cX3_stoneAt, 2, (some (.object "OpalField$Stone")), 5, 1, 6, false, [])
set_option maxRecDepth 100000 in
theorem mfX3_stoneAt_x : MF mX3_stoneAt_x 1 := ⟨wo_X3_stoneAt, ⟨by decide, by decide⟩, by decide +kernel, wn_X3, rfl, by decide⟩
abbrev mX3_needRange : MD := (yX3_needRange, cX3_needRange, 3, none, 1, 0, 0, false, [])
set_option maxRecDepth 100000 in
theorem mfX3_needRange : MF mX3_needRange 3 := ⟨wo_X3_needRange, ⟨by decide, by decide⟩, by decide +kernel, wn_X3, rfl, by decide⟩
abbrev mX3_needRange_x : MD := (yX3_needRange, cX3_needRange, 3, none, 1, 1, 6, false, [])
set_option maxRecDepth 100000 in
theorem mfX3_needRange_x : MF mX3_needRange_x 3 := ⟨wo_X3_needRange, ⟨by decide, by decide⟩, by decide +kernel, wn_X3, rfl, by decide⟩
abbrev mX3_needFree : MD := (yX3_needFree, cX3_needFree, 2, none, 2, 0, 0, false, [])
set_option maxRecDepth 100000 in
theorem mfX3_needFree : MF mX3_needFree 1 := ⟨wo_X3_needFree, ⟨by decide, by decide⟩, by decide +kernel, wn_X3, rfl, by decide⟩
abbrev mX3_needFree_x : MD := (yX3_needFree, cX3_needFree, 2, none, 2, 1, 6, false, [])
set_option maxRecDepth 100000 in
theorem mfX3_needFree_x : MF mX3_needFree_x 1 := ⟨wo_X3_needFree, ⟨by decide, by decide⟩, by decide +kernel, wn_X3, rfl, by decide⟩
abbrev mX3_claimAtHand : MD := (yX3_claimAtHand, cX3_claimAtHand, 5, (some (.object "OpalField$Claim")), 6, 0, 0, false, [])
set_option maxRecDepth 100000 in
theorem mfX3_claimAtHand : MF mX3_claimAtHand 3 := ⟨wo_X3_claimAtHand, ⟨by decide, by decide⟩, by decide +kernel, wn_X3, rfl, by decide⟩
abbrev mX3_claimAtHand_x : MD := (yX3_claimAtHand, cX3_claimAtHand, 5, (some (.object "OpalField$Claim")), 6, 1, 6, false, [])
set_option maxRecDepth 100000 in
theorem mfX3_claimAtHand_x : MF mX3_claimAtHand_x 3 := ⟨wo_X3_claimAtHand, ⟨by decide, by decide⟩, by decide +kernel, wn_X3, rfl, by decide⟩
abbrev mX3_needOfPerson : MD := (yX3_needOfPerson, cX3_needOfPerson, 1, none, 1, 0, 0, false, [])
set_option maxRecDepth 100000 in
theorem mfX3_needOfPerson : MF mX3_needOfPerson 1 := ⟨wo_X3_needOfPerson, ⟨by decide, by decide⟩, by decide +kernel, wn_X3, rfl, by decide⟩
abbrev mX3_needOfPerson_x : MD := (yX3_needOfPerson, cX3_needOfPerson, 1, none, 1, 1, 6, false, [])
set_option maxRecDepth 100000 in
theorem mfX3_needOfPerson_x : MF mX3_needOfPerson_x 1 := ⟨wo_X3_needOfPerson, ⟨by decide, by decide⟩, by decide +kernel, wn_X3, rfl, by decide⟩
abbrev mX3_isCell : MD := (yX3_isCell, cX3_isCell, 1, (some .boolean), 0, 0, 0, false, [])
set_option maxRecDepth 100000 in
theorem mfX3_isCell : MF mX3_isCell 1 := ⟨wo_X3_isCell, ⟨by decide, by decide⟩, by decide +kernel, wn_X3, rfl, by decide⟩
abbrev mX3_oneIf : MD := (yX3_oneIf, cX3_oneIf, 1, (some .int), 0, 0, 0, false, [])
set_option maxRecDepth 100000 in
theorem mfX3_oneIf : MF mX3_oneIf 1 := ⟨wo_X3_oneIf, ⟨by decide, by decide⟩, by decide +kernel, wn_X3, rfl, by decide⟩
abbrev mX3_sum : MD := (yX3_sum, cX3_sum, 3, (some .int), 0, 0, 0, false, [])
set_option maxRecDepth 100000 in
theorem mfX3_sum : MF mX3_sum 1 := ⟨wo_X3_sum, ⟨by decide, by decide⟩, by decide +kernel, wn_X3, rfl, by decide⟩
abbrev mX3_isNight : MD := (yX3_isNight, cX3_isNight, 2, (some .boolean), 0, 0, 0, false, [])
set_option maxRecDepth 100000 in
theorem mfX3_isNight : MF mX3_isNight 0 := ⟨wo_X3_isNight, ⟨by decide, by decide⟩, by decide +kernel, wn_X3, rfl, by decide⟩
abbrev mX3_hoursBarred : MD := (yX3_hoursBarred, cX3_hoursBarred, 2, (some .int), 1, 0, 0, false, [])
set_option maxRecDepth 100000 in
theorem mfX3_hoursBarred : MF mX3_hoursBarred 1 := ⟨wo_X3_hoursBarred, ⟨by decide, by decide⟩, by decide +kernel, wn_X3, rfl, by decide⟩
abbrev mX3_holderOf : MD := (yX3_holderOf, cX3_holderOf, 6, (some .int), 5, 0, 0, false, [])
set_option maxRecDepth 100000 in
theorem mfX3_holderOf : MF mX3_holderOf 1 := ⟨wo_X3_holderOf, ⟨by decide, by decide⟩, by decide +kernel, wn_X3, rfl, by decide⟩
abbrev mX3_cellsHeldBy : MD := (yX3_cellsHeldBy, cX3_cellsHeldBy, 4, (some .int), 6, 0, 0, false, [])
set_option maxRecDepth 100000 in
theorem mfX3_cellsHeldBy : MF mX3_cellsHeldBy 1 := ⟨wo_X3_cellsHeldBy, ⟨by decide, by decide⟩, by decide +kernel, wn_X3, rfl, by decide⟩
abbrev mX3_work : MD := (yX3_work, cX3_work, 4, (some .int), 11, 4, 300, true, [])
set_option maxRecDepth 100000 in
theorem mfX3_work : MF mX3_work 3 := ⟨wo_X3_work, ⟨by decide, by decide⟩, by decide +kernel, wn_X3, rfl, by decide⟩
abbrev mX3_uncover : MD := (yX3_uncover, cX3_uncover, 5, (some .int), 10, 4, 300, true, [])
set_option maxRecDepth 100000 in
theorem mfX3_uncover : MF mX3_uncover 3 := ⟨wo_X3_uncover, ⟨by decide, by decide⟩, by decide +kernel, wn_X3, rfl, by decide⟩
abbrev mX3_stonesInParcel : MD := (yX3_stonesInParcel, cX3_stonesInParcel, 4, (some .int), 5, 0, 0, false, [])
set_option maxRecDepth 100000 in
theorem mfX3_stonesInParcel : MF mX3_stonesInParcel 1 := ⟨wo_X3_stonesInParcel, ⟨by decide, by decide⟩, by decide +kernel, wn_X3, rfl, by decide⟩
abbrev mX3_caratsInParcel : MD := (yX3_caratsInParcel, cX3_caratsInParcel, 5, (some .int), 5, 0, 0, false, [])
set_option maxRecDepth 100000 in
theorem mfX3_caratsInParcel : MF mX3_caratsInParcel 1 := ⟨wo_X3_caratsInParcel, ⟨by decide, by decide⟩, by decide +kernel, wn_X3, rfl, by decide⟩
abbrev mX3_heaviestInParcel : MD := (yX3_heaviestInParcel, cX3_heaviestInParcel, 6, (some .int), 5, 0, 0, false, [])
set_option maxRecDepth 100000 in
theorem mfX3_heaviestInParcel : MF mX3_heaviestInParcel 1 := ⟨wo_X3_heaviestInParcel, ⟨by decide, by decide⟩, by decide +kernel, wn_X3, rfl, by decide⟩
abbrev mX3_stonesOfPerson : MD := (yX3_stonesOfPerson, cX3_stonesOfPerson, 5, (some .int), 5, 0, 0, false, [])
set_option maxRecDepth 100000 in
theorem mfX3_stonesOfPerson : MF mX3_stonesOfPerson 1 := ⟨wo_X3_stonesOfPerson, ⟨by decide, by decide⟩, by decide +kernel, wn_X3, rfl, by decide⟩
abbrev mX3_caratsOfStones : MD := (yX3_caratsOfStones, cX3_caratsOfStones, 5, (some .int), 5, 0, 0, false, [])
set_option maxRecDepth 100000 in
theorem mfX3_caratsOfStones : MF mX3_caratsOfStones 1 := ⟨wo_X3_caratsOfStones, ⟨by decide, by decide⟩, by decide +kernel, wn_X3, rfl, by decide⟩
abbrev mX3_caratsLost : MD := (yX3_caratsLost, cX3_caratsLost, 3, (some .int), 5, 0, 0, false, [])
set_option maxRecDepth 100000 in
theorem mfX3_caratsLost : MF mX3_caratsLost 0 := ⟨wo_X3_caratsLost, ⟨by decide, by decide⟩, by decide +kernel, wn_X3, rfl, by decide⟩
abbrev mX3_listDiggable : MD := (yX3_listDiggable, cX3_listDiggable, 4, (some .int), 6, 0, 0, false, [])
set_option maxRecDepth 100000 in
theorem mfX3_listDiggable : MF mX3_listDiggable 1 := ⟨wo_X3_listDiggable, ⟨by decide, by decide⟩, by decide +kernel, wn_X3, rfl, by decide⟩
abbrev mX3_mostBySets (d : Nat) : MD := (yX3_mostBySets, cX3_mostBySets, 10, (some .int), 4 + d, 0, 0, false, [])
set_option maxRecDepth 100000 in
theorem mfX3_mostBySets (d : Nat) : MF (mX3_mostBySets d) 5 := ⟨wo_X3_mostBySets, mfX3_oneIf.2.1, (by decide +kernel : (parseMethodDescriptor yX3_mostBySets.desc).map (fun d => d.parameters.length) = some 5), wn_X3, rfl, (Nat.le_of_ble_eq_true rfl : 10 ≤ 40)⟩
abbrev mX3_mostByRows (d : Nat) : MD := (yX3_mostByRows, cX3_mostByRows, 9, (some .int), 4 + d, 0, 0, false, [])
set_option maxRecDepth 100000 in
theorem mfX3_mostByRows (d : Nat) : MF (mX3_mostByRows d) 4 := ⟨wo_X3_mostByRows, mfX3_oneIf.2.1, (by decide +kernel : (parseMethodDescriptor yX3_mostByRows.desc).map (fun d => d.parameters.length) = some 4), wn_X3, rfl, (Nat.le_of_ble_eq_true rfl : 9 ≤ 40)⟩
abbrev mX4_init : MD := (yX4_init, cX4_init, 2, none, 1, 40, 4000, true, [])
set_option maxRecDepth 100000 in
theorem mfX4_init : MF mX4_init 0 := ⟨wo_X4_init, ⟨by decide, by decide⟩, by decide +kernel, wn_X4, rfl, by decide⟩
abbrev mX4_thrown : MD := (yX4_thrown, cX4_thrown, 1, (some .int), 0, 0, 0, false, [])
set_option maxRecDepth 100000 in
theorem mfX4_thrown : MF mX4_thrown 0 := ⟨wo_X4_thrown, ⟨by decide, by decide⟩, by decide +kernel, wn_X4, rfl, by decide⟩
abbrev mX4_in : MD := (yX4_in, cX4_in, 3, (some .boolean), 0, 0, 0, false, [])
set_option maxRecDepth 100000 in
theorem mfX4_in : MF mX4_in 3 := ⟨wo_X4_in, ⟨by decide, by decide⟩, by decide +kernel, wn_X4, rfl, by decide⟩
abbrev mX4_isCell : MD := (yX4_isCell, cX4_isCell, 1, (some .boolean), 1, 0, 0, false, [])
set_option maxRecDepth 100000 in
theorem mfX4_isCell : MF mX4_isCell 1 := ⟨wo_X4_isCell, ⟨by decide, by decide⟩, by decide +kernel, wn_X4, rfl, by decide⟩
abbrev mX4_isPerson : MD := (yX4_isPerson, cX4_isPerson, 1, (some .boolean), 1, 0, 0, false, [])
set_option maxRecDepth 100000 in
theorem mfX4_isPerson : MF mX4_isPerson 1 := ⟨wo_X4_isPerson, ⟨by decide, by decide⟩, by decide +kernel, wn_X4, rfl, by decide⟩
abbrev mX4_isClaim : MD := (yX4_isClaim, cX4_isClaim, 2, (some .boolean), 1, 0, 0, false, [])
set_option maxRecDepth 100000 in
theorem mfX4_isClaim : MF mX4_isClaim 1 := ⟨wo_X4_isClaim, ⟨by decide, by decide⟩, by decide +kernel, wn_X4, rfl, by decide⟩
abbrev mX4_isStone : MD := (yX4_isStone, cX4_isStone, 2, (some .boolean), 1, 0, 0, false, [])
set_option maxRecDepth 100000 in
theorem mfX4_isStone : MF mX4_isStone 1 := ⟨wo_X4_isStone, ⟨by decide, by decide⟩, by decide +kernel, wn_X4, rfl, by decide⟩
abbrev mX4_isBarred : MD := (yX4_isBarred, cX4_isBarred, 2, (some .boolean), 0, 0, 0, false, [])
set_option maxRecDepth 100000 in
theorem mfX4_isBarred : MF mX4_isBarred 1 := ⟨wo_X4_isBarred, ⟨by decide, by decide⟩, by decide +kernel, wn_X4, rfl, by decide⟩
abbrev mX4_beside : MD := (yX4_beside, cX4_beside, 4, (some .int), 1, 0, 0, false, [])
set_option maxRecDepth 100000 in
theorem mfX4_beside : MF mX4_beside 2 := ⟨wo_X4_beside, ⟨by decide, by decide⟩, by decide +kernel, wn_X4, rfl, by decide⟩
abbrev mX4_seam : MD := (yX4_seam, cX4_seam, 5, none, 2, 0, 0, false, [])
set_option maxRecDepth 100000 in
theorem mfX4_seam : MF mX4_seam 3 := ⟨wo_X4_seam, ⟨by decide, by decide⟩, by decide +kernel, wn_X4, rfl, by decide⟩
abbrev mX4_pass : MD := (yX4_pass, cX4_pass, 2, (some .int), 1, 0, 0, false, [])
set_option maxRecDepth 100000 in
theorem mfX4_pass : MF mX4_pass 1 := ⟨wo_X4_pass, ⟨by decide, by decide⟩, by decide +kernel, wn_X4, rfl, by decide⟩
abbrev mX4_peg : MD := (yX4_peg, cX4_peg, 7, (some .int), 2, 0, 0, false, [])
set_option maxRecDepth 100000 in
theorem mfX4_peg : MF mX4_peg 4 := ⟨wo_X4_peg, ⟨by decide, by decide⟩, by decide +kernel, wn_X4, rfl, by decide⟩
abbrev mX4_ownersShare : MD := (yX4_ownersShare, cX4_ownersShare, 4, (some .int), 0, 0, 0, false, [])
set_option maxRecDepth 100000 in
theorem mfX4_ownersShare : MF mX4_ownersShare 1 := ⟨wo_X4_ownersShare, ⟨by decide, by decide⟩, by decide +kernel, wn_X4, rfl, by decide⟩
abbrev mX4_shareOf : MD := (yX4_shareOf, cX4_shareOf, 3, (some .int), 1, 0, 0, false, [])
set_option maxRecDepth 100000 in
theorem mfX4_shareOf : MF mX4_shareOf 2 := ⟨wo_X4_shareOf, ⟨by decide, by decide⟩, by decide +kernel, wn_X4, rfl, by decide⟩
abbrev mX4_isLive : MD := (yX4_isLive, cX4_isLive, 2, (some .boolean), 0, 0, 0, false, [])
set_option maxRecDepth 100000 in
theorem mfX4_isLive : MF mX4_isLive 1 := ⟨wo_X4_isLive, ⟨by decide, by decide⟩, by decide +kernel, wn_X4, rfl, by decide⟩
abbrev mX4_upTo : MD := (yX4_upTo, cX4_upTo, 6, (some .int), 0, 0, 0, false, [])
set_option maxRecDepth 100000 in
theorem mfX4_upTo : MF mX4_upTo 2 := ⟨wo_X4_upTo, ⟨by decide, by decide⟩, by decide +kernel, wn_X4, rfl, by decide⟩
abbrev mX4_hourOf : MD := (yX4_hourOf, cX4_hourOf, 7, (some .int), 1, 0, 0, false, [])
set_option maxRecDepth 100000 in
theorem mfX4_hourOf : MF mX4_hourOf 1 := ⟨wo_X4_hourOf, ⟨by decide, by decide⟩, by decide +kernel, wn_X4, rfl, by decide⟩
abbrev mX4_witness : MD := (yX4_witness, cX4_witness, 4, (some .int), 2, 0, 0, false, [])
set_option maxRecDepth 100000 in
theorem mfX4_witness : MF mX4_witness 3 := ⟨wo_X4_witness, ⟨by decide, by decide⟩, by decide +kernel, wn_X4, rfl, by decide⟩
abbrev mX4_partner : MD := (yX4_partner, cX4_partner, 4, (some .int), 2, 0, 0, false, [])
set_option maxRecDepth 100000 in
theorem mfX4_partner : MF mX4_partner 3 := ⟨wo_X4_partner, ⟨by decide, by decide⟩, by decide +kernel, wn_X4, rfl, by decide⟩
abbrev mX4_covers : MD := (yX4_covers, cX4_covers, 5, (some .boolean), 1, 0, 0, false, [])
set_option maxRecDepth 100000 in
theorem mfX4_covers : MF mX4_covers 2 := ⟨wo_X4_covers, ⟨by decide, by decide⟩, by decide +kernel, wn_X4, rfl, by decide⟩
abbrev mX4_holder : MD := (yX4_holder, cX4_holder, 4, (some .int), 2, 0, 0, false, [])
set_option maxRecDepth 100000 in
theorem mfX4_holder : MF mX4_holder 1 := ⟨wo_X4_holder, ⟨by decide, by decide⟩, by decide +kernel, wn_X4, rfl, by decide⟩
abbrev mX4_isBesideOpen : MD := (yX4_isBesideOpen, cX4_isBesideOpen, 5, (some .boolean), 2, 0, 0, false, [])
set_option maxRecDepth 100000 in
theorem mfX4_isBesideOpen : MF mX4_isBesideOpen 1 := ⟨wo_X4_isBesideOpen, ⟨by decide, by decide⟩, by decide +kernel, wn_X4, rfl, by decide⟩
abbrev mX4_isLoose : MD := (yX4_isLoose, cX4_isLoose, 2, (some .boolean), 0, 0, 0, false, [])
set_option maxRecDepth 100000 in
theorem mfX4_isLoose : MF mX4_isLoose 1 := ⟨wo_X4_isLoose, ⟨by decide, by decide⟩, by decide +kernel, wn_X4, rfl, by decide⟩
abbrev mX4_run : MD := (yX4_run, cX4_run, 5, (some .int), 2, 0, 0, false, [])
set_option maxRecDepth 100000 in
theorem mfX4_run : MF mX4_run 2 := ⟨wo_X4_run, ⟨by decide, by decide⟩, by decide +kernel, wn_X4, rfl, by decide⟩
abbrev mX4_marks : MD := (yX4_marks, cX4_marks, 4, none, 2, 0, 0, false, [])
set_option maxRecDepth 100000 in
theorem mfX4_marks : MF mX4_marks 2 := ⟨wo_X4_marks, ⟨by decide, by decide⟩, by decide +kernel, wn_X4, rfl, by decide⟩
abbrev mX4_isFall : MD := (yX4_isFall, cX4_isFall, 2, (some .boolean), 3, 0, 0, false, [])
set_option maxRecDepth 100000 in
theorem mfX4_isFall : MF mX4_isFall 1 := ⟨wo_X4_isFall, ⟨by decide, by decide⟩, by decide +kernel, wn_X4, rfl, by decide⟩
abbrev mX4_mayFall : MD := (yX4_mayFall, cX4_mayFall, 3, none, 3, 0, 0, false, [])
set_option maxRecDepth 100000 in
theorem mfX4_mayFall : MF mX4_mayFall 1 := ⟨wo_X4_mayFall, ⟨by decide, by decide⟩, by decide +kernel, wn_X4, rfl, by decide⟩
abbrev mX4_opens : MD := (yX4_opens, cX4_opens, 5, (some .int), 4, 0, 0, false, [])
set_option maxRecDepth 100000 in
theorem mfX4_opens : MF mX4_opens 3 := ⟨wo_X4_opens, ⟨by decide, by decide⟩, by decide +kernel, wn_X4, rfl, by decide⟩
abbrev mX4_asks : MD := (yX4_asks, cX4_asks, 4, none, 3, 0, 0, false, [])
set_option maxRecDepth 100000 in
theorem mfX4_asks : MF mX4_asks 3 := ⟨wo_X4_asks, ⟨by decide, by decide⟩, by decide +kernel, wn_X4, rfl, by decide⟩
abbrev mX4_dig : MD := (yX4_dig, cX4_dig, 4, (some .int), 5, 0, 0, false, [])
set_option maxRecDepth 100000 in
theorem mfX4_dig : MF mX4_dig 3 := ⟨wo_X4_dig, ⟨by decide, by decide⟩, by decide +kernel, wn_X4, rfl, by decide⟩
abbrev mX4_sink : MD := (yX4_sink, cX4_sink, 4, (some .int), 5, 0, 0, false, [])
set_option maxRecDepth 100000 in
theorem mfX4_sink : MF mX4_sink 3 := ⟨wo_X4_sink, ⟨by decide, by decide⟩, by decide +kernel, wn_X4, rfl, by decide⟩
abbrev mX4_prop : MD := (yX4_prop, cX4_prop, 4, none, 4, 0, 0, false, [])
set_option maxRecDepth 100000 in
theorem mfX4_prop : MF mX4_prop 3 := ⟨wo_X4_prop, ⟨by decide, by decide⟩, by decide +kernel, wn_X4, rfl, by decide⟩
abbrev mX4_trapsOf : MD := (yX4_trapsOf, cX4_trapsOf, 4, (some .int), 0, 0, 0, false, [])
set_option maxRecDepth 100000 in
theorem mfX4_trapsOf : MF mX4_trapsOf 1 := ⟨wo_X4_trapsOf, ⟨by decide, by decide⟩, by decide +kernel, wn_X4, rfl, by decide⟩
abbrev mX4_trap : MD := (yX4_trap, cX4_trap, 4, (some .int), 4, 0, 0, false, [])
set_option maxRecDepth 100000 in
theorem mfX4_trap : MF mX4_trap 3 := ⟨wo_X4_trap, ⟨by decide, by decide⟩, by decide +kernel, wn_X4, rfl, by decide⟩
abbrev mX4_isNight : MD := (yX4_isNight, cX4_isNight, 2, (some .boolean), 0, 0, 0, false, [])
set_option maxRecDepth 100000 in
theorem mfX4_isNight : MF mX4_isNight 0 := ⟨wo_X4_isNight, ⟨by decide, by decide⟩, by decide +kernel, wn_X4, rfl, by decide⟩
abbrev mX4_canRat : MD := (yX4_canRat, cX4_canRat, 5, (some .boolean), 3, 0, 0, false, [])
set_option maxRecDepth 100000 in
theorem mfX4_canRat : MF mX4_canRat 2 := ⟨wo_X4_canRat, ⟨by decide, by decide⟩, by decide +kernel, wn_X4, rfl, by decide⟩
abbrev mX4_rat : MD := (yX4_rat, cX4_rat, 3, (some .int), 5, 0, 0, false, [])
set_option maxRecDepth 100000 in
theorem mfX4_rat : MF mX4_rat 2 := ⟨wo_X4_rat, ⟨by decide, by decide⟩, by decide +kernel, wn_X4, rfl, by decide⟩
abbrev mX4_isIn : MD := (yX4_isIn, cX4_isIn, 3, (some .boolean), 0, 0, 0, false, [])
set_option maxRecDepth 100000 in
theorem mfX4_isIn : MF mX4_isIn 2 := ⟨wo_X4_isIn, ⟨by decide, by decide⟩, by decide +kernel, wn_X4, rfl, by decide⟩
abbrev mX4_parcel : MD := (yX4_parcel, cX4_parcel, 4, (some .int), 1, 0, 0, false, [])
set_option maxRecDepth 100000 in
theorem mfX4_parcel : MF mX4_parcel 1 := ⟨wo_X4_parcel, ⟨by decide, by decide⟩, by decide +kernel, wn_X4, rfl, by decide⟩
abbrev mX4_greatest : MD := (yX4_greatest, cX4_greatest, 4, (some .int), 1, 0, 0, false, [])
set_option maxRecDepth 100000 in
theorem mfX4_greatest : MF mX4_greatest 1 := ⟨wo_X4_greatest, ⟨by decide, by decide⟩, by decide +kernel, wn_X4, rfl, by decide⟩
abbrev mX4_next : MD := (yX4_next, cX4_next, 7, (some .int), 2, 0, 0, false, [])
set_option maxRecDepth 100000 in
theorem mfX4_next : MF mX4_next 2 := ⟨wo_X4_next, ⟨by decide, by decide⟩, by decide +kernel, wn_X4, rfl, by decide⟩
abbrev mX4_divide : MD := (yX4_divide, cX4_divide, 7, (some .int), 3, 0, 0, false, [])
set_option maxRecDepth 100000 in
theorem mfX4_divide : MF mX4_divide 1 := ⟨wo_X4_divide, ⟨by decide, by decide⟩, by decide +kernel, wn_X4, rfl, by decide⟩
abbrev mX4_isInParcel : MD := (yX4_isInParcel, cX4_isInParcel, 2, (some .boolean), 0, 0, 0, false, [])
set_option maxRecDepth 100000 in
theorem mfX4_isInParcel : MF mX4_isInParcel 1 := ⟨wo_X4_isInParcel, ⟨by decide, by decide⟩, by decide +kernel, wn_X4, rfl, by decide⟩
abbrev mX4_looks : MD := (yX4_looks, cX4_looks, 2, (some .int), 0, 0, 0, false, [])
set_option maxRecDepth 100000 in
theorem mfX4_looks : MF mX4_looks 1 := ⟨wo_X4_looks, ⟨by decide, by decide⟩, by decide +kernel, wn_X4, rfl, by decide⟩
abbrev mX4_rub : MD := (yX4_rub, cX4_rub, 3, (some .int), 2, 0, 0, false, [])
set_option maxRecDepth 100000 in
theorem mfX4_rub : MF mX4_rub 1 := ⟨wo_X4_rub, ⟨by decide, by decide⟩, by decide +kernel, wn_X4, rfl, by decide⟩
abbrev mX4_isBuyer : MD := (yX4_isBuyer, cX4_isBuyer, 1, (some .boolean), 1, 0, 0, false, [])
set_option maxRecDepth 100000 in
theorem mfX4_isBuyer : MF mX4_isBuyer 1 := ⟨wo_X4_isBuyer, ⟨by decide, by decide⟩, by decide +kernel, wn_X4, rfl, by decide⟩
abbrev mX4_bid : MD := (yX4_bid, cX4_bid, 4, (some .int), 2, 0, 0, false, [])
set_option maxRecDepth 100000 in
theorem mfX4_bid : MF mX4_bid 3 := ⟨wo_X4_bid, ⟨by decide, by decide⟩, by decide +kernel, wn_X4, rfl, by decide⟩
abbrev mX4_highest : MD := (yX4_highest, cX4_highest, 7, (some .int), 0, 0, 0, false, [])
set_option maxRecDepth 100000 in
theorem mfX4_highest : MF mX4_highest 1 := ⟨wo_X4_highest, ⟨by decide, by decide⟩, by decide +kernel, wn_X4, rfl, by decide⟩
abbrev mX4_sell : MD := (yX4_sell, cX4_sell, 4, (some .int), 2, 0, 0, false, [])
set_option maxRecDepth 100000 in
theorem mfX4_sell : MF mX4_sell 1 := ⟨wo_X4_sell, ⟨by decide, by decide⟩, by decide +kernel, wn_X4, rfl, by decide⟩
abbrev mX4_hour : MD := (yX4_hour, cX4_hour, 1, (some .int), 0, 0, 0, false, [])
set_option maxRecDepth 100000 in
theorem mfX4_hour : MF mX4_hour 0 := ⟨wo_X4_hour, ⟨by decide, by decide⟩, by decide +kernel, wn_X4, rfl, by decide⟩
abbrev mX4_bore : MD := (yX4_bore, cX4_bore, 5, (some .int), 2, 0, 0, false, [])
set_option maxRecDepth 100000 in
theorem mfX4_bore : MF mX4_bore 1 := ⟨wo_X4_bore, ⟨by decide, by decide⟩, by decide +kernel, wn_X4, rfl, by decide⟩
abbrev mX4_ofCell : MD := (yX4_ofCell, cX4_ofCell, 3, (some .int), 3, 0, 0, false, [])
set_option maxRecDepth 100000 in
theorem mfX4_ofCell : MF mX4_ofCell 2 := ⟨wo_X4_ofCell, ⟨by decide, by decide⟩, by decide +kernel, wn_X4, rfl, by decide⟩
abbrev mX4_held : MD := (yX4_held, cX4_held, 4, (some .int), 3, 0, 0, false, [])
set_option maxRecDepth 100000 in
theorem mfX4_held : MF mX4_held 1 := ⟨wo_X4_held, ⟨by decide, by decide⟩, by decide +kernel, wn_X4, rfl, by decide⟩
abbrev mX4_ofClaim : MD := (yX4_ofClaim, cX4_ofClaim, 3, (some .int), 4, 0, 0, false, [])
set_option maxRecDepth 100000 in
theorem mfX4_ofClaim : MF mX4_ofClaim 2 := ⟨wo_X4_ofClaim, ⟨by decide, by decide⟩, by decide +kernel, wn_X4, rfl, by decide⟩
abbrev mX4_share : MD := (yX4_share, cX4_share, 3, (some .int), 2, 0, 0, false, [])
set_option maxRecDepth 100000 in
theorem mfX4_share : MF mX4_share 2 := ⟨wo_X4_share, ⟨by decide, by decide⟩, by decide +kernel, wn_X4, rfl, by decide⟩
abbrev mX4_meet : MD := (yX4_meet, cX4_meet, 5, (some .boolean), 2, 0, 0, false, [])
set_option maxRecDepth 100000 in
theorem mfX4_meet : MF mX4_meet 2 := ⟨wo_X4_meet, ⟨by decide, by decide⟩, by decide +kernel, wn_X4, rfl, by decide⟩
abbrev mX4_verdict : MD := (yX4_verdict, cX4_verdict, 5, (some .int), 3, 0, 0, false, [])
set_option maxRecDepth 100000 in
theorem mfX4_verdict : MF mX4_verdict 2 := ⟨wo_X4_verdict, ⟨by decide, by decide⟩, by decide +kernel, wn_X4, rfl, by decide⟩
abbrev mX4_stonesOf : MD := (yX4_stonesOf, cX4_stonesOf, 4, (some .int), 0, 0, 0, false, [])
set_option maxRecDepth 100000 in
theorem mfX4_stonesOf : MF mX4_stonesOf 1 := ⟨wo_X4_stonesOf, ⟨by decide, by decide⟩, by decide +kernel, wn_X4, rfl, by decide⟩
abbrev mX4_ofPerson : MD := (yX4_ofPerson, cX4_ofPerson, 3, (some .int), 2, 0, 0, false, [])
set_option maxRecDepth 100000 in
theorem mfX4_ofPerson : MF mX4_ofPerson 2 := ⟨wo_X4_ofPerson, ⟨by decide, by decide⟩, by decide +kernel, wn_X4, rfl, by decide⟩
abbrev mX4_value : MD := (yX4_value, cX4_value, 2, (some .int), 1, 0, 0, false, [])
set_option maxRecDepth 100000 in
theorem mfX4_value : MF mX4_value 1 := ⟨wo_X4_value, ⟨by decide, by decide⟩, by decide +kernel, wn_X4, rfl, by decide⟩
abbrev mX4_ofStone : MD := (yX4_ofStone, cX4_ofStone, 3, (some .int), 2, 0, 0, false, [])
set_option maxRecDepth 100000 in
theorem mfX4_ofStone : MF mX4_ofStone 2 := ⟨wo_X4_ofStone, ⟨by decide, by decide⟩, by decide +kernel, wn_X4, rfl, by decide⟩
abbrev mX4_purse : MD := (yX4_purse, cX4_purse, 2, (some .int), 2, 0, 0, false, [])
set_option maxRecDepth 100000 in
theorem mfX4_purse : MF mX4_purse 1 := ⟨wo_X4_purse, ⟨by decide, by decide⟩, by decide +kernel, wn_X4, rfl, by decide⟩
abbrev mX4_weighed : MD := (yX4_weighed, cX4_weighed, 5, (some .int), 1, 0, 0, false, [])
set_option maxRecDepth 100000 in
theorem mfX4_weighed : MF mX4_weighed 1 := ⟨wo_X4_weighed, ⟨by decide, by decide⟩, by decide +kernel, wn_X4, rfl, by decide⟩
abbrev mX4_carats : MD := (yX4_carats, cX4_carats, 4, (some .int), 2, 0, 0, false, [])
set_option maxRecDepth 100000 in
theorem mfX4_carats : MF mX4_carats 1 := ⟨wo_X4_carats, ⟨by decide, by decide⟩, by decide +kernel, wn_X4, rfl, by decide⟩
abbrev mX4_canPlan : MD := (yX4_canPlan, cX4_canPlan, 5, (some .boolean), 4, 0, 0, false, [])
set_option maxRecDepth 100000 in
theorem mfX4_canPlan : MF mX4_canPlan 2 := ⟨wo_X4_canPlan, ⟨by decide, by decide⟩, by decide +kernel, wn_X4, rfl, by decide⟩
abbrev mX4_digsOne : MD := (yX4_digsOne, cX4_digsOne, 4, (some .int), 5, 0, 0, false, [])
set_option maxRecDepth 100000 in
theorem mfX4_digsOne : MF mX4_digsOne 1 := ⟨wo_X4_digsOne, ⟨by decide, by decide⟩, by decide +kernel, wn_X4, rfl, by decide⟩
abbrev mX4_digsTwo : MD := (yX4_digsTwo, cX4_digsTwo, 6, (some .int), 6, 0, 0, false, [])
set_option maxRecDepth 100000 in
theorem mfX4_digsTwo : MF mX4_digsTwo 1 := ⟨wo_X4_digsTwo, ⟨by decide, by decide⟩, by decide +kernel, wn_X4, rfl, by decide⟩
abbrev mX4_digsThree : MD := (yX4_digsThree, cX4_digsThree, 6, (some .int), 7, 0, 0, false, [])
set_option maxRecDepth 100000 in
theorem mfX4_digsThree : MF mX4_digsThree 1 := ⟨wo_X4_digsThree, ⟨by decide, by decide⟩, by decide +kernel, wn_X4, rfl, by decide⟩
abbrev mX4_plan : MD := (yX4_plan, cX4_plan, 3, (some .int), 8, 0, 0, false, [])
set_option maxRecDepth 100000 in
theorem mfX4_plan : MF mX4_plan 2 := ⟨wo_X4_plan, ⟨by decide, by decide⟩, by decide +kernel, wn_X4, rfl, by decide⟩
abbrev mX4_planAnew : MD := (yX4_planAnew, cX4_planAnew, 3, (some .int), 9, 0, 0, false, [])
set_option maxRecDepth 100000 in
theorem mfX4_planAnew : MF mX4_planAnew 2 := ⟨wo_X4_planAnew, ⟨by decide, by decide⟩, by decide +kernel, wn_X4, rfl, by decide⟩
abbrev mX0_init : MD := (yX0_init, cX0_init, 6, none, 2, 2, 16, true, [])
set_option maxRecDepth 100000 in
theorem mfX0_init : MF mX0_init 5 := ⟨wo_X0_init, ⟨by decide, by decide⟩, by decide +kernel, wn_X0, rfl, by decide⟩
abbrev mX0_isOfPeople : MD := (yX0_isOfPeople, cX0_isOfPeople, 2, (some .boolean), 0, 0, 0, false, [])
set_option maxRecDepth 100000 in
theorem mfX0_isOfPeople : MF mX0_isOfPeople 1 := ⟨wo_X0_isOfPeople, ⟨by decide, by decide⟩, by decide +kernel, wn_X0, rfl, by decide⟩
abbrev mX0_isLive : MD := (yX0_isLive, cX0_isLive, 2, (some .boolean), 2, 0, 0, false, [])
set_option maxRecDepth 100000 in
theorem mfX0_isLive : MF mX0_isLive 1 := ⟨wo_X0_isLive, ⟨by decide, by decide⟩, by decide +kernel, wn_X0, rfl, by decide⟩
abbrev mX0_hoursToLapse : MD := (yX0_hoursToLapse, cX0_hoursToLapse, 2, (some .int), 1, 0, 0, false, [])
set_option maxRecDepth 100000 in
theorem mfX0_hoursToLapse : MF mX0_hoursToLapse 1 := ⟨wo_X0_hoursToLapse, ⟨by decide, by decide⟩, by decide +kernel, wn_X0, rfl, by decide⟩
abbrev mX0_covers : MD := (yX0_covers, cX0_covers, 4, (some .boolean), 0, 0, 0, false, [])
set_option maxRecDepth 100000 in
theorem mfX0_covers : MF mX0_covers 1 := ⟨wo_X0_covers, ⟨by decide, by decide⟩, by decide +kernel, wn_X0, rfl, by decide⟩
abbrev mX0_overlaps : MD := (yX0_overlaps, cX0_overlaps, 2, (some .boolean), 0, 0, 0, false, [])
set_option maxRecDepth 100000 in
theorem mfX0_overlaps : MF mX0_overlaps 1 := ⟨wo_X0_overlaps, ⟨by decide, by decide⟩, by decide +kernel, wn_X0, rfl, by decide⟩
abbrev mX0_middleHourTold : MD := (yX0_middleHourTold, cX0_middleHourTold, 3, (some .int), 2, 0, 0, false, [])
set_option maxRecDepth 100000 in
theorem mfX0_middleHourTold : MF mX0_middleHourTold 0 := ⟨wo_X0_middleHourTold, ⟨by decide, by decide⟩, by decide +kernel, wn_X0, rfl, by decide⟩
abbrev mX0_isMiddle : MD := (yX0_isMiddle, cX0_isMiddle, 7, (some .boolean), 1, 0, 0, false, [])
set_option maxRecDepth 100000 in
theorem mfX0_isMiddle : MF mX0_isMiddle 1 := ⟨wo_X0_isMiddle, ⟨by decide, by decide⟩, by decide +kernel, wn_X0, rfl, by decide⟩
abbrev mX0_mostWanting : MD := (yX0_mostWanting, cX0_mostWanting, 7, (some .int), 1, 0, 0, false, [])
set_option maxRecDepth 100000 in
theorem mfX0_mostWanting : MF mX0_mostWanting 2 := ⟨wo_X0_mostWanting, ⟨by decide, by decide⟩, by decide +kernel, wn_X0, rfl, by decide⟩
abbrev mX0_wanting : MD := (yX0_wanting, cX0_wanting, 4, (some .int), 0, 0, 0, false, [])
set_option maxRecDepth 100000 in
theorem mfX0_wanting : MF mX0_wanting 3 := ⟨wo_X0_wanting, ⟨by decide, by decide⟩, by decide +kernel, wn_X0, rfl, by decide⟩
abbrev mX1_init : MD := (yX1_init, cX1_init, 1, none, 2, 6, 600, true, [])
set_option maxRecDepth 100000 in
theorem mfX1_init : MF mX1_init 0 := ⟨wo_X1_init, ⟨by decide, by decide⟩, by decide +kernel, wn_X1, rfl, by decide⟩
abbrev mX1_isOpen : MD := (yX1_isOpen, cX1_isOpen, 2, (some .boolean), 1, 0, 0, false, [])
set_option maxRecDepth 100000 in
theorem mfX1_isOpen : MF mX1_isOpen 1 := ⟨wo_X1_isOpen, ⟨by decide, by decide⟩, by decide +kernel, wn_X1, rfl, by decide⟩
abbrev mX1_isLoose : MD := (yX1_isLoose, cX1_isLoose, 2, (some .boolean), 0, 0, 0, false, [])
set_option maxRecDepth 100000 in
theorem mfX1_isLoose : MF mX1_isLoose 1 := ⟨wo_X1_isLoose, ⟨by decide, by decide⟩, by decide +kernel, wn_X1, rfl, by decide⟩
abbrev mX1_canBeDug : MD := (yX1_canBeDug, cX1_canBeDug, 3, (some .boolean), 2, 0, 0, false, [])
set_option maxRecDepth 100000 in
theorem mfX1_canBeDug : MF mX1_canBeDug 1 := ⟨wo_X1_canBeDug, ⟨by decide, by decide⟩, by decide +kernel, wn_X1, rfl, by decide⟩
abbrev mX1_canBeDugSafely : MD := (yX1_canBeDugSafely, cX1_canBeDugSafely, 2, (some .boolean), 3, 0, 0, false, [])
set_option maxRecDepth 100000 in
theorem mfX1_canBeDugSafely : MF mX1_canBeDugSafely 1 := ⟨wo_X1_canBeDugSafely, ⟨by decide, by decide⟩, by decide +kernel, wn_X1, rfl, by decide⟩
abbrev mX1_openForNow : MD := (yX1_openForNow, cX1_openForNow, 3, (some .int), 0, 0, 0, false, [])
set_option maxRecDepth 100000 in
theorem mfX1_openForNow : MF mX1_openForNow 1 := ⟨wo_X1_openForNow, ⟨by decide, by decide⟩, by decide +kernel, wn_X1, rfl, by decide⟩
abbrev mX1_caratsAround : MD := (yX1_caratsAround, cX1_caratsAround, 3, (some .int), 2, 0, 0, false, [])
set_option maxRecDepth 100000 in
theorem mfX1_caratsAround : MF mX1_caratsAround 1 := ⟨wo_X1_caratsAround, ⟨by decide, by decide⟩, by decide +kernel, wn_X1, rfl, by decide⟩
abbrev mX1_hasCarats : MD := (yX1_hasCarats, cX1_hasCarats, 2, (some .boolean), 1, 0, 0, false, [])
set_option maxRecDepth 100000 in
theorem mfX1_hasCarats : MF mX1_hasCarats 1 := ⟨wo_X1_hasCarats, ⟨by decide, by decide⟩, by decide +kernel, wn_X1, rfl, by decide⟩
abbrev mX1_trapsOf : MD := (yX1_trapsOf, cX1_trapsOf, 4, (some .int), 1, 0, 0, false, [])
set_option maxRecDepth 100000 in
theorem mfX1_trapsOf : MF mX1_trapsOf 1 := ⟨wo_X1_trapsOf, ⟨by decide, by decide⟩, by decide +kernel, wn_X1, rfl, by decide⟩
abbrev mX1_looseInRow : MD := (yX1_looseInRow, cX1_looseInRow, 2, (some .int), 2, 0, 0, false, [])
set_option maxRecDepth 100000 in
theorem mfX1_looseInRow : MF mX1_looseInRow 1 := ⟨wo_X1_looseInRow, ⟨by decide, by decide⟩, by decide +kernel, wn_X1, rfl, by decide⟩
abbrev mX1_looseInColumn : MD := (yX1_looseInColumn, cX1_looseInColumn, 2, (some .int), 2, 0, 0, false, [])
set_option maxRecDepth 100000 in
theorem mfX1_looseInColumn : MF mX1_looseInColumn 1 := ⟨wo_X1_looseInColumn, ⟨by decide, by decide⟩, by decide +kernel, wn_X1, rfl, by decide⟩
abbrev mX1_looseBeside : MD := (yX1_looseBeside, cX1_looseBeside, 5, (some .int), 1, 0, 0, false, [])
set_option maxRecDepth 100000 in
theorem mfX1_looseBeside : MF mX1_looseBeside 3 := ⟨wo_X1_looseBeside, ⟨by decide, by decide⟩, by decide +kernel, wn_X1, rfl, by decide⟩
abbrev mX1_fall : MD := (yX1_fall, cX1_fall, 6, none, 3, 0, 0, false, [])
set_option maxRecDepth 100000 in
theorem mfX1_fall : MF mX1_fall 1 := ⟨wo_X1_fall, ⟨by decide, by decide⟩, by decide +kernel, wn_X1, rfl, by decide⟩
abbrev mX1_bury : MD := (yX1_bury, cX1_bury, 6, none, 1, 0, 0, false, [])
set_option maxRecDepth 100000 in
theorem mfX1_bury : MF mX1_bury 3 := ⟨wo_X1_bury, ⟨by decide, by decide⟩, by decide +kernel, wn_X1, rfl, by decide⟩
abbrev mX2_init : MD := (yX2_init, cX2_init, 6, none, 1, 2, 10, true, [])
set_option maxRecDepth 100000 in
theorem mfX2_init : MF mX2_init 5 := ⟨wo_X2_init, ⟨by decide, by decide⟩, by decide +kernel, wn_X2, rfl, by decide⟩
abbrev mX2_place : MD := (yX2_place, cX2_place, 1, (some .int), 0, 0, 0, false, [])
set_option maxRecDepth 100000 in
theorem mfX2_place : MF mX2_place 0 := ⟨wo_X2_place, ⟨by decide, by decide⟩, by decide +kernel, wn_X2, rfl, by decide⟩
abbrev mX2_isInParcelOf : MD := (yX2_isInParcelOf, cX2_isInParcelOf, 2, (some .boolean), 1, 0, 0, false, [])
set_option maxRecDepth 100000 in
theorem mfX2_isInParcelOf : MF mX2_isInParcelOf 1 := ⟨wo_X2_isInParcelOf, ⟨by decide, by decide⟩, by decide +kernel, wn_X2, rfl, by decide⟩
abbrev mX2_lustre : MD := (yX2_lustre, cX2_lustre, 1, (some .int), 0, 0, 0, false, [])
set_option maxRecDepth 100000 in
theorem mfX2_lustre : MF mX2_lustre 0 := ⟨wo_X2_lustre, ⟨by decide, by decide⟩, by decide +kernel, wn_X2, rfl, by decide⟩
abbrev mX2_value : MD := (yX2_value, cX2_value, 1, (some .int), 1, 0, 0, false, [])
set_option maxRecDepth 100000 in
theorem mfX2_value : MF mX2_value 0 := ⟨wo_X2_value, ⟨by decide, by decide⟩, by decide +kernel, wn_X2, rfl, by decide⟩
abbrev mX2_bestBidder : MD := (yX2_bestBidder, cX2_bestBidder, 4, (some .int), 1, 0, 0, false, [])
set_option maxRecDepth 100000 in
theorem mfX2_bestBidder : MF mX2_bestBidder 1 := ⟨wo_X2_bestBidder, ⟨by decide, by decide⟩, by decide +kernel, wn_X2, rfl, by decide⟩
abbrev mX2_isAhead : MD := (yX2_isAhead, cX2_isAhead, 3, (some .boolean), 0, 0, 0, false, [])
set_option maxRecDepth 100000 in
theorem mfX2_isAhead : MF mX2_isAhead 2 := ⟨wo_X2_isAhead, ⟨by decide, by decide⟩, by decide +kernel, wn_X2, rfl, by decide⟩
set_option maxRecDepth 100000 in
theorem thX3_seam_31 : TH mX3_seam xISE 31 nms 62 64 66 "the cell is not solid" := ⟨by decide +kernel, by decide +kernel, by decide, wc_X3_62, wn_IllegalStateException, by decide +kernel, hat_ISE, hgd_ISE, rfl, dX3_seam_31, dX3_seam_34, Or.inl ⟨dX3_seam_35, dX3_seam_37, dX3_seam_40⟩⟩
set_option maxRecDepth 100000 in
theorem thX3_seam_53 : TH mX3_seam xISE 53 nms 62 72 66 "the cell was told" := ⟨by decide +kernel, by decide +kernel, by decide, wc_X3_62, wn_IllegalStateException, by decide +kernel, hat_ISE, hgd_ISE, rfl, dX3_seam_53, dX3_seam_56, Or.inl ⟨dX3_seam_57, dX3_seam_59, dX3_seam_62⟩⟩
set_option maxRecDepth 100000 in
theorem thX3_pass_19 : TH mX3_pass xISE 19 nms 62 84 66 "there are no more hours" := ⟨by decide +kernel, by decide +kernel, by decide, wc_X3_62, wn_IllegalStateException, by decide +kernel, hat_ISE, hgd_ISE, rfl, dX3_pass_19, dX3_pass_22, Or.inl ⟨dX3_pass_23, dX3_pass_25, dX3_pass_28⟩⟩
set_option maxRecDepth 100000 in
theorem thX3_peg_44 : TH mX3_peg xIAE 44 nms 89 91 93 "the rectangle leaves the ground" := ⟨by decide +kernel, by decide +kernel, by decide, wc_X3_89, wn_IllegalArgumentException, by decide +kernel, hat_IAE, hgd_IAE, rfl, dX3_peg_44, dX3_peg_47, Or.inl ⟨dX3_peg_48, dX3_peg_50, dX3_peg_53⟩⟩
set_option maxRecDepth 100000 in
theorem thX3_peg_66 : TH mX3_peg xISE 66 nms 62 98 66 "there are no more claims" := ⟨by decide +kernel, by decide +kernel, by decide, wc_X3_62, wn_IllegalStateException, by decide +kernel, hat_ISE, hgd_ISE, rfl, dX3_peg_66, dX3_peg_69, Or.inl ⟨dX3_peg_70, dX3_peg_72, dX3_peg_75⟩⟩
set_option maxRecDepth 100000 in
theorem thX3_witness_29 : TH mX3_witness xISE 29 nms 62 120 66 "the person is one of the people" := ⟨by decide +kernel, by decide +kernel, by decide, wc_X3_62, wn_IllegalStateException, by decide +kernel, hat_ISE, hgd_ISE, rfl, dX3_witness_29, dX3_witness_32, Or.inl ⟨dX3_witness_33, dX3_witness_35, dX3_witness_38⟩⟩
set_option maxRecDepth 100000 in
theorem thX3_witness_50 : TH mX3_witness xISE 50 nms 62 125 66 "the person witnessed it" := ⟨by decide +kernel, by decide +kernel, by decide, wc_X3_62, wn_IllegalStateException, by decide +kernel, hat_ISE, hgd_ISE, rfl, dX3_witness_50, dX3_witness_53, Or.inl ⟨dX3_witness_54, dX3_witness_56, dX3_witness_59⟩⟩
set_option maxRecDepth 100000 in
theorem thX3_partner_27 : TH mX3_partner xISE 27 nms 62 120 66 "the person is one of the people" := ⟨by decide +kernel, by decide +kernel, by decide, wc_X3_62, wn_IllegalStateException, by decide +kernel, hat_ISE, hgd_ISE, rfl, dX3_partner_27, dX3_partner_30, Or.inl ⟨dX3_partner_31, dX3_partner_33, dX3_partner_36⟩⟩
set_option maxRecDepth 100000 in
theorem thX3_partner_52 : TH mX3_partner xISE 52 nms 62 139 66 "the owner would have nothing" := ⟨by decide +kernel, by decide +kernel, by decide, wc_X3_62, wn_IllegalStateException, by decide +kernel, hat_ISE, hgd_ISE, rfl, dX3_partner_52, dX3_partner_55, Or.inl ⟨dX3_partner_56, dX3_partner_58, dX3_partner_61⟩⟩
set_option maxRecDepth 100000 in
theorem thX3_dig_20 : TH mX3_dig xISE 20 nms 62 148 66 "the cell cannot be dug" := ⟨by decide +kernel, by decide +kernel, by decide, wc_X3_62, wn_IllegalStateException, by decide +kernel, hat_ISE, hgd_ISE, rfl, dX3_dig_20, dX3_dig_23, Or.inl ⟨dX3_dig_24, dX3_dig_26, dX3_dig_29⟩⟩
set_option maxRecDepth 100000 in
theorem thX3_sink_20 : TH mX3_sink xISE 20 nms 62 157 66 "the cell is open" := ⟨by decide +kernel, by decide +kernel, by decide, wc_X3_62, wn_IllegalStateException, by decide +kernel, hat_ISE, hgd_ISE, rfl, dX3_sink_20, dX3_sink_23, Or.inl ⟨dX3_sink_24, dX3_sink_26, dX3_sink_29⟩⟩
set_option maxRecDepth 100000 in
theorem thX3_sink_39 : TH mX3_sink xISE 39 nms 62 162 66 "the claim has its shafts" := ⟨by decide +kernel, by decide +kernel, by decide, wc_X3_62, wn_IllegalStateException, by decide +kernel, hat_ISE, hgd_ISE, rfl, dX3_sink_39, dX3_sink_42, Or.inl ⟨dX3_sink_43, dX3_sink_45, dX3_sink_48⟩⟩
set_option maxRecDepth 100000 in
theorem thX3_prop_19 : TH mX3_prop xISE 19 nms 62 164 66 "the cell is not open" := ⟨by decide +kernel, by decide +kernel, by decide, wc_X3_62, wn_IllegalStateException, by decide +kernel, hat_ISE, hgd_ISE, rfl, dX3_prop_19, dX3_prop_22, Or.inl ⟨dX3_prop_23, dX3_prop_25, dX3_prop_28⟩⟩
set_option maxRecDepth 100000 in
theorem thX3_prop_41 : TH mX3_prop xISE 41 nms 62 170 66 "the cell is propped" := ⟨by decide +kernel, by decide +kernel, by decide, wc_X3_62, wn_IllegalStateException, by decide +kernel, hat_ISE, hgd_ISE, rfl, dX3_prop_41, dX3_prop_44, Or.inl ⟨dX3_prop_45, dX3_prop_47, dX3_prop_50⟩⟩
set_option maxRecDepth 100000 in
theorem thX3_trap_19 : TH mX3_trap xISE 19 nms 62 157 66 "the cell is open" := ⟨by decide +kernel, by decide +kernel, by decide, wc_X3_62, wn_IllegalStateException, by decide +kernel, hat_ISE, hgd_ISE, rfl, dX3_trap_19, dX3_trap_22, Or.inl ⟨dX3_trap_23, dX3_trap_25, dX3_trap_28⟩⟩
set_option maxRecDepth 100000 in
theorem thX3_trap_42 : TH mX3_trap xISE 42 nms 62 175 66 "a trap lies there" := ⟨by decide +kernel, by decide +kernel, by decide, wc_X3_62, wn_IllegalStateException, by decide +kernel, hat_ISE, hgd_ISE, rfl, dX3_trap_42, dX3_trap_45, Or.inl ⟨dX3_trap_46, dX3_trap_48, dX3_trap_51⟩⟩
set_option maxRecDepth 100000 in
theorem thX3_trap_64 : TH mX3_trap xISE 64 nms 62 181 66 "the claim has its traps" := ⟨by decide +kernel, by decide +kernel, by decide, wc_X3_62, wn_IllegalStateException, by decide +kernel, hat_ISE, hgd_ISE, rfl, dX3_trap_64, dX3_trap_67, Or.inl ⟨dX3_trap_68, dX3_trap_70, dX3_trap_73⟩⟩
set_option maxRecDepth 100000 in
theorem thX3_rat_15 : TH mX3_rat xISE 15 nms 62 187 66 "it is day" := ⟨by decide +kernel, by decide +kernel, by decide, wc_X3_62, wn_IllegalStateException, by decide +kernel, hat_ISE, hgd_ISE, rfl, dX3_rat_15, dX3_rat_18, Or.inl ⟨dX3_rat_19, dX3_rat_21, dX3_rat_24⟩⟩
set_option maxRecDepth 100000 in
theorem thX3_rat_64 : TH mX3_rat xISE 64 nms 62 192 66 "the cell cannot be ratted" := ⟨by decide +kernel, by decide +kernel, by decide, wc_X3_62, wn_IllegalStateException, by decide +kernel, hat_ISE, hgd_ISE, rfl, dX3_rat_64, dX3_rat_67, Or.inl ⟨dX3_rat_68, dX3_rat_70, dX3_rat_73⟩⟩
set_option maxRecDepth 100000 in
theorem thX3_divide_16 : TH mX3_divide xISE 16 nms 62 201 66 "the parcel has no stones" := ⟨by decide +kernel, by decide +kernel, by decide, wc_X3_62, wn_IllegalStateException, by decide +kernel, hat_ISE, hgd_ISE, rfl, dX3_divide_16, dX3_divide_19, Or.inl ⟨dX3_divide_20, dX3_divide_22, dX3_divide_25⟩⟩
set_option maxRecDepth 100000 in
theorem thX3_rub_18 : TH mX3_rub xISE 18 nms 62 231 66 "the stone is dead" := ⟨by decide +kernel, by decide +kernel, by decide, wc_X3_62, wn_IllegalStateException, by decide +kernel, hat_ISE, hgd_ISE, rfl, dX3_rub_18, dX3_rub_21, Or.inl ⟨dX3_rub_22, dX3_rub_24, dX3_rub_27⟩⟩
set_option maxRecDepth 100000 in
theorem thX3_bid_33 : TH mX3_bid xISE 33 nms 62 246 66 "the buyer has bid" := ⟨by decide +kernel, by decide +kernel, by decide, wc_X3_62, wn_IllegalStateException, by decide +kernel, hat_ISE, hgd_ISE, rfl, dX3_bid_33, dX3_bid_36, Or.inl ⟨dX3_bid_37, dX3_bid_39, dX3_bid_42⟩⟩
set_option maxRecDepth 100000 in
theorem thX3_sell_24 : TH mX3_sell xISE 24 nms 62 258 66 "no purse has what was bid" := ⟨by decide +kernel, by decide +kernel, by decide, wc_X3_62, wn_IllegalStateException, by decide +kernel, hat_ISE, hgd_ISE, rfl, dX3_sell_24, dX3_sell_27, Or.inr ⟨dX3_sell_28, dX3_sell_31, dX3_sell_34⟩⟩
set_option maxRecDepth 100000 in
theorem thX3_ofCell_87 : TH mX3_ofCell xIAE 87 nms 89 270 93 "a cell is told 0 to 3 of" := ⟨by decide +kernel, by decide +kernel, by decide, wc_X3_89, wn_IllegalArgumentException, by decide +kernel, hat_IAE, hgd_IAE, rfl, dX3_ofCell_87, dX3_ofCell_90, Or.inr ⟨dX3_ofCell_91, dX3_ofCell_94, dX3_ofCell_97⟩⟩
set_option maxRecDepth 100000 in
theorem thX3_ofClaim_96 : TH mX3_ofClaim xIAE 96 nms 89 281 93 "a claim is told 0 to 6 of" := ⟨by decide +kernel, by decide +kernel, by decide, wc_X3_89, wn_IllegalArgumentException, by decide +kernel, hat_IAE, hgd_IAE, rfl, dX3_ofClaim_96, dX3_ofClaim_99, Or.inr ⟨dX3_ofClaim_100, dX3_ofClaim_103, dX3_ofClaim_106⟩⟩
set_option maxRecDepth 100000 in
theorem thX3_verdict_18 : TH mX3_verdict xIAE 18 nms 89 283 93 "both claims are the same" := ⟨by decide +kernel, by decide +kernel, by decide, wc_X3_89, wn_IllegalArgumentException, by decide +kernel, hat_IAE, hgd_IAE, rfl, dX3_verdict_18, dX3_verdict_21, Or.inr ⟨dX3_verdict_22, dX3_verdict_25, dX3_verdict_28⟩⟩
set_option maxRecDepth 100000 in
theorem thX3_ofPerson_62 : TH mX3_ofPerson xIAE 62 nms 89 301 93 "a person is told 0 to 3 of" := ⟨by decide +kernel, by decide +kernel, by decide, wc_X3_89, wn_IllegalArgumentException, by decide +kernel, hat_IAE, hgd_IAE, rfl, dX3_ofPerson_62, dX3_ofPerson_65, Or.inr ⟨dX3_ofPerson_66, dX3_ofPerson_69, dX3_ofPerson_72⟩⟩
set_option maxRecDepth 100000 in
theorem thX3_ofStone_92 : TH mX3_ofStone xIAE 92 nms 89 312 93 "a stone is told 0 to 7 of" := ⟨by decide +kernel, by decide +kernel, by decide, wc_X3_89, wn_IllegalArgumentException, by decide +kernel, hat_IAE, hgd_IAE, rfl, dX3_ofStone_92, dX3_ofStone_95, Or.inr ⟨dX3_ofStone_96, dX3_ofStone_99, dX3_ofStone_102⟩⟩
set_option maxRecDepth 100000 in
theorem thX3_carats_85 : TH mX3_carats xIAE 85 nms 89 323 93 "carats are told 0 to 5 of" := ⟨by decide +kernel, by decide +kernel, by decide, wc_X3_89, wn_IllegalArgumentException, by decide +kernel, hat_IAE, hgd_IAE, rfl, dX3_carats_85, dX3_carats_88, Or.inr ⟨dX3_carats_89, dX3_carats_92, dX3_carats_95⟩⟩
set_option maxRecDepth 100000 in
theorem thX3_needCell_7 : TH mX3_needCell_x xIOE 7 nms 339 341 343 "no such cell" := ⟨by decide +kernel, by decide +kernel, by decide, wc_X3_339, wn_IndexOutOfBoundsException, by decide +kernel, hat_IOE, hgd_IOE, rfl, dX3_needCell_7, dX3_needCell_10, Or.inr ⟨dX3_needCell_11, dX3_needCell_14, dX3_needCell_17⟩⟩
set_option maxRecDepth 100000 in
theorem thX3_needPerson_10 : TH mX3_needPerson_x xIOE 10 nms 339 344 343 "no such person" := ⟨by decide +kernel, by decide +kernel, by decide, wc_X3_339, wn_IndexOutOfBoundsException, by decide +kernel, hat_IOE, hgd_IOE, rfl, dX3_needPerson_10, dX3_needPerson_13, Or.inr ⟨dX3_needPerson_14, dX3_needPerson_17, dX3_needPerson_20⟩⟩
set_option maxRecDepth 100000 in
theorem thX3_needBuyer_9 : TH mX3_needBuyer_x xIOE 9 nms 339 346 343 "no such buyer" := ⟨by decide +kernel, by decide +kernel, by decide, wc_X3_339, wn_IndexOutOfBoundsException, by decide +kernel, hat_IOE, hgd_IOE, rfl, dX3_needBuyer_9, dX3_needBuyer_12, Or.inr ⟨dX3_needBuyer_13, dX3_needBuyer_16, dX3_needBuyer_19⟩⟩
set_option maxRecDepth 100000 in
theorem thX3_claimAt_15 : TH mX3_claimAt_x xIOE 15 nms 339 348 343 "no such claim" := ⟨by decide +kernel, by decide +kernel, by decide, wc_X3_339, wn_IndexOutOfBoundsException, by decide +kernel, hat_IOE, hgd_IOE, rfl, dX3_claimAt_15, dX3_claimAt_18, Or.inr ⟨dX3_claimAt_19, dX3_claimAt_22, dX3_claimAt_25⟩⟩
set_option maxRecDepth 100000 in
theorem thX3_stoneAt_15 : TH mX3_stoneAt_x xIOE 15 nms 339 354 343 "no such stone" := ⟨by decide +kernel, by decide +kernel, by decide, wc_X3_339, wn_IndexOutOfBoundsException, by decide +kernel, hat_IOE, hgd_IOE, rfl, dX3_stoneAt_15, dX3_stoneAt_18, Or.inr ⟨dX3_stoneAt_19, dX3_stoneAt_22, dX3_stoneAt_25⟩⟩
set_option maxRecDepth 100000 in
theorem thX3_needRange_10 : TH mX3_needRange_x xIAE 10 nms 89 356 93 "out of range" := ⟨by decide +kernel, by decide +kernel, by decide, wc_X3_89, wn_IllegalArgumentException, by decide +kernel, hat_IAE, hgd_IAE, rfl, dX3_needRange_10, dX3_needRange_13, Or.inr ⟨dX3_needRange_14, dX3_needRange_17, dX3_needRange_20⟩⟩
set_option maxRecDepth 100000 in
theorem thX3_needFree_8 : TH mX3_needFree_x xISE 8 nms 62 358 66 "the person is barred" := ⟨by decide +kernel, by decide +kernel, by decide, wc_X3_62, wn_IllegalStateException, by decide +kernel, hat_ISE, hgd_ISE, rfl, dX3_needFree_8, dX3_needFree_11, Or.inr ⟨dX3_needFree_12, dX3_needFree_15, dX3_needFree_18⟩⟩
set_option maxRecDepth 100000 in
theorem thX3_claimAtHand_24 : TH mX3_claimAtHand_x xISE 24 nms 62 360 66 "the person is none of the people" := ⟨by decide +kernel, by decide +kernel, by decide, wc_X3_62, wn_IllegalStateException, by decide +kernel, hat_ISE, hgd_ISE, rfl, dX3_claimAtHand_24, dX3_claimAtHand_27, Or.inr ⟨dX3_claimAtHand_28, dX3_claimAtHand_31, dX3_claimAtHand_34⟩⟩
set_option maxRecDepth 100000 in
theorem thX3_claimAtHand_49 : TH mX3_claimAtHand_x xISE 49 nms 62 362 66 "the claim does not hold the cell" := ⟨by decide +kernel, by decide +kernel, by decide, wc_X3_62, wn_IllegalStateException, by decide +kernel, hat_ISE, hgd_ISE, rfl, dX3_claimAtHand_49, dX3_claimAtHand_52, Or.inr ⟨dX3_claimAtHand_53, dX3_claimAtHand_56, dX3_claimAtHand_59⟩⟩
set_option maxRecDepth 100000 in
theorem thX3_needOfPerson_8 : TH mX3_needOfPerson_x xISE 8 nms 62 367 66 "the stone is in a parcel, or sold" := ⟨by decide +kernel, by decide +kernel, by decide, wc_X3_62, wn_IllegalStateException, by decide +kernel, hat_ISE, hgd_ISE, rfl, dX3_needOfPerson_8, dX3_needOfPerson_11, Or.inr ⟨dX3_needOfPerson_12, dX3_needOfPerson_15, dX3_needOfPerson_18⟩⟩
