theorem tb_at {w : Cond} (i : Nat) (h : tables_1[i]? = some w) : w ∈ lw_tbl := List.mem_append_right _ (List.mem_of_getElem? h)
theorem arr_of {args : Array Value} {s : State} {ty : FieldType} (h : (Cond.arrayClass ty).before args s = true) : ∃ c : ClassId, ArrOfT s c ty ∧ s.vm.findClass ("[" ++ ty.toString) = some c := by
  obtain ⟨c, k, comp, h1, h2, h3⟩ := Cond.arrayClass_spec h
  exact ⟨c, fun n z => ⟨fun k h => (by cases h), k, h2, comp, h3⟩, h1⟩
theorem arr_ov {args : Array Value} {s : State} {n : String} (h : (Cond.arrayOver (.object n)).before args s = true) : ∃ c : ClassId, ArrOfT s c (.object n) ∧ va_RA s c (.object n) := by
  obtain ⟨comp, c, k, h1, h2, h3, h4, h5⟩ := Cond.arrayOver_spec h
  exact ⟨c, fun n z => ⟨fun k h => (by cases h), k, h3, comp, h4⟩, k, comp, h3, h4, h1, h5⟩
set_option maxHeartbeats 4000000 in
set_option maxRecDepth 100000 in
/-- what the start gives of constants -/
theorem ev_start {args : Array Value} {s : State} (hts : ∀ w ∈ lw_tbl, w.before args s = true) (hg : (Jvm.Cond.and given_1 narrow_1).before args s = true) : ∃ D : GD, Ev D (fun q => s.heap.size ≤ q) s s.heap := by
  have hs := flat_of_before _ hg
  have hA : ∀ a : Nat, a < s.heap.size → ¬ s.heap.size ≤ a := fun a h q => absurd h (Nat.not_lt.mpr q)
  have hws : ∀ w ∈ WS, w.before args s = true := fun w hw => hts w (List.mem_filter.mp hw).1
  obtain ⟨c0, i0, k0⟩ := u_known hws cf_0.2.1 (hws _ wt_Jx4a65c)
  obtain ⟨c1, i1, k1⟩ := u_known hws cf_1.2.1 (hws _ wt_X0)
  obtain ⟨c2, i2, k2⟩ := u_known hws cf_2.2.1 (hws _ wt_X1)
  obtain ⟨c3, i3, k3⟩ := u_known hws cf_3.2.1 (hws _ wt_X2)
  obtain ⟨c4, i4, k4⟩ := u_known hws cf_4.2.1 (hws _ wt_X3)
  obtain ⟨c5, i5, k5⟩ := u_known hws cf_5.2.1 (hws _ wt_X4)
  obtain ⟨t0, a0, b0⟩ := arr_of (hws _ wa_int)
  obtain ⟨t1, a1, b1⟩ := arr_of (hws _ wa_boolean)
  obtain ⟨t2, a2, b2⟩ := arr_of (hws _ wa_long)
  obtain ⟨t3, a3, b3⟩ := arr_ov (hts (Cond.arrayOver (.object "java/lang/Object")) (tb_at 371 (by decide +kernel)))
  obtain ⟨eD, hD1, hD2⟩ := va_Tof (tm := .static "java/util/ArrayList" "DEFAULTCAPACITY_EMPTY_ELEMENTDATA" "[Ljava/lang/Object;") (ty := .object "java/lang/Object") (N := 0) (f := fun _ => .null) (A := fun q => s.heap.size ≤ q) (by decide) (hs (Cond.arrayOf (.static "java/util/ArrayList" "DEFAULTCAPACITY_EMPTY_ELEMENTDATA" "[Ljava/lang/Object;") (.object "java/lang/Object")) (by decide +kernel)) (va_eqt (z := 0) (hs (Cond.eq (.length (.static "java/util/ArrayList" "DEFAULTCAPACITY_EMPTY_ELEMENTDATA" "[Ljava/lang/Object;")) (.int 0)) (by decide +kernel))) (fun j hj => absurd hj (by omega)) hA
  refine ⟨((fun c => match c with | 0 => c0 | 1 => c1 | 2 => c2 | 3 => c3 | 4 => c4 | _ => c5, fun c => match c with | 0 => i0 | 1 => i1 | 2 => i2 | 3 => i3 | 4 => i4 | _ => i5), (t0, t1, t2, t3), eD), ⟨fun c q hq => ?_, fun k q hq => ?_⟩, ?_, ?_, ?_, hD2, ?_, ?_, ?_, ?_⟩
  · have hc : c < 6 := (List.getElem?_eq_some_iff.mp hq).1
    rcases (show c = 0 ∨ c = 1 ∨ c = 2 ∨ c = 3 ∨ c = 4 ∨ c = 5 by omega) with rfl | rfl | rfl | rfl | rfl | rfl <;> cases hq
    · exact k0
    · exact k1
    · exact k2
    · exact k3
    · exact k4
    · exact k5
  · have hc : k < 4 := (List.getElem?_eq_some_iff.mp hq).1
    rcases (show k = 0 ∨ k = 1 ∨ k = 2 ∨ k = 3 by omega) with rfl | rfl | rfl | rfl <;> cases hq
    · exact ⟨a0, b0⟩
    · exact ⟨a1, b1⟩
    · exact ⟨a2, b2⟩
    · exact ⟨a3, b3⟩
  · exact vx_Zqof (hts (Cond.laysStatic Bundle.tN "UNASSIGNED_STACK" Bundle.steD) (tb_at 170 (by decide +kernel))) (hts (Cond.initialized Bundle.tN) (tb_at 8 (by decide +kernel))) (hs (Cond.isRef (.static Bundle.tN "UNASSIGNED_STACK" Bundle.steD)) (by decide +kernel)) hA
  · exact vx_Zqof (hts (Cond.laysStatic Bundle.tN "SUPPRESSED_SENTINEL" Bundle.listD) (tb_at 172 (by decide +kernel))) (hts (Cond.initialized Bundle.tN) (tb_at 8 (by decide +kernel))) (hs (Cond.isRef (.static Bundle.tN "SUPPRESSED_SENTINEL" Bundle.listD)) (by decide +kernel)) hA
  · exact va_Zof (hts (Cond.laysStatic "java/util/ArrayList" "DEFAULTCAPACITY_EMPTY_ELEMENTDATA" "[Ljava/lang/Object;") (tb_at 78 (by decide +kernel))) (hws _ wn_Jx4a65c) hD1 hA
  · intro w hw
    simp only [EVW, List.mem_cons, List.not_mem_nil, or_false] at hw
    rcases hw with rfl | rfl | rfl | rfl | rfl | rfl | rfl | rfl | rfl
    · exact va_Nw.of rfl (hts (Cond.castable "java/lang/IndexOutOfBoundsException" "java/lang/IndexOutOfBoundsException") (tb_at 145 (by decide +kernel)))
    · exact va_Nw.of rfl (hts (Cond.castable "java/lang/IllegalArgumentException" "java/lang/IllegalArgumentException") (tb_at 216 (by decide +kernel)))
    · exact va_Nw.of rfl (hts (Cond.castable "java/lang/IllegalStateException" "java/lang/IllegalStateException") (tb_at 232 (by decide +kernel)))
    · exact va_Nw.of rfl (hts (Cond.methodLinkNest RX0 60 yX3_oneIf RX3) (tb_at 421 (by decide +kernel)))
    · exact va_Nw.of rfl (hts (Cond.methodLinkNest RX1 37 yX3_isCell RX3) (tb_at 470 (by decide +kernel)))
    · exact va_Nw.of rfl (hts (Cond.methodLinkNest RX1 57 yX3_oneIf RX3) (tb_at 583 (by decide +kernel)))
    · exact va_Nw.of rfl (hts (Cond.declares ⟨"java/lang/RuntimeException", "<init>", "(Ljava/lang/String;)V"⟩) (tb_at 147 (by decide +kernel)))
    · exact va_Nw.of rfl (hts (Cond.declares ⟨"java/lang/Exception", "<init>", "(Ljava/lang/String;)V"⟩) (tb_at 149 (by decide +kernel)))
    · exact va_Nw.of rfl (hts (Cond.declares ⟨"java/lang/Throwable", "<init>", "(Ljava/lang/String;)V"⟩) (tb_at 151 (by decide +kernel)))
  · intro q hq
    simp only [NCS, List.mem_cons, List.not_mem_nil, or_false] at hq
    rcases hq with rfl | rfl | rfl
    · exact va_Nc.of (hs (Cond.not (.castable "java/lang/IllegalArgumentException" "java/lang/IndexOutOfBoundsException")) (by decide +kernel))
    · exact va_Nc.of (hs (Cond.not (.castable "java/lang/IllegalStateException" "java/lang/IndexOutOfBoundsException")) (by decide +kernel))
    · exact va_Nc.of (hs (Cond.not (.castable "java/lang/IllegalStateException" "java/lang/IllegalArgumentException")) (by decide +kernel))
  · intro q hq
    simp only [STRS, List.mem_cons, List.not_mem_nil, or_false] at hq
    rcases hq with rfl | rfl | rfl | rfl | rfl | rfl | rfl | rfl | rfl | rfl | rfl | rfl | rfl | rfl | rfl | rfl | rfl | rfl | rfl | rfl | rfl | rfl | rfl | rfl | rfl | rfl | rfl | rfl | rfl | rfl | rfl | rfl | rfl | rfl | rfl | rfl | rfl
    · obtain ⟨sa, _, _, _, ha, -⟩ := Cond.exactly_spec (hs (Cond.exactly (.string "OpalField" 64) "java/lang/String") (by decide +kernel))
      exact ⟨sa, vk_R.of (hts (Cond.stringRef "OpalField" 64 "the cell is not solid") (tb_at 239 (by decide +kernel))) ha⟩
    · obtain ⟨sa, _, _, _, ha, -⟩ := Cond.exactly_spec (hs (Cond.exactly (.string "OpalField" 72) "java/lang/String") (by decide +kernel))
      exact ⟨sa, vk_R.of (hts (Cond.stringRef "OpalField" 72 "the cell was told") (tb_at 246 (by decide +kernel))) ha⟩
    · obtain ⟨sa, _, _, _, ha, -⟩ := Cond.exactly_spec (hs (Cond.exactly (.string "OpalField" 84) "java/lang/String") (by decide +kernel))
      exact ⟨sa, vk_R.of (hts (Cond.stringRef "OpalField" 84 "there are no more hours") (tb_at 254 (by decide +kernel))) ha⟩
    · obtain ⟨sa, _, _, _, ha, -⟩ := Cond.exactly_spec (hs (Cond.exactly (.string "OpalField" 91) "java/lang/String") (by decide +kernel))
      exact ⟨sa, vk_R.of (hts (Cond.stringRef "OpalField" 91 "the rectangle leaves the ground") (tb_at 266 (by decide +kernel))) ha⟩
    · obtain ⟨sa, _, _, _, ha, -⟩ := Cond.exactly_spec (hs (Cond.exactly (.string "OpalField" 98) "java/lang/String") (by decide +kernel))
      exact ⟨sa, vk_R.of (hts (Cond.stringRef "OpalField" 98 "there are no more claims") (tb_at 271 (by decide +kernel))) ha⟩
    · obtain ⟨sa, _, _, _, ha, -⟩ := Cond.exactly_spec (hs (Cond.exactly (.string "OpalField" 120) "java/lang/String") (by decide +kernel))
      exact ⟨sa, vk_R.of (hts (Cond.stringRef "OpalField" 120 "the person is one of the people") (tb_at 411 (by decide +kernel))) ha⟩
    · obtain ⟨sa, _, _, _, ha, -⟩ := Cond.exactly_spec (hs (Cond.exactly (.string "OpalField" 125) "java/lang/String") (by decide +kernel))
      exact ⟨sa, vk_R.of (hts (Cond.stringRef "OpalField" 125 "the person witnessed it") (tb_at 412 (by decide +kernel))) ha⟩
    · obtain ⟨sa, _, _, _, ha, -⟩ := Cond.exactly_spec (hs (Cond.exactly (.string "OpalField" 139) "java/lang/String") (by decide +kernel))
      exact ⟨sa, vk_R.of (hts (Cond.stringRef "OpalField" 139 "the owner would have nothing") (tb_at 431 (by decide +kernel))) ha⟩
    · obtain ⟨sa, _, _, _, ha, -⟩ := Cond.exactly_spec (hs (Cond.exactly (.string "OpalField" 148) "java/lang/String") (by decide +kernel))
      exact ⟨sa, vk_R.of (hts (Cond.stringRef "OpalField" 148 "the cell cannot be dug") (tb_at 471 (by decide +kernel))) ha⟩
    · obtain ⟨sa, _, _, _, ha, -⟩ := Cond.exactly_spec (hs (Cond.exactly (.string "OpalField" 157) "java/lang/String") (by decide +kernel))
      exact ⟨sa, vk_R.of (hts (Cond.stringRef "OpalField" 157 "the cell is open") (tb_at 560 (by decide +kernel))) ha⟩
    · obtain ⟨sa, _, _, _, ha, -⟩ := Cond.exactly_spec (hs (Cond.exactly (.string "OpalField" 162) "java/lang/String") (by decide +kernel))
      exact ⟨sa, vk_R.of (hts (Cond.stringRef "OpalField" 162 "the claim has its shafts") (tb_at 561 (by decide +kernel))) ha⟩
    · obtain ⟨sa, _, _, _, ha, -⟩ := Cond.exactly_spec (hs (Cond.exactly (.string "OpalField" 164) "java/lang/String") (by decide +kernel))
      exact ⟨sa, vk_R.of (hts (Cond.stringRef "OpalField" 164 "the cell is not open") (tb_at 569 (by decide +kernel))) ha⟩
    · obtain ⟨sa, _, _, _, ha, -⟩ := Cond.exactly_spec (hs (Cond.exactly (.string "OpalField" 170) "java/lang/String") (by decide +kernel))
      exact ⟨sa, vk_R.of (hts (Cond.stringRef "OpalField" 170 "the cell is propped") (tb_at 570 (by decide +kernel))) ha⟩
    · obtain ⟨sa, _, _, _, ha, -⟩ := Cond.exactly_spec (hs (Cond.exactly (.string "OpalField" 175) "java/lang/String") (by decide +kernel))
      exact ⟨sa, vk_R.of (hts (Cond.stringRef "OpalField" 175 "a trap lies there") (tb_at 578 (by decide +kernel))) ha⟩
    · obtain ⟨sa, _, _, _, ha, -⟩ := Cond.exactly_spec (hs (Cond.exactly (.string "OpalField" 181) "java/lang/String") (by decide +kernel))
      exact ⟨sa, vk_R.of (hts (Cond.stringRef "OpalField" 181 "the claim has its traps") (tb_at 584 (by decide +kernel))) ha⟩
    · obtain ⟨sa, _, _, _, ha, -⟩ := Cond.exactly_spec (hs (Cond.exactly (.string "OpalField" 187) "java/lang/String") (by decide +kernel))
      exact ⟨sa, vk_R.of (hts (Cond.stringRef "OpalField" 187 "it is day") (tb_at 596 (by decide +kernel))) ha⟩
    · obtain ⟨sa, _, _, _, ha, -⟩ := Cond.exactly_spec (hs (Cond.exactly (.string "OpalField" 192) "java/lang/String") (by decide +kernel))
      exact ⟨sa, vk_R.of (hts (Cond.stringRef "OpalField" 192 "the cell cannot be ratted") (tb_at 597 (by decide +kernel))) ha⟩
    · obtain ⟨sa, _, _, _, ha, -⟩ := Cond.exactly_spec (hs (Cond.exactly (.string "OpalField" 201) "java/lang/String") (by decide +kernel))
      exact ⟨sa, vk_R.of (hts (Cond.stringRef "OpalField" 201 "the parcel has no stones") (tb_at 618 (by decide +kernel))) ha⟩
    · obtain ⟨sa, _, _, _, ha, -⟩ := Cond.exactly_spec (hs (Cond.exactly (.string "OpalField" 231) "java/lang/String") (by decide +kernel))
      exact ⟨sa, vk_R.of (hts (Cond.stringRef "OpalField" 231 "the stone is dead") (tb_at 657 (by decide +kernel))) ha⟩
    · obtain ⟨sa, _, _, _, ha, -⟩ := Cond.exactly_spec (hs (Cond.exactly (.string "OpalField" 246) "java/lang/String") (by decide +kernel))
      exact ⟨sa, vk_R.of (hts (Cond.stringRef "OpalField" 246 "the buyer has bid") (tb_at 670 (by decide +kernel))) ha⟩
    · obtain ⟨sa, _, _, _, ha, -⟩ := Cond.exactly_spec (hs (Cond.exactly (.string "OpalField" 258) "java/lang/String") (by decide +kernel))
      exact ⟨sa, vk_R.of (hts (Cond.stringRef "OpalField" 258 "no purse has what was bid") (tb_at 686 (by decide +kernel))) ha⟩
    · obtain ⟨sa, _, _, _, ha, -⟩ := Cond.exactly_spec (hs (Cond.exactly (.string "OpalField" 270) "java/lang/String") (by decide +kernel))
      exact ⟨sa, vk_R.of (hts (Cond.stringRef "OpalField" 270 "a cell is told 0 to 3 of") (tb_at 709 (by decide +kernel))) ha⟩
    · obtain ⟨sa, _, _, _, ha, -⟩ := Cond.exactly_spec (hs (Cond.exactly (.string "OpalField" 281) "java/lang/String") (by decide +kernel))
      exact ⟨sa, vk_R.of (hts (Cond.stringRef "OpalField" 281 "a claim is told 0 to 6 of") (tb_at 722 (by decide +kernel))) ha⟩
    · obtain ⟨sa, _, _, _, ha, -⟩ := Cond.exactly_spec (hs (Cond.exactly (.string "OpalField" 283) "java/lang/String") (by decide +kernel))
      exact ⟨sa, vk_R.of (hts (Cond.stringRef "OpalField" 283 "both claims are the same") (tb_at 737 (by decide +kernel))) ha⟩
    · obtain ⟨sa, _, _, _, ha, -⟩ := Cond.exactly_spec (hs (Cond.exactly (.string "OpalField" 301) "java/lang/String") (by decide +kernel))
      exact ⟨sa, vk_R.of (hts (Cond.stringRef "OpalField" 301 "a person is told 0 to 3 of") (tb_at 754 (by decide +kernel))) ha⟩
    · obtain ⟨sa, _, _, _, ha, -⟩ := Cond.exactly_spec (hs (Cond.exactly (.string "OpalField" 312) "java/lang/String") (by decide +kernel))
      exact ⟨sa, vk_R.of (hts (Cond.stringRef "OpalField" 312 "a stone is told 0 to 7 of") (tb_at 767 (by decide +kernel))) ha⟩
    · obtain ⟨sa, _, _, _, ha, -⟩ := Cond.exactly_spec (hs (Cond.exactly (.string "OpalField" 323) "java/lang/String") (by decide +kernel))
      exact ⟨sa, vk_R.of (hts (Cond.stringRef "OpalField" 323 "carats are told 0 to 5 of") (tb_at 793 (by decide +kernel))) ha⟩
    · obtain ⟨sa, _, _, _, ha, -⟩ := Cond.exactly_spec (hs (Cond.exactly (.string "OpalField" 341) "java/lang/String") (by decide +kernel))
      exact ⟨sa, vk_R.of (hts (Cond.stringRef "OpalField" 341 "no such cell") (tb_at 184 (by decide +kernel))) ha⟩
    · obtain ⟨sa, _, _, _, ha, -⟩ := Cond.exactly_spec (hs (Cond.exactly (.string "OpalField" 344) "java/lang/String") (by decide +kernel))
      exact ⟨sa, vk_R.of (hts (Cond.stringRef "OpalField" 344 "no such person") (tb_at 265 (by decide +kernel))) ha⟩
    · obtain ⟨sa, _, _, _, ha, -⟩ := Cond.exactly_spec (hs (Cond.exactly (.string "OpalField" 346) "java/lang/String") (by decide +kernel))
      exact ⟨sa, vk_R.of (hts (Cond.stringRef "OpalField" 346 "no such buyer") (tb_at 668 (by decide +kernel))) ha⟩
    · obtain ⟨sa, _, _, _, ha, -⟩ := Cond.exactly_spec (hs (Cond.exactly (.string "OpalField" 348) "java/lang/String") (by decide +kernel))
      exact ⟨sa, vk_R.of (hts (Cond.stringRef "OpalField" 348 "no such claim") (tb_at 392 (by decide +kernel))) ha⟩
    · obtain ⟨sa, _, _, _, ha, -⟩ := Cond.exactly_spec (hs (Cond.exactly (.string "OpalField" 354) "java/lang/String") (by decide +kernel))
      exact ⟨sa, vk_R.of (hts (Cond.stringRef "OpalField" 354 "no such stone") (tb_at 631 (by decide +kernel))) ha⟩
    · obtain ⟨sa, _, _, _, ha, -⟩ := Cond.exactly_spec (hs (Cond.exactly (.string "OpalField" 356) "java/lang/String") (by decide +kernel))
      exact ⟨sa, vk_R.of (hts (Cond.stringRef "OpalField" 356 "out of range") (tb_at 223 (by decide +kernel))) ha⟩
    · obtain ⟨sa, _, _, _, ha, -⟩ := Cond.exactly_spec (hs (Cond.exactly (.string "OpalField" 358) "java/lang/String") (by decide +kernel))
      exact ⟨sa, vk_R.of (hts (Cond.stringRef "OpalField" 358 "the person is barred") (tb_at 283 (by decide +kernel))) ha⟩
    · obtain ⟨sa, _, _, _, ha, -⟩ := Cond.exactly_spec (hs (Cond.exactly (.string "OpalField" 360) "java/lang/String") (by decide +kernel))
      exact ⟨sa, vk_R.of (hts (Cond.stringRef "OpalField" 360 "the person is none of the people") (tb_at 443 (by decide +kernel))) ha⟩
    · obtain ⟨sa, _, _, _, ha, -⟩ := Cond.exactly_spec (hs (Cond.exactly (.string "OpalField" 362) "java/lang/String") (by decide +kernel))
      exact ⟨sa, vk_R.of (hts (Cond.stringRef "OpalField" 362 "the claim does not hold the cell") (tb_at 461 (by decide +kernel))) ha⟩
    · obtain ⟨sa, _, _, _, ha, -⟩ := Cond.exactly_spec (hs (Cond.exactly (.string "OpalField" 367) "java/lang/String") (by decide +kernel))
      exact ⟨sa, vk_R.of (hts (Cond.stringRef "OpalField" 367 "the stone is in a parcel, or sold") (tb_at 652 (by decide +kernel))) ha⟩
  · exact ⟨va_Dc.of (hts (Cond.declares ⟨"java/lang/Object", "getClass", "()Ljava/lang/Class;"⟩) (tb_at 1233 (by decide +kernel))), va_Mi.of (hs (Cond.isRef (.mirror "[Ljava/lang/Object;")) (by decide +kernel)), va_AO.of (hts (Cond.arrayOver (.object "java/lang/Object")) (tb_at 371 (by decide +kernel))), va_Nw.of rfl (hts (Cond.castable "OpalField$Claim" "java/lang/Object") (tb_at 1227 (by decide +kernel))), va_Nw.of rfl (hts (Cond.castable "OpalField$Stone" "java/lang/Object") (tb_at 1228 (by decide +kernel)))⟩

