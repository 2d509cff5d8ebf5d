set_option maxRecDepth 100000 in
theorem wm_Jx4a65c_1 : Cond.methodLink RJx4a65c 1 yJxc12de_init_da8c8 ∈ WS := tb_in 70 (by decide +kernel) (by decide +kernel)
set_option maxRecDepth 100000 in
theorem wm_Jxc12de_1 : Cond.methodLink RJxc12de 1 yJxa1e45_init_da8c8 ∈ WS := tb_in 73 (by decide +kernel) (by decide +kernel)
set_option maxRecDepth 100000 in
theorem wm_Jxa1e45_1 : Cond.methodLink RJxa1e45 1 objectInit ∈ WS := tb_in 76 (by decide +kernel) (by decide +kernel)
set_option maxRecDepth 100000 in
theorem wf_Jx4a65c_39 : Cond.fieldLink RJx4a65c 39 "java/util/ArrayList" "DEFAULTCAPACITY_EMPTY_ELEMENTDATA" "[Ljava/lang/Object;" ∈ WS := tb_in 77 (by decide +kernel) (by decide +kernel)
set_option maxRecDepth 100000 in
theorem wf_Jx4a65c_9 : Cond.fieldLink RJx4a65c 9 "java/util/ArrayList" "elementData" "[Ljava/lang/Object;" ∈ WS := tb_in 79 (by decide +kernel) (by decide +kernel)
set_option maxRecDepth 100000 in
theorem wf_Jx4a65c_48 : Cond.fieldLink RJx4a65c 48 "java/util/ArrayList" "size" "I" ∈ WS := tb_in 80 (by decide +kernel) (by decide +kernel)
set_option maxRecDepth 100000 in
theorem wf_Jxc12de_7 : Cond.fieldLink RJxc12de 7 "java/util/AbstractList" "modCount" "I" ∈ WS := tb_in 81 (by decide +kernel) (by decide +kernel)
set_option maxRecDepth 100000 in
theorem wf_Jx4a65c_63 : Cond.fieldLink RJx4a65c 63 "java/util/ArrayList" "modCount" "I" ∈ WS := tb_in 82 (by decide +kernel) (by decide +kernel)
set_option maxRecDepth 100000 in
theorem wm_Jx4a65c_131 : Cond.methodLink RJx4a65c 131 yJx4a65c_add_72be8 ∈ WS := tb_in 331 (by decide +kernel) (by decide +kernel)
set_option maxRecDepth 100000 in
theorem wm_Jx4a65c_129 : Cond.methodLink RJx4a65c 129 yJx4a65c_grow_d5877 ∈ WS := tb_in 335 (by decide +kernel) (by decide +kernel)
set_option maxRecDepth 100000 in
theorem wm_Jx4a65c_69 : Cond.methodLink RJx4a65c 69 yJx4a65c_grow_92f84 ∈ WS := tb_in 339 (by decide +kernel) (by decide +kernel)
set_option maxRecDepth 100000 in
theorem wm_Jx4a65c_73 : Cond.methodLink RJx4a65c 73 yJ8_newLength_cabcc ∈ WS := tb_in 343 (by decide +kernel) (by decide +kernel)
set_option maxRecDepth 100000 in
theorem wm_J8_194 : Cond.methodLink RJ8 194 Lib.Math.max.name ∈ WS := tb_in 346 (by decide +kernel) (by decide +kernel)
set_option maxRecDepth 100000 in
theorem wm_J8_201 : Cond.methodLink RJ8 201 yJ8_hugeLength_7cf53 ∈ WS := tb_in 348 (by decide +kernel) (by decide +kernel)
set_option maxRecDepth 100000 in
theorem wm_Jx4a65c_66 : Cond.methodLink RJx4a65c 66 yJ7_copyOf_1904c ∈ WS := tb_in 351 (by decide +kernel) (by decide +kernel)
set_option maxRecDepth 100000 in
theorem wm_J7_86 : Cond.methodLink RJ7 86 ⟨"java/lang/Object", "getClass", "()Ljava/lang/Class;"⟩ ∈ WS := tb_in 354 (by decide +kernel) (by decide +kernel)
set_option maxRecDepth 100000 in
theorem wm_J7_300 : Cond.methodLink RJ7 300 yJ7_copyOf_6403c ∈ WS := tb_in 367 (by decide +kernel) (by decide +kernel)
set_option maxRecDepth 100000 in
theorem wc_J7_110 : Cond.classLink RJ7 110 "[Ljava/lang/Object;" ∈ WS := tb_in 370 (by decide +kernel) (by decide +kernel)
set_option maxRecDepth 100000 in
theorem wc_J7_2 : Cond.classLink RJ7 2 "java/lang/Object" ∈ WS := tb_in 372 (by decide +kernel) (by decide +kernel)
set_option maxRecDepth 100000 in
theorem wm_J7_304 : Cond.methodLink RJ7 304 Lib.Math.min.name ∈ WS := tb_in 373 (by decide +kernel) (by decide +kernel)
set_option maxRecDepth 100000 in
theorem wm_J7_150 : Cond.methodLink RJ7 150 arraycopyName ∈ WS := tb_in 376 (by decide +kernel) (by decide +kernel)
set_option maxRecDepth 100000 in
theorem wm_Jx4a65c_79 : Cond.methodLink RJx4a65c 79 Lib.Math.max.name ∈ WS := tb_in 379 (by decide +kernel) (by decide +kernel)
set_option maxRecDepth 100000 in
theorem wc_Jx4a65c_7 : Cond.classLink RJx4a65c 7 "java/lang/Object" ∈ WS := tb_in 380 (by decide +kernel) (by decide +kernel)
set_option maxRecDepth 100000 in
theorem wm_Jx4a65c_118 : Cond.methodLink RJx4a65c 118 yJ15_checkIndex_7cf53 ∈ WS := tb_in 397 (by decide +kernel) (by decide +kernel)
set_option maxRecDepth 100000 in
theorem wm_J15_105 : Cond.methodLink RJ15 105 yJ3_checkIndex_8e157 ∈ WS := tb_in 400 (by decide +kernel) (by decide +kernel)
set_option maxRecDepth 100000 in
theorem wm_Jx4a65c_123 : Cond.methodLink RJx4a65c 123 yJx4a65c_elementData_915e3 ∈ WS := tb_in 403 (by decide +kernel) (by decide +kernel)
abbrev mJ3_checkIndex_8e157 : MD := (yJ3_checkIndex_8e157, cJ3_checkIndex_8e157, 3, (some .int), 0, 0, 0, false, [])
set_option maxRecDepth 100000 in
theorem mfJ3_checkIndex_8e157 : MF mJ3_checkIndex_8e157 3 := ⟨wo_J3_checkIndex_8e157, ⟨by decide, by decide⟩, by decide +kernel, wn_J3, rfl, by decide⟩
abbrev mJ15_checkIndex_7cf53 : MD := (yJ15_checkIndex_7cf53, cJ15_checkIndex_7cf53, 2, (some .int), 1, 0, 0, false, [])
set_option maxRecDepth 100000 in
theorem mfJ15_checkIndex_7cf53 : MF mJ15_checkIndex_7cf53 2 := ⟨wo_J15_checkIndex_7cf53, ⟨by decide, by decide⟩, by decide +kernel, wn_J15, rfl, by decide⟩
abbrev mJx4a65c_elementData_915e3 : MD := (yJx4a65c_elementData_915e3, cJx4a65c_elementData_915e3, 2, (some (.object "java/lang/Object")), 0, 0, 0, false, [])
set_option maxRecDepth 100000 in
theorem mfJx4a65c_elementData_915e3 : MF mJx4a65c_elementData_915e3 1 := ⟨wo_Jx4a65c_elementData_915e3, ⟨by decide, by decide⟩, by decide +kernel, wn_Jx4a65c, rfl, by decide⟩
abbrev mJx4a65c_get_915e3 : MD := (yJx4a65c_get_915e3, cJx4a65c_get_915e3, 2, (some (.object "java/lang/Object")), 2, 0, 0, false, [])
set_option maxRecDepth 100000 in
theorem mfJx4a65c_get_915e3 : MF mJx4a65c_get_915e3 1 := ⟨wo_Jx4a65c_get_915e3, ⟨by decide, by decide⟩, by decide +kernel, wn_Jx4a65c, rfl, by decide⟩
abbrev mJx4a65c_size_8abf5 : MD := (yJx4a65c_size_8abf5, cJx4a65c_size_8abf5, 1, (some .int), 0, 0, 0, false, [])
set_option maxRecDepth 100000 in
theorem mfJx4a65c_size_8abf5 : MF mJx4a65c_size_8abf5 0 := ⟨wo_Jx4a65c_size_8abf5, ⟨by decide, by decide⟩, by decide +kernel, wn_Jx4a65c, rfl, by decide⟩
abbrev mJ7_fill_53178 : MD := (yJ7_fill_53178, cJ7_fill_53178, 4, none, 0, 0, 0, false, [])
set_option maxRecDepth 100000 in
theorem mfJ7_fill_53178 : MF mJ7_fill_53178 2 := ⟨wo_J7_fill_53178, ⟨by decide, by decide⟩, by decide +kernel, wn_J7, rfl, by decide⟩
section GX
variable {M : MD} {P : Pst} {kc ks pc : Nat} {ls : List (Nat × GV)} {st : List GV} {L : Nat → Nat} {A : Mem}
theorem g_null (hd : decode M.cc pc = .ok (.aconst_null, 1)) (k : GW M P kc ks (pc + 1) ls (gnul :: st) L A) : GW M P kc ks pc ls st L A := by
  intro p l e R s m args below meth c D a0 L0 a H locs lsr Q F E1 E3 S hl
  exact lv_null F.1 F.2.1 hd (k p l e R s m args below meth c D a0 L0 a H locs lsr Q F E1 E3 S hl)
/-- a list's row -/
theorem g_getdata {n ix : Nat} (hy : ly n = (0, 3)) (h1 : A n 1 = 2) (hw : Cond.fieldLink M.y.cls ix "java/util/ArrayList" "elementData" "[Ljava/lang/Object;" ∈ WS) (hd : decode M.cc pc = .ok (.getfield ix, 3)) (hn : L n ≠ 0)
    (kk : GW M P kc ks (pc + 3) ls (gr (n + 2) :: st) L A) : GW M P kc ks pc ls (gr n :: st) L A := by
  intro p l e R s m args below meth c D a0 L0 a H locs lsr Q F E1 E3 S hl
  have k2 := kk p l e R s m args below meth c D a0 L0 a H locs lsr Q F E1 E3 S hl
  refine va_get (q0 := 0) (ci := 0) F.1 F.2.1 F.2.2.2.2.1 cf_0.2.1 F.2.2.2.1 F.2.2.2.2.2.2.2.2.2.2.1.1 (Wd_one S.1 hn (gcell_o hy (by decide))) rfl cf_0.1 1 (by decide) (F.2.2.2.2.1 _ hw) (fun _ h => h) (v := .ref (a (n + 2))) ?_ hd k2
  rw [List.getElem?_map, List.getElem?_range (by decide)]
  simp only [Option.map_some, gfd, and_self, if_true, h1]
  simp
theorem g_aald {n : Nat} (i : Nat) (hy : ly n = (9, 0)) (h1 : (i : Int) < A n 1) (h2 : A n 1 ≤ A n 0) (h3 : A n 0 ≤ 100000) (hd : decode M.cc pc = .ok (.aaload, 1)) (hn : L n ≠ 0) (kk : GW M P kc ks (pc + 1) ls (gr (eln n i) :: st) L A) : GW M P kc ks pc ls (gi i :: gr n :: st) L A := by
  intro p l e R s m args below meth c D a0 L0 a H locs lsr Q F E1 E3 S hl
  have k2 := kk p l e R s m args below meth c D a0 L0 a H locs lsr Q F E1 E3 S hl
  refine va_aldq (q0 := 0) (t0 := 3) F.1 F.2.1 F.2.2.2.2.2.2.2.2.2.2.1.1 (Wd_one S.1 hn (gcell_q hy)) rfl rfl (ii_in (by omega) (by omega)) hd ?_
  rw [ii_nat (by omega)]
  have e9 : grow_ a A n i = some (a (eln n i)) := by unfold grow_; rw [if_pos h1]
  rw [e9]
  exact k2
end GX
/-- a list that is not empty: its row, its room, its count -/
def LST (L : Nat → Nat) (A : Mem) (n : Nat) : Prop := L n = 2 ∧ L (n + 2) ≠ 0 ∧ A n 1 = 2 ∧ A (n + 2) 1 = A n 2 ∧ A n 2 ≤ A (n + 2) 0 ∧ A (n + 2) 0 ≤ 100000 ∧ 0 ≤ A n 2
set_option maxRecDepth 20000 in
theorem c_AL_size {L : Nat → Nat} {A : Mem} {n : Nat} (hy : ly n = (0, 3)) (hn : L n ≠ 0) : Ct mJx4a65c_size_8abf5 [gr n] L A (pr (some (gi (A n 2))) L A) := by
  refine Ct_of (ls := [(0, _)]) rfl (by decide) (fun _ => rfl) (fun _ => Nat.le_of_ble_eq_true rfl) ?_
  refine g_aload_n 0 dJx4a65c_size_8abf5_0 rfl rfl ?_
  refine g_getfi cf_0 2 hy (by decide) (by decide) rfl (by decide) wf_Jx4a65c_48 dJx4a65c_size_8abf5_1 hn (fun h => ?_)
  exact g_iret dJx4a65c_size_8abf5_4 rfl (Nat.le_of_ble_eq_true rfl) (Nat.le_of_ble_eq_true rfl) (pr_i rfl rfl)
set_option maxRecDepth 20000 in
theorem c_J3_checkIndex {L : Nat → Nat} {A : Mem} {x y : Int} (hx : 0 ≤ x ∧ x < y) (hy : y < 2147483648) : Ct mJ3_checkIndex_8e157 [gi x, gi y, gnul] L A (pr (some (gi x)) L A) := by
  refine Ct_of (ls := [(0, _), (1, _), (2, _)]) rfl (by decide) (fun _ => rfl) (fun _ => Nat.le_of_ble_eq_true rfl) ?_
  refine g_iload_n 0 dJ3_checkIndex_8e157_0 rfl rfl ?_
  refine g_if_lt (tgt := 9) (by omega) dJ3_checkIndex_8e157_1 (by decide) (fun h => absurd h (by omega)) (fun h => ?_)
  refine g_iload_n 0 dJ3_checkIndex_8e157_4 rfl rfl ?_
  refine g_iload_n 1 dJ3_checkIndex_8e157_5 rfl rfl ?_
  refine g_icmp_lt (tgt := 16) (by omega) (by omega) dJ3_checkIndex_8e157_6 (by decide) (fun h => ?_) (fun h => absurd hx.2 h)
  refine g_iload_n 0 dJ3_checkIndex_8e157_16 rfl rfl ?_
  exact g_iret dJ3_checkIndex_8e157_17 rfl (Nat.le_of_ble_eq_true rfl) (Nat.le_of_ble_eq_true rfl) (pr_i rfl rfl)
set_option maxRecDepth 20000 in
theorem c_J15_checkIndex {L : Nat → Nat} {A : Mem} {x y : Int} (hx : 0 ≤ x ∧ x < y) (hy : y < 2147483648) : Ct mJ15_checkIndex_7cf53 [gi x, gi y] L A (pr (some (gi x)) L A) := by
  refine Ct_of (ls := [(0, _), (1, _)]) rfl (by decide) (fun _ => rfl) (fun _ => Nat.le_of_ble_eq_true rfl) ?_
  refine g_iload_n 0 dJ15_checkIndex_7cf53_0 rfl rfl ?_
  refine g_iload_n 1 dJ15_checkIndex_7cf53_1 rfl rfl ?_
  refine g_null dJ15_checkIndex_7cf53_2 ?_
  refine g_cT_i (My := mJ3_checkIndex_8e157) (gs := [_, _, _]) (c_J3_checkIndex hx hy) mfJ3_checkIndex_8e157 wst_J3_checkIndex_8e157 wm_J15_105 dJ15_checkIndex_7cf53_3 (Nat.le_of_ble_eq_true rfl) rfl (fun _ => Nat.le_of_ble_eq_true rfl) (Nat.le_of_ble_eq_true rfl) (Nat.le_of_ble_eq_true rfl) rfl rfl ?_
  exact g_iret dJ15_checkIndex_7cf53_6 rfl (Nat.le_of_ble_eq_true rfl) (Nat.le_of_ble_eq_true rfl) (pr_i rfl rfl)
set_option maxRecDepth 20000 in
theorem c_AL_elementData {L : Nat → Nat} {A : Mem} {n : Nat} (hy : ly n = (0, 3)) (hy2 : ly (n + 2) = (9, 0)) (hl : LST L A n) {i : Nat} (hi : (i : Int) < A n 2) : Ct mJx4a65c_elementData_915e3 [gr n, gi i] L A (pr (some (gr (eln (n + 2) i))) L A) := by
  obtain ⟨h1, h2, h3, h4, h5, h6, h7⟩ := hl
  refine Ct_of (ls := [(0, _), (1, _)]) rfl (by decide) (fun _ => rfl) (fun _ => Nat.le_of_ble_eq_true rfl) ?_
  refine g_aload_n 0 dJx4a65c_elementData_915e3_0 rfl rfl ?_
  refine g_getdata hy h3 wf_Jx4a65c_9 dJx4a65c_elementData_915e3_1 (n2 h1) ?_
  refine g_iload_n 1 dJx4a65c_elementData_915e3_4 rfl rfl ?_
  refine g_aald i hy2 (by omega) (by omega) h6 dJx4a65c_elementData_915e3_5 h2 ?_
  exact g_aret dJx4a65c_elementData_915e3_6 rfl (Nat.le_of_ble_eq_true rfl) (Nat.le_of_ble_eq_true rfl) (pr_mk rfl rfl rfl)
set_option maxRecDepth 20000 in
theorem c_AL_get {L : Nat → Nat} {A : Mem} {n : Nat} (hy : ly n = (0, 3)) (hy2 : ly (n + 2) = (9, 0)) (hl : LST L A n) {i : Nat} (hi : (i : Int) < A n 2) : Ct mJx4a65c_get_915e3 [gr n, gi i] L A (pr (some (gr (eln (n + 2) i))) L A) := by
  refine Ct_of (ls := [(0, _), (1, _)]) rfl (by decide) (fun _ => rfl) (fun _ => Nat.le_of_ble_eq_true rfl) ?_
  refine g_iload_n 1 dJx4a65c_get_915e3_0 rfl rfl ?_
  refine g_aload_n 0 dJx4a65c_get_915e3_1 rfl rfl ?_
  refine g_getfi cf_0 2 hy (by decide) (by decide) rfl (by decide) wf_Jx4a65c_48 dJx4a65c_get_915e3_2 (n2 hl.1) (fun h => ?_)
  refine g_cT_i (My := mJ15_checkIndex_7cf53) (gs := [_, _]) (c_J15_checkIndex (by omega) (by omega)) mfJ15_checkIndex_7cf53 wst_J15_checkIndex_7cf53 wm_Jx4a65c_118 dJx4a65c_get_915e3_5 (Nat.le_of_ble_eq_true rfl) rfl (fun _ => Nat.le_of_ble_eq_true rfl) (Nat.le_of_ble_eq_true rfl) (Nat.le_of_ble_eq_true rfl) rfl rfl ?_
  refine g_pop dJx4a65c_get_915e3_8 (c1_i _) ?_
  refine g_aload_n 0 dJx4a65c_get_915e3_9 rfl rfl ?_
  refine g_iload_n 1 dJx4a65c_get_915e3_10 rfl rfl ?_
  refine g_cV_i (My := mJx4a65c_elementData_915e3) (gs := [_]) (c_AL_elementData hy hy2 hl hi) mfJx4a65c_elementData_915e3 cf_0 wi_Jx4a65c_elementData_915e3 wsl_Jx4a65c_elementData_915e3 wm_Jx4a65c_123 dJx4a65c_get_915e3_11 (Nat.le_of_ble_eq_true rfl) hy (by decide) (n2 hl.1) rfl (fun _ => Nat.le_of_ble_eq_true rfl) (Nat.le_of_ble_eq_true rfl) (Nat.le_of_ble_eq_true rfl) rfl rfl ?_
  exact g_aret dJx4a65c_get_915e3_14 rfl (Nat.le_of_ble_eq_true rfl) (Nat.le_of_ble_eq_true rfl) (pr_mk rfl rfl rfl)
theorem eln_4 (j : Nat) : eln 4 j = 100 + 3 * j := rfl
theorem eln_5 (j : Nat) : eln 5 j = 200 + 3 * j := rfl
theorem c_CL_get {L : Nat → Nat} {A : Mem} (hl : LST L A 2) {i : Nat} (hi : (i : Int) < A 2 2) : Ct mJx4a65c_get_915e3 [gr 2, gi i] L A (pr (some (gr (100 + 3 * i))) L A) := c_AL_get rfl rfl hl hi
theorem c_SL_get {L : Nat → Nat} {A : Mem} (hl : LST L A 3) {i : Nat} (hi : (i : Int) < A 3 2) : Ct mJx4a65c_get_915e3 [gr 3, gi i] L A (pr (some (gr (200 + 3 * i))) L A) := c_AL_get rfl rfl hl hi

