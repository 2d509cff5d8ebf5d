set_option maxRecDepth 100000 in
theorem wi_getC : Cond.instanceMethod ⟨"java/lang/Object", "getClass", "()Ljava/lang/Class;"⟩ ∈ WS := tb_in 355 (by decide +kernel) (by decide +kernel)
set_option maxRecDepth 100000 in
theorem wsl_getC : Cond.selects "[Ljava/lang/Object;" ⟨"java/lang/Object", "getClass", "()Ljava/lang/Class;"⟩ ⟨"java/lang/Object", "getClass", "()Ljava/lang/Class;"⟩ ∈ WS := tb_in 1232 (by decide +kernel) (by decide +kernel)
set_option maxRecDepth 100000 in
theorem wnt_getC : Cond.native ⟨"java/lang/Object", "getClass", "()Ljava/lang/Class;"⟩ ∈ WS := tb_in 366 (by decide +kernel) (by decide +kernel)
set_option maxRecDepth 100000 in
theorem wst_acopy : Cond.static arraycopyName ∈ WS := tb_in 377 (by decide +kernel) (by decide +kernel)
set_option maxRecDepth 100000 in
theorem wnt_acopy : Cond.native arraycopyName ∈ WS := tb_in 378 (by decide +kernel) (by decide +kernel)
set_option maxRecDepth 100000 in
theorem wn_sys : Cond.initialized "java/lang/System" ∈ WS := tb_in 17 (by decide +kernel) (by decide +kernel)
abbrev mJxa1e45_init_da8c8 : MD := (yJxa1e45_init_da8c8, cJxa1e45_init_da8c8, 1, none, 0, 0, 0, false, [])
set_option maxRecDepth 100000 in
theorem mfJxa1e45_init_da8c8 : MF mJxa1e45_init_da8c8 0 := ⟨wo_Jxa1e45_init_da8c8, ⟨by decide, by decide⟩, by decide +kernel, wn_Jxa1e45, rfl, by decide⟩
abbrev mJxc12de_init_da8c8 : MD := (yJxc12de_init_da8c8, cJxc12de_init_da8c8, 1, none, 1, 0, 0, false, [])
set_option maxRecDepth 100000 in
theorem mfJxc12de_init_da8c8 : MF mJxc12de_init_da8c8 0 := ⟨wo_Jxc12de_init_da8c8, ⟨by decide, by decide⟩, by decide +kernel, wn_Jxc12de, rfl, by decide⟩
abbrev mJx4a65c_init_da8c8 : MD := (yJx4a65c_init_da8c8, cJx4a65c_init_da8c8, 1, none, 2, 0, 0, false, [])
set_option maxRecDepth 100000 in
theorem mfJx4a65c_init_da8c8 : MF mJx4a65c_init_da8c8 0 := ⟨wo_Jx4a65c_init_da8c8, ⟨by decide, by decide⟩, by decide +kernel, wn_Jx4a65c, rfl, by decide⟩
abbrev mJ8_newLength_cabcc : MD := (yJ8_newLength_cabcc, cJ8_newLength_cabcc, 4, (some .int), 1, 0, 0, false, [])
set_option maxRecDepth 100000 in
theorem mfJ8_newLength_cabcc : MF mJ8_newLength_cabcc 3 := ⟨wo_J8_newLength_cabcc, ⟨by decide, by decide⟩, by decide +kernel, wn_J8, rfl, by decide⟩
abbrev mJ7_copyOf_6403c : MD := (yJ7_copyOf_6403c, cJ7_copyOf_6403c, 4, (some (.array (.object "java/lang/Object"))), 1, 1, 200, true, [])
set_option maxRecDepth 100000 in
theorem mfJ7_copyOf_6403c : MF mJ7_copyOf_6403c 3 := ⟨wo_J7_copyOf_6403c, ⟨by decide, by decide⟩, by decide +kernel, wn_J7, rfl, by decide⟩
abbrev mJ7_copyOf_1904c : MD := (yJ7_copyOf_1904c, cJ7_copyOf_1904c, 2, (some (.array (.object "java/lang/Object"))), 2, 1, 200, true, [])
set_option maxRecDepth 100000 in
theorem mfJ7_copyOf_1904c : MF mJ7_copyOf_1904c 2 := ⟨wo_J7_copyOf_1904c, ⟨by decide, by decide⟩, by decide +kernel, wn_J7, rfl, by decide⟩
abbrev mJx4a65c_grow_92f84 : MD := (yJx4a65c_grow_92f84, cJx4a65c_grow_92f84, 4, (some (.array (.object "java/lang/Object"))), 3, 1, 200, true, [])
set_option maxRecDepth 100000 in
theorem mfJx4a65c_grow_92f84 : MF mJx4a65c_grow_92f84 1 := ⟨wo_Jx4a65c_grow_92f84, ⟨by decide, by decide⟩, by decide +kernel, wn_Jx4a65c, rfl, by decide⟩
abbrev mJx4a65c_grow_d5877 : MD := (yJx4a65c_grow_d5877, cJx4a65c_grow_d5877, 1, (some (.array (.object "java/lang/Object"))), 4, 1, 200, true, [])
set_option maxRecDepth 100000 in
theorem mfJx4a65c_grow_d5877 : MF mJx4a65c_grow_d5877 0 := ⟨wo_Jx4a65c_grow_d5877, ⟨by decide, by decide⟩, by decide +kernel, wn_Jx4a65c, rfl, by decide⟩
abbrev mJx4a65c_add_72be8 : MD := (yJx4a65c_add_72be8, cJx4a65c_add_72be8, 4, none, 5, 1, 200, true, [])
set_option maxRecDepth 100000 in
theorem mfJx4a65c_add_72be8 : MF mJx4a65c_add_72be8 3 := ⟨wo_Jx4a65c_add_72be8, ⟨by decide, by decide⟩, by decide +kernel, wn_Jx4a65c, rfl, by decide⟩
abbrev mJx4a65c_add_9ea2d : MD := (yJx4a65c_add_9ea2d, cJx4a65c_add_9ea2d, 2, (some .boolean), 6, 1, 200, true, [])
set_option maxRecDepth 100000 in
theorem mfJx4a65c_add_9ea2d : MF mJx4a65c_add_9ea2d 1 := ⟨wo_Jx4a65c_add_9ea2d, ⟨by decide, by decide⟩, by decide +kernel, wn_Jx4a65c, rfl, by decide⟩

section GQ
variable {M My : MD} {P P1 : Pst} {p : Program} {l : Launch} {e : Env} {R : Room} {s : State} {m : MethodId} {args : Array Value} {below : List Frame} {meth : Method} {c : Code} {D : GD} {a0 L0 a L : Nat → Nat} {A : Mem} {H : Heap} {locs : List Loc}
set_option maxHeartbeats 1000000 in
/-- a list's row field is written -/
theorem W_putl {Q : State → Prop} {kc ks pc ix q : Nat} {lsr : Array Slot} {rest : List Value} {v : Value} {f : Nat → Value} (F : FX M p l R s m args meth c D a0 L0) (hv : v = .null ∨ ∃ x, v = .ref x) (hat : va_at D.1 vwCl (q, .inr (0, (List.range 3).map f)) H)
    (hw : Cond.fieldLink M.y.cls ix "java/util/ArrayList" "elementData" "[Ljava/lang/Object;" ∈ WS) (hd : decode M.cc pc = .ok (.putfield ix, 3))
    (kk : ∀ (H' : Heap) (i : Nat), va_at D.1 vwCl (q, .inr (0, (List.range 3).map (updV f 1 v))) H' → H'.size = H.size → (∀ x : Nat, x ≠ q → H'[x]? = H[x]?) → W p l e R s m args below meth c H' (locs ++ [⟨q, i⟩]) kc ks Q (F0 m (pc + 3) lsr rest)) :
    W p l e R s m args below meth c H locs kc ks Q (F0 m pc lsr (v :: .ref q :: rest)) := by
  obtain ⟨hx, hb, hml, hown, hws, hlocks, hrt, hnm, hlt, htab, hE, hR⟩ := id F
  have hK := hE.1
  have hF := cf_0
  obtain ⟨r, h1, cell, q1, q2, q3, q4⟩ := hat
  have hr : r = (RJx4a65c, TJx4a65c, 3) := Option.some.inj (h1.symm.trans hF.1)
  subst hr
  have hap := va_apart (own := M.y.cls) hws hF.2.1 tyJx4a65c hF.2.2.1 hF.2.2.2 hK hF.1
  obtain ⟨hS, hfc, kC, hkC, hkind⟩ := hK.1 0 _ hF.1
  obtain ⟨cf, kf, fi, f9, hi, hsl⟩ := hS 1 (by decide)
  have hlay := hws _ (hF.2.1 _ (u_in_lay (k := 1) (by decide)))
  have hst := (u_facts hfc hkC (u_lays hws hF.2.1 (k := 1) (by decide)) hi).1
  have hnf : narrow (tyJx4a65c 1) v = v ∧ fits (tyJx4a65c 1) v = true := by rcases hv with rfl | ⟨x, rfl⟩ <;> exact ⟨rfl, rfl⟩
  have hgf : ∀ j, j < 3 → updV (vp_V ((List.range 3).map f)) 1 v j = vp_V ((List.range 3).map (updV f 1 v)) j := by
    intro j hj
    rcases (show j = 0 ∨ j = 1 ∨ j = 2 by omega) with rfl | rfl | rfl <;> rfl
  unfold u_lay at hlay
  rw [if_neg (by decide)] at hlay
  have h6 := u_store hfc hkC hkind hlay hi (hF.2.2.1 1 (by decide)) hnf.1 hnf.2
  refine W.putK hx hb (f := f9) ⟨hown, hws _ hw, ⟨_, _, _, hi⟩, hst⟩ (by rw [q2]; exact h6) q1 q3 (by rw [hsl]; exact k2_hasslot (q4 1 (by decide))) rfl rfl hd (fun H' e1 e2 e3 => ?_)
  rw [hsl] at e1
  exact kk H' _ ⟨_, hF.1, t_OB.to (V := updV (vp_V ((List.range 3).map f)) 1 v) ⟨_, e1, q2, q3, t_set q4 hap (by decide) v⟩ hgf⟩ e2 e3
/-- a list's row has a new place -/
theorem SH_nine {A' : Mem} {H1 : Heap} {locs1 : List Loc} {n q : Nat} (S : SH M D a0 L0 s a L A H locs) (hfl : M.fl = true) (hy : ly n = (9, 0))
    (w1 : ∀ m, L m ≠ 0 → m ≠ n → va_at D.1 vwCl (a m, gcell D (gset a n q) A' m) H1) (hc : va_at D.1 vwCl (q, gcell D (gset a n q) A' n) H1) (hq : H.size ≤ q) (w3 : ∀ m k, L m = 2 → m ≠ n → k < (ly m).2 → rfk (ly m).1 k = true → A' m k ≠ 0) (w4 : ∀ m k, -2147483648 ≤ A' m k ∧ A' m k < 2147483648)
    (hva : va_S (fpt a0 L0 s.heap.size) s.heap H1 locs1) : SH M D a0 L0 s (gset a n q) (gset L n 2) A' H1 locs1 := by
  obtain ⟨⟨v1, v2, v3, v4⟩, hf, hag, hmo, hfl0, hva0⟩ := S
  have al : ∀ m, gset L n 2 m ≠ 0 → m ≠ n → L m ≠ 0 := fun m hm e => by rw [gset_ne e] at hm; exact hm
  have hlt : ∀ m, L m ≠ 0 → a m < H.size := fun m hm => va_at.lt (v1 m hm)
  refine ⟨⟨fun m hm => ?_, fun m k hm hk e => ?_, fun m k hm hk h9 => ?_, w4⟩, fun m hm => ?_, fun m hm hy2 => ?_, fun m hm => ?_, fun h => absurd (h.symm.trans hfl) (by decide), hva⟩
  · by_cases e : m = n
    · rw [e, gset_eq]; exact hc
    · rw [gset_ne e]; exact w1 m (al m hm e) e
  · by_cases e1 : m = n
    · by_cases e2 : k = n
      · rw [e1, e2]
      · rw [e1, gset_eq, gset_ne e2] at e; have := hlt k (al k hk e2); omega
    · by_cases e2 : k = n
      · rw [e2, gset_eq, gset_ne e1] at e; have := hlt m (al m hm e1); omega
      · rw [gset_ne e1, gset_ne e2] at e; exact v2 m k (al m hm e1) (al k hk e2) e
  · by_cases e : m = n
    · rw [e, hy] at hk; exact absurd hk (by simp)
    · rw [gset_ne e] at hm; exact w3 m k hm e hk h9
  · by_cases e : m = n
    · rw [e, gset_eq]; exact Or.inr (Nat.le_trans hva0.1 hq)
    · rw [gset_ne e]; exact hf m (al m hm e)
  · by_cases e : m = n
    · rw [e, hy] at hy2; exact absurd rfl hy2
    · rw [gset_ne e]; exact hag m hm hy2
  · by_cases e : m = n
    · rw [e, gset_eq]; decide
    · rw [gset_ne e]; exact hmo m hm
end GQ
section GL
variable {M : MD} {P : Pst} {kc ks pc : Nat} {ls : List (Nat × GV)} {st : List GV} {L : Nat → Nat} {A : Mem}
/-- the length of the empty list's row -/
theorem g_lenE {n ix : Nat} (hy : ly n = (0, 3)) (h1 : A n 1 = 1) (hw : Cond.fieldLink M.y.cls ix "java/util/ArrayList" "elementData" "[Ljava/lang/Object;" ∈ WS) (hd : decode M.cc pc = .ok (.getfield ix, 3)) (hd2 : decode M.cc (pc + 3) = .ok (.arraylength, 1)) (hn : L n ≠ 0)
    (kk : GW M P kc ks (pc + 4) ls (gi 0 :: st) L A) : GW M P kc ks pc ls (gr n :: st) L A := by
  intro p l e R s m args below meth c D a0 L0 a H locs lsr Q F E1 E3 S hl
  have k2 := kk p l e R s m args below meth c D a0 L0 a H locs lsr Q F E1 E3 S hl
  have hE := F.2.2.2.2.2.2.2.2.2.2.1
  refine va_get (q0 := 0) (ci := 0) F.1 F.2.1 F.2.2.2.2.1 cf_0.2.1 F.2.2.2.1 hE.1 (Wd_one S.1 hn (gcell_o hy (by decide))) rfl cf_0.1 1 (by decide) (F.2.2.2.2.1 _ hw) (fun _ h => h) (v := .ref D.2.2) ?_ hd ?_
  · rw [List.getElem?_map, List.getElem?_range (by decide)]
    simp only [Option.map_some, gfd, and_self, if_true, h1]
    simp
  · exact va_tlen F.1 F.2.1 hE.2.2.2.2.1 S.2.2.2.2.2 rfl hd2 k2
/-- the empty list's row is the shared empty row -/
theorem g_acmpE {n ix ix2 tgt : Nat} {off : Int} (hy : ly n = (0, 3)) (h1 : A n 1 = 1) (hw : Cond.fieldLink M.y.cls ix "java/util/ArrayList" "elementData" "[Ljava/lang/Object;" ∈ WS) (hw2 : Cond.fieldLink M.y.cls ix2 "java/util/ArrayList" "DEFAULTCAPACITY_EMPTY_ELEMENTDATA" "[Ljava/lang/Object;" ∈ WS) (hd : decode M.cc pc = .ok (.getfield ix, 3)) (hd2 : decode M.cc (pc + 3) = .ok (.getstatic ix2, 3)) (hd3 : decode M.cc (pc + 6) = .ok (.if_acmp .eq off, 3)) (ht : ((pc + 6 : Nat) : Int) + off = (tgt : Int)) (hn : L n ≠ 0)
    (kk : GW M P kc ks tgt ls st L A) : GW M P kc ks pc ls (gr n :: st) L A := by
  intro p l e R s m args below meth c D a0 L0 a H locs lsr Q F E1 E3 S hl
  have k2 := kk p l e R s m args below meth c D a0 L0 a H locs lsr Q F E1 E3 S hl
  have hE := F.2.2.2.2.2.2.2.2.2.2.1
  refine va_get (q0 := 0) (ci := 0) F.1 F.2.1 F.2.2.2.2.1 cf_0.2.1 F.2.2.2.1 hE.1 (Wd_one S.1 hn (gcell_o hy (by decide))) rfl cf_0.1 1 (by decide) (F.2.2.2.2.1 _ hw) (fun _ h => h) (v := .ref D.2.2) ?_ hd ?_
  · rw [List.getElem?_map, List.getElem?_range (by decide)]
    simp only [Option.map_some, gfd, and_self, if_true, h1]
    simp
  · refine va_gets F.1 F.2.1 hE.2.2.2.1 S.2.2.2.2.2 F.2.2.2.1 (F.2.2.2.2.1 _ hw2) (fun _ h => h) hd2 ?_
    exact lv_acmp_eq (rx := some D.2.2) (ry := some D.2.2) F.1 F.2.1 hd3 ht (fun _ => k2) (fun h => absurd rfl h)
/-- a list gets the shared empty row -/
theorem g_putE {n ix ix2 : Nat} (hy : ly n = (0, 3)) (hw2 : Cond.fieldLink M.y.cls ix2 "java/util/ArrayList" "DEFAULTCAPACITY_EMPTY_ELEMENTDATA" "[Ljava/lang/Object;" ∈ WS) (hw : Cond.fieldLink M.y.cls ix "java/util/ArrayList" "elementData" "[Ljava/lang/Object;" ∈ WS) (hd2 : decode M.cc pc = .ok (.getstatic ix2, 3)) (hd : decode M.cc (pc + 3) = .ok (.putfield ix, 3)) (hn : L n ≠ 0)
    (kk : GW M P kc ks (pc + 6) ls st L (gup A n 1 1)) : GW M P kc ks pc ls (gr n :: st) L A := by
  intro p l e R s m args below meth c D a0 L0 a H locs lsr Q F E1 E3 S hl
  have hE := F.2.2.2.2.2.2.2.2.2.2.1
  refine va_gets F.1 F.2.1 hE.2.2.2.1 S.2.2.2.2.2 F.2.2.2.1 (F.2.2.2.2.1 _ hw2) (fun _ h => h) hd2 ?_
  have hat := S.1.1 n hn
  rw [gcell_o hy (by decide)] at hat
  refine W_putl F (Or.inr ⟨_, rfl⟩) hat hw hd (fun H' i e1 z oq => ?_)
  refine kk p l e R s m args below meth c D a0 L0 a H' _ lsr Q F E1 E3 (SH_put S hn (fun m hm => gup_ne hm) ?_ z oq (fun k _ h3 h4 => ?_) (fun k => ?_)) hl
  · rw [gcell_o hy (by decide)]
    refine cast (congrArg (fun w => va_at D.1 vwCl (a n, .inr (0, w)) H') (List.map_congr_left (fun j hj => ?_))) e1
    rcases (show j = 0 ∨ j = 1 ∨ j = 2 by have := List.mem_range.mp hj; omega) with rfl | rfl | rfl <;> simp [updV, gfd, gup, rfk]
  · rw [hy] at h4; exact absurd h4 (by simp [rfk])
  · by_cases e : k = 1
    · simp only [gup, e, and_self, if_true]; omega
    · simp only [gup, e, and_false, if_false]; exact S.1.2.2.2 n k
set_option maxHeartbeats 1000000 in
/-- a first row for an empty list -/
theorem g_anewl {n ix ix2 N : Nat} (hy : ly n = (0, 3)) (hy2 : ly (n + 2) = (9, 0)) (hN : N ≤ 1000) (hfl : M.fl = true) (hn : L n ≠ 0) (hn2 : L (n + 2) = 0) (h1 : A n 1 = 1) (hnr : NoRef L A (n + 2)) (hok : (∀ q ∈ ls, okv L q.2) ∧ ∀ v ∈ st, okv L v)
    (hk1 : kc + 1 ≤ M.mc) (hk2 : ks + N ≤ M.ms) (hcl : Cond.classLink M.y.cls ix "java/lang/Object" ∈ WS) (hw : Cond.fieldLink M.y.cls ix2 "java/util/ArrayList" "elementData" "[Ljava/lang/Object;" ∈ WS) (hd1 : decode M.cc pc = .ok (.anewarray ix, 3)) (hd2 : decode M.cc (pc + 3) = .ok (.dup_x1, 1)) (hd3 : decode M.cc (pc + 4) = .ok (.putfield ix2, 3))
    (kk : GW M P (kc + 1) (ks + N) (pc + 7) ls (gr (n + 2) :: st) (gset L (n + 2) 2) (gup (gup (gz A (n + 2)) (n + 2) 0 N) n 1 2)) : GW M P kc ks pc ls (gi N :: gr n :: st) L A := by
  intro p l e R s m args below meth c D a0 L0 a H locs lsr Q F E1 E3 S hl
  obtain ⟨hx, hb, hml, hown, hws, hlocks, hrt, hnm, hlt, htab, hE, hR1, hR2, hR3, hR4⟩ := id F
  have hnn : (Int32.ofInt (N : Int)).toNatClampNeg = N := by
    unfold Int32.toNatClampNeg
    rw [Int32.toInt_ofInt_of_le (by omega) (by omega)]; omega
  refine W.anew hx hb hown (hws _ hcl) (va_AO.use hE.2.2.2.2.2.2.2.2.2.2.1) rfl hd1 rfl (by rw [Int32.lt_iff_toInt_lt, Int32.toInt_ofInt_of_le (by omega) (by omega)]; simp) (by rw [hnn]; omega) (by omega) (by rw [hnn]; omega) fun cA kA comp f1 f2 f3 f4 => ?_
  obtain ⟨kA2, comp2, g2, g3, g4, g1⟩ := (hE.1.2 3 _ rfl).2
  have hcA : cA = D.2.1.2.2.2 := Option.some.inj (f1.symm.trans g1)
  generalize hH1 : H.push ({ cls := cA, slots := Array.replicate (Int32.ofInt (N : Int)).toNatClampNeg .null, vm := .none } : Cell) = H1
  have z1 : H1.size = H.size + 1 := by rw [← hH1, Array.size_push]
  have e1 : H1[H.size]? = some (arrV D.2.1.2.2.2 N (fun _ => .null)) := by rw [← hH1, Array.getElem?_push_size, ← arrV_new, hnn, hcA]
  have o1 : ∀ q : Nat, q < H.size → H1[q]? = H[q]? := fun q hq => by rw [← hH1, Array.getElem?_push, if_neg (Nat.ne_of_lt hq)]
  have hlt9 : ∀ m, L m ≠ 0 → a m < H.size := fun m hm => va_at.lt (S.1.1 m hm)
  rw [hnn]
  have hat := va_at.kept (S.1.1 n hn) (o1 _ (hlt9 n hn))
  rw [gcell_o hy (by decide)] at hat
  refine lv_dup_x1 hx hb hd2 rfl rfl ?_
  refine W_putl F (Or.inr ⟨_, rfl⟩) hat hw hd3 (fun H2 i e2 z2 o2 => ?_)
  have hne : n ≠ n + 2 := by omega
  have hva := S.2.2.2.2.2
  have hva1 : va_S (fpt a0 L0 s.heap.size) s.heap H1 locs := ⟨Nat.le_trans hva.1 (by omega), fun x h1 h2 => (o1 x (Nat.lt_of_lt_of_le h1 hva.1)).trans (hva.2.1 x h1 h2), hva.2.2⟩
  have S9 : SH M D a0 L0 s (gset a (n + 2) H.size) (gset L (n + 2) 2) (gup (gup (gz A (n + 2)) (n + 2) 0 N) n 1 2) H2 (locs ++ [⟨a n, i⟩]) := by
    refine SH_nine S hfl hy2 (fun m hm e => ?_) ?_ (Nat.le_refl _) (fun m k hm e hk h9 => ?_) (fun m k => ?_) (hva1.put z2 o2 (S.2.1 n hn))
    · by_cases en : m = n
      · rw [en, gcell_o hy (by decide)]
        refine cast (congrArg (fun w => va_at D.1 vwCl (a n, .inr (0, w)) H2) (List.map_congr_left (fun j hj => ?_))) e2
        rcases (show j = 0 ∨ j = 1 ∨ j = 2 by have := List.mem_range.mp hj; omega) with rfl | rfl | rfl <;> simp [updV, gfd, gup, rfk, gz, gset]
      · rw [gcell_c (A := gz A (n + 2)) (by rw [gup_ne en, gup_ne e]), gcell_new hnr hm]
        exact va_at.kept (S.1.1 m hm) ((o2 _ (fun q => en (S.1.2.1 m n hm hn q))).trans (o1 _ (hlt9 m hm)))
    · rw [gcell_q hy2]
      show H2[H.size]? = some (vp_cell _ _)
      rw [o2 _ (by have := hlt9 n hn; omega), e1, vp_cell_q]
      have ea : (gup (gup (gz A (n + 2)) (n + 2) 0 ↑N) n 1 2 (n + 2) 0).toNat = N := by simp [gup]
      rw [ea]
      congr 2
      funext j
      have eb : ¬ ((j : Int) < gup (gup (gz A (n + 2)) (n + 2) 0 ↑N) n 1 2 (n + 2) 1) := by simp [gup, gz]
      unfold grow_
      rw [if_neg eb]
      rfl
    · by_cases en : m = n
      · rw [en, hy] at h9; exact absurd h9 (by simp [rfk])
      · rw [gup_ne en, gup_ne e, gz_ne e]; exact S.1.2.2.1 m k hm hk h9
    · have := S.1.2.2.2 m k
      simp only [gup, gz]
      repeat' split
      all_goals omega
  have k2 := kk p l e R s m args below meth c D a0 L0 _ H2 _ lsr Q F E1 E3 S9 (by rw [List.map_congr_left (fun w hw => by rw [okv_ev hn2 (hok.1 w hw)])]; exact hl)
  rw [List.map_cons, List.map_congr_left (fun w hw => okv_ev hn2 (hok.2 w hw))] at k2
  rw [show ev (gset a (n + 2) H.size) (gr (n + 2)) = .ref H.size from by show Value.ref (gset a (n + 2) H.size (n + 2)) = _; rw [gset_eq]] at k2
  exact k2
end GL

