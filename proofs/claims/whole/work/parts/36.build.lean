set_option maxRecDepth 100000 in
theorem wo_oinit : Cond.code Lib.objectInit ⟨#[0xb1]⟩ 1 none ∈ WS := tb_in 28 (by decide +kernel) (by decide +kernel)
set_option maxRecDepth 100000 in
theorem wi_oinit : Cond.instanceMethod Lib.objectInit ∈ WS := tb_in 27 (by decide +kernel) (by decide +kernel)
/-- a row is filled -/
def filA (A : Mem) (n : Nat) (v : Int) : Nat → Mem
  | 0 => A
  | i + 1 => gup (filA A n v i) n i v
theorem filA_ne (A : Mem) (n : Nat) (v : Int) (i : Nat) {m : Nat} (h : m ≠ n) : filA A n v i m = A m := by
  induction i with
  | zero => rfl
  | succ i ih => rw [filA, gup_ne h, ih]
theorem filA_v (A : Mem) (n : Nat) (v : Int) (i j : Nat) : filA A n v i n j = if j < i then v else A n j := by
  induction i with
  | zero => rfl
  | succ i ih => rw [filA, gup_ap, ih]; grind
theorem filA_cl (A : Mem) (n i : Nat) : filA A n 0 i = clN A n i := by
  induction i with
  | zero => rfl
  | succ i ih => rw [filA, clN, ih]
section GOI
variable {M : MD} {P : Pst} {kc ks pc : Nat} {ls : List (Nat × GV)} {st : List GV} {L : Nat → Nat} {A : Mem}
theorem g_oinit {n ix : Nat} (hlk : Cond.methodLink M.y.cls ix Lib.objectInit ∈ WS) (hd : decode M.cc pc = .ok (.invokespecial ix, 3)) (hst : ∀ a, ((st.map (ev a)).map fun v => v.category).sum ≤ 8) (kk : GW M P kc ks (pc + 3) ls st L A) : GW M P kc ks pc ls (gr n :: st) L A := by
  intro p l e R s m args below meth c D a0 L0 a H locs lsr Q F E1 E3 S hl
  obtain ⟨hx, hb, hml, hown, hws, hlocks, hrt0, hnm0, hlt, htab, hE, hR1, hR2, hR3, hR4⟩ := id F
  exact W.objInit hx hb hown (hws _ hlk) (hws _ wi_oinit) (hws _ wo_oinit) rfl (hl.1.trans hml.symm) rfl hd (by omega) (by have h9 : 2 * (F0 m pc lsr ((gr n :: st).map (ev a))).monitorRoom + ((st.map (ev a)).map fun v => v.category).sum ≤ 8 := lv_room (hst a); omega) (kk p l e R s m args below meth c D a0 L0 a H locs lsr Q F E1 E3 S hl)
theorem okv_ev {n q : Nat} {a : Nat → Nat} {v : GV} (hn : L n = 0) (h : okv L v) : ev (gset a n q) v = ev a v := by
  cases v with
  | inl x => rfl
  | inr m =>
    show Value.ref (gset a n q m) = Value.ref (a m)
    rw [gset_ne (fun e => h.1 (by rw [e]; exact hn))]
theorem g_newi2 {n : Nat} {x : Int} (N : Nat) (hx : x = N) (hN : N ≤ 1000) (hy : ly n = (6, N)) (hn : L n = 0) (hfl : M.fl = true) (hk1 : kc + 1 ≤ M.mc) (hk2 : ks + N ≤ M.ms) (har : Cond.arrayClass .int ∈ WS) (hd : decode M.cc pc = .ok (.newarray .int, 2))
    (hnr : NoRef L A n) (hok : (∀ q ∈ ls, okv L q.2) ∧ ∀ v ∈ st, okv L v)
    (kk : GW M P (kc + 1) (ks + N) (pc + 2) ls (gr n :: st) (gset L n 2) (gz A n)) : GW M P kc ks pc ls (gi x :: st) L A :=
  g_newi N hx hN hy hn hfl hk1 hk2 har hd hnr (fun a q => List.map_congr_left (fun w hw => by rw [okv_ev hn (hok.1 w hw)])) (fun a q => List.map_congr_left (fun w hw => okv_ev hn (hok.2 w hw))) kk
theorem g_new2 {ci N n ix : Nat} {C : String} {T : u_T} {ty : Nat → FieldType} (hF : CFx ci C T N ty) (hy : ly n = (ci, N)) (hc : ci < 6) (hn : L n = 0) (hfl : M.fl = true) (hk1 : kc + 1 ≤ M.mc) (hk2 : ks + N ≤ M.ms) (hcl : Cond.classLink M.y.cls ix C ∈ WS) (hin : Cond.instantiable C N ∈ WS) (hit : Cond.initialized C ∈ WS) (hd : decode M.cc pc = .ok (.new ix, 3))
    (hdef : ∀ (eD : Nat) (a : Nat → Nat) j, j < N → defaultValue (ty j) = gfd eD a (gz A n) ci n j) (hnr : NoRef L A n) (hok : (∀ q ∈ ls, okv L q.2) ∧ ∀ v ∈ st, okv L v)
    (kk : GW M P (kc + 1) (ks + N) (pc + 3) ls (gr n :: st) (gset L n 1) (gz A n)) : GW M P kc ks pc ls st L A :=
  g_new hF hy hc hn hfl hk1 hk2 hcl hin hit hd hdef hnr (fun a q => List.map_congr_left (fun w hw => by rw [okv_ev hn (hok.1 w hw)])) (fun a q => List.map_congr_left (fun w hw => okv_ev hn (hok.2 w hw))) kk
end GOI
theorem def_3 (A : Mem) (n : Nat) (eD : Nat) (a : Nat → Nat) (j : Nat) (hj : j < 11) : defaultValue (tyX2 j) = gfd eD a (gz A n) 3 n j := by
  have e : ∀ k, gz A n n k = 0 := fun k => by simp [gz]
  unfold gfd
  simp only [e]
  rcases (show j = 0 ∨ j = 1 ∨ j = 2 ∨ j = 3 ∨ j = 4 ∨ j = 5 ∨ j = 6 ∨ j = 7 ∨ j = 8 ∨ j = 9 ∨ j = 10 by omega) with rfl | rfl | rfl | rfl | rfl | rfl | rfl | rfl | rfl | rfl | rfl <;> rfl
theorem def_1 (A : Mem) (n : Nat) (eD : Nat) (a : Nat → Nat) (j : Nat) (hj : j < 10) : defaultValue (tyX0 j) = gfd eD a (gz A n) 1 n j := by
  have e : ∀ k, gz A n n k = 0 := fun k => by simp [gz]
  unfold gfd
  simp only [e]
  rcases (show j = 0 ∨ j = 1 ∨ j = 2 ∨ j = 3 ∨ j = 4 ∨ j = 5 ∨ j = 6 ∨ j = 7 ∨ j = 8 ∨ j = 9 by omega) with rfl | rfl | rfl | rfl | rfl | rfl | rfl | rfl | rfl | rfl <;> rfl
theorem def_2 (A : Mem) (n : Nat) (eD : Nat) (a : Nat → Nat) (j : Nat) (hj : j < 6) : defaultValue (tyX1 j) = gfd eD a (gz A n) 2 n j := by
  have e : ∀ k, gz A n n k = 0 := fun k => by simp [gz]
  unfold gfd
  simp only [e]
  rcases (show j = 0 ∨ j = 1 ∨ j = 2 ∨ j = 3 ∨ j = 4 ∨ j = 5 by omega) with rfl | rfl | rfl | rfl | rfl | rfl <;> rfl
theorem def_0 (A : Mem) (n : Nat) (eD : Nat) (a : Nat → Nat) (j : Nat) (hj : j < 3) : defaultValue (tyJx4a65c j) = gfd eD a (gz A n) 0 n j := by
  have e : ∀ k, gz A n n k = 0 := fun k => by simp [gz]
  unfold gfd
  simp only [e]
  rcases (show j = 0 ∨ j = 1 ∨ j = 2 by omega) with rfl | rfl | rfl <;> rfl

set_option maxRecDepth 20000 in
theorem c_J7_fill_53178 {L : Nat → Nat} {A : Mem} {n N : Nat} {v : Int} (hy : ly n = (6, N)) (hN : N ≤ 1000) (hn : L n = 2) (hv : -2147483648 ≤ v ∧ v < 2147483648) : Ct mJ7_fill_53178 [gr n, gi v] L A (pr none L (filA A n v N)) := by
  refine Ct_of (ls := [(0, _), (1, _)]) rfl (by decide) (fun _ => rfl) (fun _ => Nat.le_of_ble_eq_true rfl) ?_
  refine g_iconst dJ7_fill_53178_0 ?_
  refine g_st (ls2 := [(2, _), (0, _), (1, _)]) dJ7_fill_53178_1 rfl (by decide) (c1_cr (c1_ci c1_0)) rfl ?_
  refine g_aload_n 1 dJ7_fill_53178_2 rfl rfl ?_
  refine g_alen hy (by omega) dJ7_fill_53178_3 (n2 hn) ?_
  refine g_st (ls2 := [(3, _), (2, _), (0, _), (1, _)]) dJ7_fill_53178_4 rfl (by decide) (c1_ci (c1_cr (c1_ci c1_0))) rfl ?_
  refine g_sub [2, 3, 1, 0] (ls2 := [(0, _), (1, _), (2, _), (3, _)]) rfl ?_
  have hQ5 : (fun i : Nat => GW mJ7_fill_53178 (pr none L (filA A n v N)) 0 0 5 [(0, gr (n)), (1, gi (v)), (2, gi ((i : Int))), (3, gi ((N : Int)))] [] L (filA A n v i)) 0 := by
    refine lp_up (Q := (fun i : Nat => GW mJ7_fill_53178 (pr none L (filA A n v N)) 0 0 5 [(0, gr (n)), (1, gi (v)), (2, gi ((i : Int))), (3, gi ((N : Int)))] [] L (filA A n v i))) (n := N) ?_ (fun i hi5 ih5 => ?_)
    · skip
      refine g_iload_n 2 dJ7_fill_53178_5 rfl rfl ?_
      refine g_iload_n 3 dJ7_fill_53178_6 rfl rfl ?_
      refine g_icmp_ge (tgt := 20) (by omega) (by omega) dJ7_fill_53178_7 (by decide) (fun h7_1 => ?_) (fun h7_1 => absurd h7_1 (by omega))
      exact g_vret dJ7_fill_53178_20 rfl (Nat.le_of_ble_eq_true rfl) (Nat.le_of_ble_eq_true rfl) (pr_v (rfl))
    · skip
      refine g_iload_n 2 dJ7_fill_53178_5 rfl rfl ?_
      refine g_iload_n 3 dJ7_fill_53178_6 rfl rfl ?_
      refine g_icmp_ge (tgt := 20) (by omega) (by omega) dJ7_fill_53178_7 (by decide) (fun h7_2 => absurd h7_2 (by omega)) (fun h7_2 => ?_)
      refine g_aload_n 0 dJ7_fill_53178_10 rfl rfl ?_
      refine g_iload_n 2 dJ7_fill_53178_11 rfl rfl ?_
      refine g_iload_n 1 dJ7_fill_53178_12 rfl rfl ?_
      refine g_iast (i) (by omega) (by omega) (by omega) hy (by omega) dJ7_fill_53178_13 (n2 hn) ?_
      refine g_inc (ls2 := [(2, _), (0, _), (1, _), (3, _)]) 2 dJ7_fill_53178_14 rfl (by decide) (c1_cr (c1_ci (c1_ci (c1_ci c1_0)))) rfl ?_
      refine g_goto (tgt := 5) dJ7_fill_53178_17 (by decide) ?_
      refine g_sub [1, 2, 0, 3] (ls2 := [(0, _), (1, _), (2, _), (3, _)]) rfl ?_
      exact g_ls (by rfl) rfl rfl ih5
  exact g_ls (by rfl) rfl rfl hQ5

