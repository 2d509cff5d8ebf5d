theorem shr_1 : ∀ k : Nat, k < 256 → shrZ k 1 = ((k / 2 : Nat) : Int) := by decide +kernel
section GA9
variable {M : MD} {P : Pst} {kc ks pc : Nat} {ls : List (Nat × GV)} {st : List GV} {L : Nat → Nat} {A : Mem}
theorem g_alen9 {n : Nat} (hy : ly n = (9, 0)) (h0 : 0 ≤ A n 0) (hd : decode M.cc pc = .ok (.arraylength, 1)) (hn : L n ≠ 0) (kk : GW M P kc ks (pc + 1) ls (gi (A n 0) :: st) L A) : GW M P kc ks pc ls (gr n :: st) L A := by
  intro p l e R s m args below meth c D a0 L0 a H locs lsr Q F E1 E3 S hl
  have k2 := kk p l e R s m args below meth c D a0 L0 a H locs lsr Q F E1 E3 S hl
  refine va_alen (q0 := 0) (t0 := 3) (v := Int32.ofInt (A n 0)) F.1 F.2.1 F.2.2.2.2.2.2.2.2.2.2.1.1 (Wd_one S.1 hn (gcell_q hy)) rfl rfl ?_ hd k2
  show Int32.ofNat (A n 0).toNat = _
  rw [show (A n 0) = (((A n 0).toNat : Nat) : Int) by omega]
  rfl
set_option maxHeartbeats 1000000 in
/-- an object is put behind a list's row's last -/
theorem g_aast {r ci N9 : Nat} (i : Nat) (hy : ly r = (9, 0)) (hi : A r 1 = i) (h0 : (i : Int) < A r 0) (h2 : A r 0 ≤ 200) (hci : (ci = 1 ∧ N9 = 10) ∨ (ci = 3 ∧ N9 = 11)) (hyx : ly (eln r i) = (ci, N9)) (hx9 : L (eln r i) ≠ 0) (hd : decode M.cc pc = .ok (.aastore, 1)) (hn : L r ≠ 0)
    (kk : GW M P kc ks (pc + 1) ls st L (gup A r 1 (i + 1))) : GW M P kc ks pc ls (gr (eln r i) :: gi i :: gr r :: st) L A := by
  intro p l e R s m args below meth c D a0 L0 a H locs lsr Q F E1 E3 S hl
  have hE := F.2.2.2.2.2.2.2.2.2.2.1
  have hat := S.1.1 r hn
  rw [gcell_q hy] at hat
  obtain ⟨kA, comp, k1, k2, k3, -⟩ := (hE.1.2 3 _ rfl).2
  obtain ⟨kE, hkE, -⟩ := Vm.findClass_spec k3
  have hin : vp_in (Int32.ofInt (i : Int)) (A r 0).toNat := ii_in (by omega) (by omega)
  have hlt : (Int32.ofInt (i : Int)).toNatClampNeg < (A r 0).toNat := Nat.not_le.mp fun q => hin (Or.inr q)
  have hneg : ¬ Int32.ofInt (i : Int) < 0 := fun q => hin (Or.inl q)
  have key : ∀ C : String, (∃ cellV : Cell, H[a (eln r i)]? = some cellV ∧ cellV.vm.isStatics = false ∧ s.vm.findClass C = some cellV.cls) → (∀ comp c0 : ClassId, s.vm.findClass "java/lang/Object" = some comp → s.vm.findClass C = some c0 → s.vm.assignable c0 comp = true) → W p l e R s m args below meth c H locs kc ks Q (F0 m pc lsr (.ref (a (eln r i)) :: .int (Int32.ofInt (i : Int)) :: .ref (a r) :: st.map (ev a))) := by
    intro C ⟨cellV, g1, g3, g2⟩ hasg
    obtain ⟨kC, hkC, -⟩ := Vm.findClass_spec g2
    refine W.aast F.1 F.2.1 hat (fun q h => by cases h) (fun h => by cases h) k1 k2 rfl hkE ⟨hneg, by show _ < (arrV _ _ _).slots.size; rw [arrV_size]; exact hlt⟩ g1 (fun q h => by rw [h] at g3; cases g3) hkC (hasg _ _ k3 g2) rfl rfl hd fun H1 e z oq => ?_
    refine kk p l _ R s m args below meth c D a0 L0 a H1 _ lsr Q F E1 E3 (SH_put S hn (fun m hm => gup_ne hm) ?_ z oq (fun k _ h3 h4 => absurd h3 (by rw [hy]; simp)) (fun k => ?_)) hl
    · rw [gcell_q hy]
      show H1[a r]? = some (vp_cell _ _)
      rw [e, vp_cell_q, vp_cell_q, arrV_store]
      have ea : gup A r 1 (↑i + 1) r 0 = A r 0 := by simp [gup]
      rw [ea]
      congr 2
      funext j
      have eb : gup A r 1 (↑i + 1) r 1 = i + 1 := by simp [gup]
      rw [ii_nat (by omega)]
      unfold updV grow_
      rw [eb, hi]
      by_cases hj : j = i
      · subst hj
        rw [if_pos rfl, if_pos (by omega)]
        rfl
      · rw [if_neg hj]
        show va_rf (if (j : Int) < i then some (a (eln r j)) else none) = _
        by_cases hj2 : (j : Int) < i
        · rw [if_pos hj2, if_pos (by omega)]
        · rw [if_neg hj2, if_neg (by omega)]
    · by_cases e9 : k = 1
      · simp only [gup, e9, and_self, if_true]; omega
      · simp only [gup, e9, and_false, if_false]; exact S.1.2.2.2 r k
  rcases hci with ⟨h, hN⟩ | ⟨h, hN⟩ <;> subst h <;> subst hN
  · exact key "OpalField$Claim" (Wd_cls hE.1 S.1 hx9 hyx (by decide) cl_1) (vb_asgC hE.2.2.2.2.2.2.2.2.2.2.2.1)
  · exact key "OpalField$Stone" (Wd_cls hE.1 S.1 hx9 hyx (by decide) cl_3) (vb_asgC hE.2.2.2.2.2.2.2.2.2.2.2.2)
theorem g_areta {n : Nat} {t : FieldType} (hd : decode M.cc pc = .ok (.areturn, 1)) (hr : M.rt = some (.array t)) (h1 : kc ≤ M.mc) (h2 : ks ≤ M.ms) (hP : P (.inr (some (gr n))) L A) : GW M P kc ks pc ls [gr n] L A := g_ret (v := some (gr n)) hd (Or.inr (Or.inr ⟨rfl, n, rfl, Or.inr ⟨t, hr⟩⟩)) h1 h2 hP
end GA9
set_option maxRecDepth 100000 in
theorem wk_J8_200 : Cond.constant RJ8 200 (Int32.ofInt 2147483639) ∈ WS := tb_in 347 (by decide +kernel) (by decide +kernel)
set_option maxRecDepth 20000 in
theorem c_newLength {L : Nat → Nat} {A : Mem} {k w : Int} (hk : 0 < k ∧ k ≤ 200) (hw : 0 ≤ w ∧ w ≤ 200) : Ct mJ8_newLength_cabcc [gi k, gi 1, gi w] L A (pr (some (gi (k + if 1 < w then w else 1))) L A) := by
  refine Ct_of (ls := [(0, _), (1, _), (2, _)]) rfl (by decide) (fun _ => rfl) (fun _ => Nat.le_of_ble_eq_true rfl) ?_
  refine g_iload_n 0 dJ8_newLength_cabcc_0 rfl rfl ?_
  refine g_iload_n 1 dJ8_newLength_cabcc_1 rfl rfl ?_
  refine g_iload_n 2 dJ8_newLength_cabcc_2 rfl rfl ?_
  refine g_max (by omega) (by omega) wm_J8_194 wst_J9_max_7cf53 wn_J9 wo_J9_max_7cf53 (Nat.le_of_ble_eq_true rfl) (Nat.le_of_ble_eq_true rfl) (Nat.le_of_ble_eq_true rfl) dJ8_newLength_cabcc_3 ?_
  refine g_iadd dJ8_newLength_cabcc_6 ?_
  refine g_st (ls2 := [(3, _), (0, _), (1, _), (2, _)]) dJ8_newLength_cabcc_7 rfl (by decide) (c1_ci (c1_ci (c1_ci c1_0))) rfl ?_
  have hb : 0 < k + (if 1 < w then w else 1) ∧ k + (if 1 < w then w else 1) ≤ 400 := by split <;> omega
  generalize k + (if 1 < w then w else 1) = v at hb ⊢
  refine g_iconst dJ8_newLength_cabcc_8 ?_
  refine g_iload_n 0 dJ8_newLength_cabcc_9 rfl rfl ?_
  refine g_icmp_ge (tgt := 21) (by omega) (by omega) dJ8_newLength_cabcc_10 (by decide) (fun h => absurd h (by omega)) (fun h => ?_)
  refine g_iload_n 0 dJ8_newLength_cabcc_13 rfl rfl ?_
  refine g_ldci dJ8_newLength_cabcc_14 wk_J8_200 ?_
  refine g_icmp_gt (tgt := 21) (by omega) (by omega) dJ8_newLength_cabcc_16 (by decide) (fun h => absurd h (by omega)) (fun h => ?_)
  refine g_iload_n 0 dJ8_newLength_cabcc_19 rfl rfl ?_
  exact g_iret dJ8_newLength_cabcc_20 rfl (Nat.le_of_ble_eq_true rfl) (Nat.le_of_ble_eq_true rfl) (pr_i rfl rfl)
/-- an empty list -/
def LsE (L : Nat → Nat) (A : Mem) (n : Nat) : Prop := L n = 2 ∧ L (n + 2) = 0 ∧ A n 1 = 1 ∧ A n 2 = 0 ∧ ∀ j, A (n + 2) j = 0
/-- a list with objects of the kind ci -/
def LsF (L : Nat → Nat) (A : Mem) (n ci : Nat) : Prop := L n = 2 ∧ L (n + 2) = 2 ∧ A n 1 = 2 ∧ A (n + 2) 1 = A n 2 ∧ 0 < A n 2 ∧ A n 2 ≤ A (n + 2) 0 ∧ A (n + 2) 0 ≤ 150 ∧ (ci = 1 ∨ ci = 3) ∧ ∀ j : Nat, (j : Int) < A n 2 → L (eln (n + 2) j) ≠ 0 ∧ ∃ N, ly (eln (n + 2) j) = (ci, N)
theorem ly_n {n : Nat} (h : n = 2 ∨ n = 3) : ly n = (0, 3) ∧ ly (n + 2) = (9, 0) := by rcases h with rfl | rfl <;> exact ⟨rfl, rfl⟩
/-- an empty list's NoRef -/
theorem nr_first {L : Nat → Nat} {A : Mem} {n : Nat} (hn : n = 2 ∨ n = 3) (h1 : A n 1 = 1) (h0 : L (n + 2) = 0) : NoRef L A (n + 2) := by
  intro m hm
  have hmr : m ≠ n + 2 := fun h => hm (by rw [h]; exact h0)
  by_cases e : m = n
  · have hy := (ly_n hn).1
    rw [e]
    refine ⟨by omega, fun k hk hr _ => ?_, fun _ _ => Or.inr h1, fun h9 => ?_⟩
    · rw [hy] at hr; exact absurd hr (by simp [rfk])
    · rw [hy] at h9; exact absurd h9 (by decide)
  · exact nr_row (L := L) (A := A) hn m (by rw [gset_ne hmr, gset_ne e]; exact hm)
set_option maxRecDepth 20000 in
theorem c_growE {L : Nat → Nat} {A : Mem} {n : Nat} (hn : n = 2 ∨ n = 3) (h : LsE L A n) : Ct mJx4a65c_grow_92f84 [gr n, gi 1] L A (pr (some (gr (n + 2))) (gset L (n + 2) 2) (gup (gup A (n + 2) 0 10) n 1 2)) := by
  obtain ⟨h1, h2, h3, h4, h5⟩ := h
  obtain ⟨hy, hy2⟩ := ly_n hn
  have ez : gz A (n + 2) = A := by funext m j; by_cases h : m = n + 2 <;> simp [gz, h, h5]
  refine Ct_of (ls := [(0, _), (1, _)]) rfl (by decide) (fun _ => rfl) (fun _ => Nat.le_of_ble_eq_true rfl) ?_
  refine g_aload_n 0 dJx4a65c_grow_92f84_0 rfl rfl ?_
  refine g_lenE hy h3 wf_Jx4a65c_9 dJx4a65c_grow_92f84_1 dJx4a65c_grow_92f84_4 (n2 h1) ?_
  refine g_st (ls2 := [(2, _), (0, _), (1, _)]) dJx4a65c_grow_92f84_5 rfl (by decide) (c1_cr (c1_ci c1_0)) rfl ?_
  refine g_iload_n 0 dJx4a65c_grow_92f84_6 rfl rfl ?_
  refine g_if_gt (tgt := 20) (by omega) dJx4a65c_grow_92f84_7 (by decide) (fun h => absurd h (by omega)) (fun h => ?_)
  refine g_aload_n 1 dJx4a65c_grow_92f84_10 rfl rfl ?_
  refine g_acmpE (tgt := 45) hy h3 wf_Jx4a65c_9 wf_Jx4a65c_39 dJx4a65c_grow_92f84_11 dJx4a65c_grow_92f84_14 dJx4a65c_grow_92f84_17 (by decide) (n2 h1) ?_
  refine g_aload_n 1 dJx4a65c_grow_92f84_45 rfl rfl ?_
  refine g_bipush dJx4a65c_grow_92f84_46 (by decide) ?_
  refine g_iload_n 2 dJx4a65c_grow_92f84_48 rfl rfl ?_
  refine g_max (by omega) (by omega) wm_Jx4a65c_79 wst_J9_max_7cf53 wn_J9 wo_J9_max_7cf53 (Nat.le_of_ble_eq_true rfl) (Nat.le_of_ble_eq_true rfl) (Nat.le_of_ble_eq_true rfl) dJx4a65c_grow_92f84_49 ?_
  refine g_anewl (n := n) (N := 10) (ls := [(2, _), (0, _), (1, _)]) (st := []) hy hy2 (by decide) rfl (n2 h1) h2 h3 (nr_first hn h3 h2) ⟨(by simp only [List.forall_mem_cons]; exact ⟨okv_i _, okv_r (n2 h1) (by rw [hy]; decide), okv_i _, fun _ h => absurd h List.not_mem_nil⟩), fun _ h => absurd h List.not_mem_nil⟩ (Nat.le_of_ble_eq_true rfl) (Nat.le_of_ble_eq_true rfl) wc_Jx4a65c_7 wf_Jx4a65c_9 dJx4a65c_grow_92f84_52 dJx4a65c_grow_92f84_55 dJx4a65c_grow_92f84_56 ?_
  rw [ez]
  exact g_areta dJx4a65c_grow_92f84_59 rfl (Nat.le_of_ble_eq_true rfl) (Nat.le_of_ble_eq_true rfl) (pr_mk rfl rfl rfl)
set_option maxRecDepth 20000 in
theorem c_growF {L : Nat → Nat} {A : Mem} {n ci k : Nat} (hn : n = 2 ∨ n = 3) (h : LsF L A n ci) (hk : A n 2 = k) (hf : A (n + 2) 0 = k) (hk1 : k ≤ 99) : Ct mJx4a65c_grow_92f84 [gr n, gi ((k : Int) + 1)] L A (pr (some (gr (n + 2))) L (gup A (n + 2) 0 ((k + (if 1 < k / 2 then k / 2 else 1) : Nat) : Int))) := by
  obtain ⟨h1, h2, h3, h4, h5, h6, h7, h8, h9⟩ := h
  obtain ⟨hy, hy2⟩ := ly_n hn
  refine Ct_of (ls := [(0, _), (1, _)]) rfl (by decide) (fun _ => rfl) (fun _ => Nat.le_of_ble_eq_true rfl) ?_
  refine g_aload_n 0 dJx4a65c_grow_92f84_0 rfl rfl ?_
  refine g_getdata hy h3 wf_Jx4a65c_9 dJx4a65c_grow_92f84_1 (n2 h1) ?_
  refine g_alen9 hy2 (by omega) dJx4a65c_grow_92f84_4 (n2 h2) ?_
  rw [hf]
  refine g_st (ls2 := [(2, _), (0, _), (1, _)]) dJx4a65c_grow_92f84_5 rfl (by decide) (c1_cr (c1_ci c1_0)) rfl ?_
  refine g_iload_n 0 dJx4a65c_grow_92f84_6 rfl rfl ?_
  refine g_if_gt (tgt := 20) (by omega) dJx4a65c_grow_92f84_7 (by decide) (fun h => ?_) (fun h => absurd h (by omega))
  refine g_iload_n 0 dJx4a65c_grow_92f84_20 rfl rfl ?_
  refine g_iload_n 2 dJx4a65c_grow_92f84_21 rfl rfl ?_
  refine g_iload_n 0 dJx4a65c_grow_92f84_22 rfl rfl ?_
  refine g_isub dJx4a65c_grow_92f84_23 ?_
  refine g_iload_n 0 dJx4a65c_grow_92f84_24 rfl rfl ?_
  refine g_iconst dJx4a65c_grow_92f84_25 ?_
  refine g_ishr (x := k) (i := 1) dJx4a65c_grow_92f84_26 ?_
  rw [shr_1 k (by omega), show (k : Int) + 1 - k = 1 by omega]
  refine g_cT_i (My := mJ8_newLength_cabcc) (gs := [_, _, _]) (c_newLength (by omega) (by omega)) mfJ8_newLength_cabcc wst_J8_newLength_cabcc wm_Jx4a65c_73 dJx4a65c_grow_92f84_27 (Nat.le_of_ble_eq_true rfl) rfl (fun _ => Nat.le_of_ble_eq_true rfl) (Nat.le_of_ble_eq_true rfl) (Nat.le_of_ble_eq_true rfl) rfl rfl ?_
  rw [show (k : Int) + (if 1 < ((k / 2 : Nat) : Int) then ((k / 2 : Nat) : Int) else 1) = ((k + (if 1 < k / 2 then k / 2 else 1) : Nat) : Int) by split <;> split <;> omega]
  refine g_st (ls2 := [(3, _), (2, _), (0, _), (1, _)]) dJx4a65c_grow_92f84_30 rfl (by decide) (c1_ci (c1_cr (c1_ci c1_0))) rfl ?_
  refine g_aload_n 2 dJx4a65c_grow_92f84_31 rfl rfl ?_
  refine g_aload_n 2 dJx4a65c_grow_92f84_32 rfl rfl ?_
  refine g_getdata hy h3 wf_Jx4a65c_9 dJx4a65c_grow_92f84_33 (n2 h1) ?_
  refine g_iload_n 0 dJx4a65c_grow_92f84_36 rfl rfl ?_
  refine g_growt (n := n) (n0 := k) hn hy hy2 rfl (n2 h1) h2 h3 hf (by omega) ⟨by omega, by split <;> omega⟩ h8 (fun j hj => h9 j (by omega)) (fun _ h => absurd h List.not_mem_nil) (Nat.le_of_ble_eq_true rfl) (Nat.le_of_ble_eq_true rfl) (fun _ => Nat.le_of_ble_eq_true rfl) wm_Jx4a65c_66 wf_Jx4a65c_9 (Nat.le_of_ble_eq_true rfl) dJx4a65c_grow_92f84_37 dJx4a65c_grow_92f84_40 dJx4a65c_grow_92f84_41 ?_
  exact g_areta dJx4a65c_grow_92f84_44 rfl (Nat.le_of_ble_eq_true rfl) (Nat.le_of_ble_eq_true rfl) (pr_mk rfl rfl rfl)
set_option maxRecDepth 20000 in
theorem c_grow1 {L L2 : Nat → Nat} {A A2 : Mem} {n : Nat} (hn : n = 2 ∨ n = 3) (h1 : L n = 2) (hC : Ct mJx4a65c_grow_92f84 [gr n, gi (A n 2 + 1)] L A (pr (some (gr (n + 2))) L2 A2)) : Ct mJx4a65c_grow_d5877 [gr n] L A (pr (some (gr (n + 2))) L2 A2) := by
  obtain ⟨hy, hy2⟩ := ly_n hn
  refine Ct_of (ls := [(0, _)]) rfl (by decide) (fun _ => rfl) (fun _ => Nat.le_of_ble_eq_true rfl) ?_
  refine g_aload_n 0 dJx4a65c_grow_d5877_0 rfl rfl ?_
  refine g_aload_n 0 dJx4a65c_grow_d5877_1 rfl rfl ?_
  refine g_getfi cf_0 2 hy (by decide) (by decide) rfl (by decide) wf_Jx4a65c_48 dJx4a65c_grow_d5877_2 (n2 h1) (fun _ => ?_)
  refine g_iconst dJx4a65c_grow_d5877_5 ?_
  refine g_iadd dJx4a65c_grow_d5877_6 ?_
  refine g_cVB_i (My := mJx4a65c_grow_92f84) (gs := [_]) hC mfJx4a65c_grow_92f84 cf_0 wi_Jx4a65c_grow_92f84 wsl_Jx4a65c_grow_92f84 wm_Jx4a65c_69 dJx4a65c_grow_d5877_7 (Nat.le_of_ble_eq_true rfl) hy (by decide) (n2 h1) rfl (fun _ => Nat.le_of_ble_eq_true rfl) (Nat.le_of_ble_eq_true rfl) (Nat.le_of_ble_eq_true rfl) rfl ⟨(by simp only [List.forall_mem_cons]; exact ⟨okv_r (n2 h1) (by rw [hy]; decide), fun _ h => absurd h List.not_mem_nil⟩), fun _ h => absurd h List.not_mem_nil⟩ rfl ?_
  exact g_areta dJx4a65c_grow_d5877_10 rfl (Nat.le_of_ble_eq_true rfl) (Nat.le_of_ble_eq_true rfl) (pr_mk rfl rfl rfl)

def capF (k c : Nat) : Nat := if k = c then k + (if 1 < k / 2 then k / 2 else 1) else c
set_option maxRecDepth 20000 in
theorem c_add3F {L : Nat → Nat} {A : Mem} {n ci k c9 N9 : Nat} (hn : n = 2 ∨ n = 3) (h : LsF L A n ci) (hk : A n 2 = k) (hc9 : A (n + 2) 0 = c9) (hk1 : k ≤ 99) (hci : (ci = 1 ∧ N9 = 10) ∨ (ci = 3 ∧ N9 = 11)) (hx : L (eln (n + 2) k) = 2) (hyx : ly (eln (n + 2) k) = (ci, N9)) :
    Ct mJx4a65c_add_72be8 [gr n, gr (eln (n + 2) k), gr (n + 2), gi k] L A (pr none L (gup (gup (gup A (n + 2) 0 (capF k c9)) (n + 2) 1 ((k : Int) + 1)) n 2 ((k : Int) + 1))) := by
  obtain ⟨h1, h2, h3, h4, h5, h6, h7, h8, h9⟩ := id h
  obtain ⟨hy, hy2⟩ := ly_n hn
  have hx9 : (ly (eln (n + 2) k)).1 ≠ 9 := by rw [hyx]; rcases hci with ⟨h, _⟩ | ⟨h, _⟩ <;> rw [h] <;> simp
  refine Ct_of (ls := [(0, _), (1, _), (2, _), (3, _)]) rfl (by decide) (fun _ => rfl) (fun _ => Nat.le_of_ble_eq_true rfl) ?_
  refine g_iload_n 3 dJx4a65c_add_72be8_0 rfl rfl ?_
  refine g_aload_n 2 dJx4a65c_add_72be8_1 rfl rfl ?_
  refine g_alen9 hy2 (by omega) dJx4a65c_add_72be8_2 (n2 h2) ?_
  rw [hc9]
  refine g_icmp_ne (tgt := 11) (by omega) (by omega) dJx4a65c_add_72be8_3 (by decide) (fun hne => ?_) (fun heq => ?_)
  · refine g_aload_n 2 dJx4a65c_add_72be8_11 rfl rfl ?_
    refine g_iload_n 3 dJx4a65c_add_72be8_12 rfl rfl ?_
    refine g_aload_n 1 dJx4a65c_add_72be8_13 rfl rfl ?_
    refine g_aast (r := n + 2) (ci := ci) (N9 := N9) k hy2 (by omega) (by omega) (by omega) hci hyx (n2 hx) dJx4a65c_add_72be8_14 (n2 h2) ?_
    refine g_aload_n 0 dJx4a65c_add_72be8_15 rfl rfl ?_
    refine g_iload_n 3 dJx4a65c_add_72be8_16 rfl rfl ?_
    refine g_iconst dJx4a65c_add_72be8_17 ?_
    refine g_iadd dJx4a65c_add_72be8_18 ?_
    refine g_putfi cf_0 2 hy (by decide) (by decide) rfl (by decide) wf_Jx4a65c_48 (Or.inl rfl) rfl dJx4a65c_add_72be8_19 (n2 h1) (by omega) ?_
    refine g_vret dJx4a65c_add_72be8_22 rfl (Nat.le_of_ble_eq_true rfl) (Nat.le_of_ble_eq_true rfl) (pr_v ?_)
    have e : gup A (n + 2) 0 (capF k c9) = A := by
      funext m j
      have e1 : capF k c9 = c9 := by unfold capF; rw [if_neg (by omega)]
      rw [gup_ap, e1]
      by_cases h : m = n + 2 ∧ j = 0
      · rw [if_pos h, h.1, h.2, hc9]
      · rw [if_neg h]
    rw [e]
  · refine g_aload_n 0 dJx4a65c_add_72be8_6 rfl rfl ?_
    have ek : k = c9 := by omega
    have hg := c_grow1 (A := A) hn h1 (L2 := L) (A2 := gup A (n + 2) 0 ((k + (if 1 < k / 2 then k / 2 else 1) : Nat) : Int)) (by rw [hk]; exact c_growF hn h hk (by omega) hk1)
    refine g_sub [0, 1, 3] (ls2 := [(0, _), (1, _), (3, _)]) rfl ?_
    refine g_cVB_i (My := mJx4a65c_grow_d5877) (gs := []) hg mfJx4a65c_grow_d5877 cf_0 wi_Jx4a65c_grow_d5877 wsl_Jx4a65c_grow_d5877 wm_Jx4a65c_129 dJx4a65c_add_72be8_7 (Nat.le_of_ble_eq_true rfl) hy (by decide) (n2 h1) rfl (fun _ => Nat.le_of_ble_eq_true rfl) (Nat.le_of_ble_eq_true rfl) (Nat.le_of_ble_eq_true rfl) rfl ⟨(by simp only [List.forall_mem_cons]; exact ⟨okv_r (n2 h1) (by rw [hy]; decide), okv_r (n2 hx) hx9, okv_i _, fun _ h => absurd h List.not_mem_nil⟩), fun _ h => absurd h List.not_mem_nil⟩ rfl ?_
    refine g_sa (ls2 := [(2, _), (0, _), (1, _), (3, _)]) dJx4a65c_add_72be8_10 rfl (by decide) (c1_cr (c1_cr (c1_ci c1_0))) rfl ?_
    refine g_aload_n 0 dJx4a65c_add_72be8_11 rfl rfl ?_
    refine g_iload_n 3 dJx4a65c_add_72be8_12 rfl rfl ?_
    refine g_aload_n 2 dJx4a65c_add_72be8_13 rfl rfl ?_
    refine g_aast (r := n + 2) (ci := ci) (N9 := N9) k hy2 (by simp only [gup_ap]; rw [if_neg (by omega)]; omega) (by rw [gup_ap, if_pos ⟨rfl, rfl⟩]; split <;> omega) (by rw [gup_ap, if_pos ⟨rfl, rfl⟩]; split <;> omega) hci hyx (n2 hx) dJx4a65c_add_72be8_14 (n2 h2) ?_
    refine g_aload_n 1 dJx4a65c_add_72be8_15 rfl rfl ?_
    refine g_iload_n 3 dJx4a65c_add_72be8_16 rfl rfl ?_
    refine g_iconst dJx4a65c_add_72be8_17 ?_
    refine g_iadd dJx4a65c_add_72be8_18 ?_
    refine g_putfi cf_0 2 hy (by decide) (by decide) rfl (by decide) wf_Jx4a65c_48 (Or.inl rfl) rfl dJx4a65c_add_72be8_19 (n2 h1) (by omega) ?_
    refine g_vret dJx4a65c_add_72be8_22 rfl (Nat.le_of_ble_eq_true rfl) (Nat.le_of_ble_eq_true rfl) (pr_v ?_)
    rw [capF, if_pos ek]
/-- a contract whose arguments hold the shared empty row -/
def CtD (M : MD) (gs : Nat → List GV) (L0 : Nat → Nat) (A0 : Mem) (P : Pst) : Prop := ∀ (l : Launch), l.stackTraces = false → ∀ (D : GD) (a0 : Nat → Nat) (sz : Nat),
  vx_Met l M.y (wsd M) (rmd M) (CtP D a0 L0 A0 sz (gs D.2.2)) (CtQ M D a0 L0 P sz) (CtX M D a0 L0 P sz) M.mc M.ms (fpt a0 L0 sz)
set_option maxHeartbeats 1000000 in
theorem CtD_of {M : MD} {gs : Nat → List GV} {ls : Nat → List (Nat × GV)} {L : Nat → Nat} {A : Mem} {P : Pst} (hh : M.hh = []) (hy : plainName M.y.cls = true) (hls : ∀ eD a, lv_args 0 ((gs eD).map (ev a)) = (ls eD).map fun q => (q.1, ev a q.2)) (hle : ∀ eD a, (lg_sl ((gs eD).map (ev a))).length ≤ M.nL)
    (k : ∀ (p : Program) (l : Launch) (e : Env) (R : Room) (s : State) (m : MethodId) (args : Array Value) (below : List Frame) (meth : Method) (c : Code) (D : GD) (a0 L0 a : Nat → Nat) (H : Heap) (locs : List Loc) (lsr : Array Slot) (Q : State → Prop),
      FX M p l R s m args meth c D a0 L0 → EN M P p l e R s m args below meth c D a0 L0 Q → EN3 M P p l e R s m args below meth c D a0 L0 Q → SH M D a0 L0 s a L A H locs → lv_has lsr M.nL ((ls D.2.2).map fun q => (q.1, ev a q.2)) → W p l e R s m args below meth c H locs 0 0 Q (F0 m 0 lsr [])) : CtD M gs L A P := by
  intro l hl D a0 sz
  refine vx_ofW (cc := M.cc) (maxL := M.nL) (ret := M.rt) (ws' := WS) hy (by unfold wsd; rw [if_pos hh]) ?_
  intro p e s m args below meth c s₁ B hml hex hv
  obtain ⟨rfl, hsz, hW, hE⟩ := hv
  subst hsz
  have hts := atoms_spec (ws := wsd M) B.pre
  have hF : FX M p l (headSpec (wsd M) (rmd M)).room s m ((gs D.2.2).map (ev a0)).toArray meth c D a0 L := by
    refine ⟨B.exec, B.bytes, hml, findClass_of_methodNamed B.named, fun w hw => hts w (List.mem_cons_of_mem _ hw), B.notSynchronized, B.returns, (name_of_methodNamed B.named B.method).1, hl, ?_, hE, Nat.le_refl _, Nat.le_refl _, Nat.le_refl _, Nat.le_refl _⟩
    rw [hh]
    cases h9 : c.exceptionTable.toList with
    | nil => rfl
    | cons x r => exact absurd (by rw [h9]; exact List.mem_cons_self) (fun h => hex x h)
  have hl0 := lv_entry ((gs D.2.2).map (ev a0)) (n := M.nL) (hle _ a0)
  rw [lg_entry_eq]
  generalize (lg_sl ((gs D.2.2).map (ev a0)) ++ List.replicate (M.nL - (lg_sl ((gs D.2.2).map (ev a0))).length) Slot.unset).toArray = lsr at hl0 ⊢
  rw [hls] at hl0
  exact k p l e _ s m _ below meth c D a0 L a0 s.heap [] lsr _ hF (en_std hF) (en3_std hF) ⟨hW, fun n hn => Or.inl ⟨n, hn, rfl⟩, fun _ _ _ => rfl, fun _ h => h, fun _ => ⟨rfl, rfl⟩, va_S.rf⟩ hl0
set_option maxRecDepth 20000 in
theorem c_add3E {L : Nat → Nat} {A : Mem} {n ci N9 : Nat} (hn : n = 2 ∨ n = 3) (h : LsE L A n) (hci : (ci = 1 ∧ N9 = 10) ∨ (ci = 3 ∧ N9 = 11)) (hx : L (eln (n + 2) 0) = 2) (hyx : ly (eln (n + 2) 0) = (ci, N9)) :
    CtD mJx4a65c_add_72be8 (fun eD => [gr n, gr (eln (n + 2) 0), gx eD, gi 0]) L A (pr none (gset L (n + 2) 2) (gup (gup (gup (gup A (n + 2) 0 10) n 1 2) (n + 2) 1 1) n 2 1)) := by
  obtain ⟨h1, h2, h3, h4, h5⟩ := id h
  obtain ⟨hy, hy2⟩ := ly_n hn
  have hx9 : (ly (eln (n + 2) 0)).1 ≠ 9 := by rw [hyx]; rcases hci with ⟨h, _⟩ | ⟨h, _⟩ <;> rw [h] <;> simp
  have hxn : eln (n + 2) 0 ≠ n + 2 := by unfold eln; split <;> omega
  refine CtD_of (ls := fun eD => [(0, gr n), (1, gr (eln (n + 2) 0)), (2, gx eD), (3, gi 0)]) rfl (by decide) (fun _ _ => rfl) (fun _ _ => Nat.le_of_ble_eq_true rfl) ?_
  have kk : GW mJx4a65c_add_72be8 (pr none (gset L (n + 2) 2) (gup (gup (gup (gup A (n + 2) 0 10) n 1 2) (n + 2) 1 1) n 2 1)) 0 0 6 [(0, gr n), (1, gr (eln (n + 2) 0)), (3, gi 0)] [] L A := by
    refine g_aload_n 0 dJx4a65c_add_72be8_6 rfl rfl ?_
    have hg := c_grow1 (A := A) hn h1 (L2 := gset L (n + 2) 2) (A2 := gup (gup A (n + 2) 0 10) n 1 2) (by rw [h4]; exact c_growE hn h)
    refine g_cVB_i (My := mJx4a65c_grow_d5877) (gs := []) hg mfJx4a65c_grow_d5877 cf_0 wi_Jx4a65c_grow_d5877 wsl_Jx4a65c_grow_d5877 wm_Jx4a65c_129 dJx4a65c_add_72be8_7 (Nat.le_of_ble_eq_true rfl) hy (by decide) (n2 h1) rfl (fun _ => Nat.le_of_ble_eq_true rfl) (Nat.le_of_ble_eq_true rfl) (Nat.le_of_ble_eq_true rfl) rfl ⟨(by simp only [List.forall_mem_cons]; exact ⟨okv_r (n2 h1) (by rw [hy]; decide), okv_r (n2 hx) hx9, okv_i _, fun _ h => absurd h List.not_mem_nil⟩), fun _ h => absurd h List.not_mem_nil⟩ rfl ?_
    refine g_sa (ls2 := [(2, _), (0, _), (1, _), (3, _)]) dJx4a65c_add_72be8_10 rfl (by decide) (c1_cr (c1_cr (c1_ci c1_0))) rfl ?_
    refine g_aload_n 0 dJx4a65c_add_72be8_11 rfl rfl ?_
    refine g_iload_n 3 dJx4a65c_add_72be8_12 rfl rfl ?_
    refine g_aload_n 2 dJx4a65c_add_72be8_13 rfl rfl ?_
    have e1 : gup (gup A (n + 2) 0 10) n 1 2 (n + 2) 1 = 0 := by simp [gup, h5]
    have e0 : gup (gup A (n + 2) 0 10) n 1 2 (n + 2) 0 = 10 := by simp [gup]
    refine g_aast (r := n + 2) (ci := ci) (N9 := N9) 0 hy2 (by rw [e1]; rfl) (by rw [e0]; omega) (by rw [e0]; omega) hci hyx (by rw [gset_ne hxn]; exact n2 hx) dJx4a65c_add_72be8_14 (by rw [gset_eq]; decide) ?_
    refine g_aload_n 1 dJx4a65c_add_72be8_15 rfl rfl ?_
    refine g_iload_n 3 dJx4a65c_add_72be8_16 rfl rfl ?_
    refine g_iconst dJx4a65c_add_72be8_17 ?_
    refine g_iadd dJx4a65c_add_72be8_18 ?_
    refine g_putfi cf_0 2 hy (by decide) (by decide) rfl (by decide) wf_Jx4a65c_48 (Or.inl rfl) rfl dJx4a65c_add_72be8_19 (by rw [gset_ne (by omega)]; exact n2 h1) (by omega) ?_
    exact g_vret dJx4a65c_add_72be8_22 rfl (Nat.le_of_ble_eq_true rfl) (Nat.le_of_ble_eq_true rfl) (pr_v rfl)
  intro p l e R s m args below meth c D a0 L0 a H locs lsr Q F E1 E3 S hl
  have hl3 : lv_has lsr 4 ([(0, gr n), (1, gr (eln (n + 2) 0)), (3, gi 0)].map fun q => (q.1, ev a q.2)) := ⟨hl.1, hl.2.1, fun q hq => hl.2.2 q (by simp only [List.map_cons, List.map_nil, List.mem_cons, List.not_mem_nil, or_false] at hq ⊢; rcases hq with h | h | h <;> simp [h])⟩
  have k2 := kk p l e R s m args below meth c D a0 L0 a H locs lsr Q F E1 E3 S hl3
  refine lv_iload_n F.1 F.2.1 (i := 3) dJx4a65c_add_72be8_0 rfl (lv_at hl 3 rfl) ?_
  refine lv_aload_n F.1 F.2.1 (i := 2) dJx4a65c_add_72be8_1 rfl (lv_at hl 2 rfl) ?_
  refine va_tlen (v := Int32.ofInt 0) F.1 F.2.1 F.2.2.2.2.2.2.2.2.2.2.1.2.2.2.2.1 S.2.2.2.2.2 rfl dJx4a65c_add_72be8_2 ?_
  exact lv_icmp_ne (tgt := 11) F.1 F.2.1 dJx4a65c_add_72be8_3 (by decide) (fun h => absurd rfl h) (fun _ => k2)

