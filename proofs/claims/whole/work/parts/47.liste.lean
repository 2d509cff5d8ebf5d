set_option maxRecDepth 100000 in
theorem wsf_mc : Cond.sameField RJx4a65c "java/util/AbstractList" "modCount" "I" ∈ WS := tb_in 83 (by decide +kernel) (by decide +kernel)
section GMC
variable {M : MD} {P : Pst} {kc ks pc : Nat} {ls : List (Nat × GV)} {st : List GV} {L : Nat → Nat} {A : Mem}
theorem g_getmc {n ix : Nat} (hy : ly n = (0, 3)) (hw : Cond.fieldLink M.y.cls ix "java/util/ArrayList" "modCount" "I" ∈ WS) (hd : decode M.cc pc = .ok (.getfield ix, 3)) (hn : L n ≠ 0)
    (kk : GW M P kc ks (pc + 3) ls (gi (A n 0) :: st) L A) : GW M P kc ks pc ls (gr n :: st) L A := by
  intro p l e R s m args below meth c D a0 L0 a H locs lsr Q F E1 E3 S hl
  have k2 := kk p l e R s m args below meth c D a0 L0 a H locs lsr Q F E1 E3 S hl
  refine va_get (q0 := 0) (ci := 0) F.1 F.2.1 F.2.2.2.2.1 cf_0.2.1 F.2.2.2.1 F.2.2.2.2.2.2.2.2.2.2.1.1 (Wd_one S.1 hn (gcell_o hy (by decide))) rfl cf_0.1 0 (by decide) (F.2.2.2.2.1 _ hw) (fun x h => u_same (F.2.2.2.2.1 _ wsf_mc) x h) (v := .int (Int32.ofInt (A n 0))) ?_ hd k2
  rw [List.getElem?_map, List.getElem?_range (by decide)]
  simp [gfd, rfk]
set_option maxHeartbeats 1000000 in
theorem g_putmc {n ix : Nat} {z : Int} (hy : ly n = (0, 3)) (hz : -2147483648 ≤ z ∧ z < 2147483648) (hw : Cond.fieldLink M.y.cls ix "java/util/ArrayList" "modCount" "I" ∈ WS) (hd : decode M.cc pc = .ok (.putfield ix, 3)) (hn : L n ≠ 0)
    (kk : GW M P kc ks (pc + 3) ls st L (gup A n 0 z)) : GW M P kc ks pc ls (gi z :: gr n :: st) L A := by
  intro p l e R s m args below meth c D a0 L0 a H locs lsr Q F E1 E3 S hl
  obtain ⟨hx, hb, hml, hown, hws, hlocks, hrt, hnm, hlt, htab, hE, hR⟩ := id F
  have hK := hE.1
  have hF := cf_0
  have hat := S.1.1 n hn
  rw [gcell_o hy (by decide)] at hat
  obtain ⟨r, h1, cell, q1, q2, q3, q4⟩ := hat
  have hr : r = (RJx4a65c, TJx4a65c, 3) := Option.some.inj (h1.symm.trans hF.1)
  subst hr
  have hap := va_apart (own := M.y.cls) hws hF.2.1 tyJx4a65c hF.2.2.1 hF.2.2.2 hK hF.1
  obtain ⟨hS, hfc, kC, hkC, hkind⟩ := hK.1 0 _ hF.1
  obtain ⟨cf, kf, fi, f9, hi, hsl⟩ := hS 0 (by decide)
  have hlay := hws _ (hF.2.1 _ (u_in_lay (k := 0) (by decide)))
  have hst := (u_facts hfc hkC (u_lays hws hF.2.1 (k := 0) (by decide)) hi).1
  unfold u_lay at hlay
  rw [if_neg (by decide)] at hlay
  have h6 := u_store (v := .int (Int32.ofInt z)) hfc hkC hkind hlay hi (hF.2.2.1 0 (by decide)) rfl rfl
  refine W.putK hx hb (f := f9) ⟨hown, hws _ hw, ⟨_, _, _, u_same (hws _ wsf_mc) _ hi⟩, hst⟩ (by rw [q2]; exact h6) q1 q3 (by rw [hsl]; exact k2_hasslot (q4 0 (by decide))) rfl rfl hd (fun H' e1 e2 e3 => ?_)
  rw [hsl] at e1
  refine kk p l e R s m args below meth c D a0 L0 a H' _ lsr Q F E1 E3 (SH_put S hn (fun m hm => gup_ne hm) ?_ e2 e3 (fun k _ h3 h4 => ?_) (fun k => ?_)) hl
  · rw [gcell_o hy (by decide)]
    refine ⟨_, hF.1, t_OB.to (V := updV (vp_V ((List.range 3).map (gfd D.2.2 a A 0 n))) 0 (.int (Int32.ofInt z))) ⟨_, e1, q2, q3, t_set q4 hap (by decide) _⟩ (fun j hj => ?_)⟩
    have hj3 : j < 3 := hj
    rcases (show j = 0 ∨ j = 1 ∨ j = 2 by omega) with rfl | rfl | rfl
    · simp [updV, vp_V, gfd, gup, rfk, List.getD]
    · simp [updV, vp_V, gfd, gup, rfk, List.getD]
    · simp [updV, vp_V, gfd, gup, rfk, List.getD]
  · rw [hy] at h4; exact absurd h4 (by simp [rfk])
  · by_cases e : k = 0
    · simp only [gup, e, and_self, if_true]; exact hz
    · simp only [gup, e, and_false, if_false]; exact S.1.2.2.2 n k
end GMC
set_option maxRecDepth 20000 in
/-- an object is put behind a list's last -/
theorem c_addF {L : Nat → Nat} {A : Mem} {n ci k c9 N9 : Nat} (hn : n = 2 ∨ n = 3) (h : LsF L A n ci) (hk : A n 2 = k) (hc9 : A (n + 2) 0 = c9) (hk1 : k ≤ 99) (hci : (ci = 1 ∧ N9 = 10) ∨ (ci = 3 ∧ N9 = 11)) (hx : L (eln (n + 2) k) = 2) (hyx : ly (eln (n + 2) k) = (ci, N9)) (hm : 0 ≤ A n 0 ∧ A n 0 ≤ 1000) :
    Ct mJx4a65c_add_9ea2d [gr n, gr (eln (n + 2) k)] L A (pr (some (gi 1)) L (gup (gup (gup (gup A n 0 (A n 0 + 1)) (n + 2) 0 (capF k c9)) (n + 2) 1 ((k : Int) + 1)) n 2 ((k : Int) + 1))) := by
  obtain ⟨h1, h2, h3, h4, h5, h6, h7, h8, h9⟩ := id h
  obtain ⟨hy, hy2⟩ := ly_n hn
  have hx9 : (ly (eln (n + 2) k)).1 ≠ 9 := by rw [hyx]; rcases hci with ⟨h, _⟩ | ⟨h, _⟩ <;> rw [h] <;> simp
  have hnn : n + 2 ≠ n := by omega
  have h' : LsF L (gup A n 0 (A n 0 + 1)) n ci := by
    have e1 : gup A n 0 (A n 0 + 1) n 1 = A n 1 := by simp [gup]
    have e2 : gup A n 0 (A n 0 + 1) n 2 = A n 2 := by simp [gup]
    unfold LsF
    rw [e1, e2, gup_ne hnn]
    exact h
  refine Ct_of (ls := [(0, _), (1, _)]) rfl (by decide) (fun _ => rfl) (fun _ => Nat.le_of_ble_eq_true rfl) ?_
  refine g_aload_n 0 dJx4a65c_add_9ea2d_0 rfl rfl ?_
  refine g_dup dJx4a65c_add_9ea2d_1 (c1_r _) ?_
  refine g_getmc hy wf_Jx4a65c_63 dJx4a65c_add_9ea2d_2 (n2 h1) ?_
  refine g_iconst dJx4a65c_add_9ea2d_5 ?_
  refine g_iadd dJx4a65c_add_9ea2d_6 ?_
  refine g_putmc hy (by omega) wf_Jx4a65c_63 dJx4a65c_add_9ea2d_7 (n2 h1) ?_
  refine g_aload_n 0 dJx4a65c_add_9ea2d_10 rfl rfl ?_
  refine g_aload_n 1 dJx4a65c_add_9ea2d_11 rfl rfl ?_
  refine g_aload_n 0 dJx4a65c_add_9ea2d_12 rfl rfl ?_
  refine g_getdata hy (by rw [show gup A n 0 (A n 0 + 1) n 1 = A n 1 by simp [gup]]; exact h3) wf_Jx4a65c_9 dJx4a65c_add_9ea2d_13 (n2 h1) ?_
  refine g_aload_n 0 dJx4a65c_add_9ea2d_16 rfl rfl ?_
  refine g_getfi cf_0 2 hy (by decide) (by decide) rfl (by decide) wf_Jx4a65c_48 dJx4a65c_add_9ea2d_17 (n2 h1) (fun _ => ?_)
  rw [show gup A n 0 (A n 0 + 1) n 2 = k by simp [gup, hk]]
  refine g_cVB_v (My := mJx4a65c_add_72be8) (gs := [_, _, _]) (c_add3F (c9 := c9) hn h' (by simp [gup, hk]) (by rw [gup_ne hnn]; exact hc9) hk1 hci hx hyx) mfJx4a65c_add_72be8 cf_0 wi_Jx4a65c_add_72be8 wsl_Jx4a65c_add_72be8 wm_Jx4a65c_131 dJx4a65c_add_9ea2d_20 (Nat.le_of_ble_eq_true rfl) hy (by decide) (n2 h1) rfl (fun _ => Nat.le_of_ble_eq_true rfl) (Nat.le_of_ble_eq_true rfl) (Nat.le_of_ble_eq_true rfl) rfl ⟨(by simp only [List.forall_mem_cons]; exact ⟨okv_r (n2 h1) (by rw [hy]; decide), okv_r (n2 hx) hx9, fun _ h => absurd h List.not_mem_nil⟩), fun _ h => absurd h List.not_mem_nil⟩ rfl ?_
  refine g_iconst dJx4a65c_add_9ea2d_23 ?_
  exact g_zret dJx4a65c_add_9ea2d_24 rfl (Or.inr rfl) (Nat.le_of_ble_eq_true rfl) (Nat.le_of_ble_eq_true rfl) (pr_i rfl rfl)
set_option maxHeartbeats 1000000 in
set_option maxRecDepth 20000 in
theorem c_addE {L : Nat → Nat} {A : Mem} {n ci N9 : Nat} (hn : n = 2 ∨ n = 3) (h : LsE L A n) (hci : (ci = 1 ∧ N9 = 10) ∨ (ci = 3 ∧ N9 = 11)) (hx : L (eln (n + 2) 0) = 2) (hyx : ly (eln (n + 2) 0) = (ci, N9)) (hm : 0 ≤ A n 0 ∧ A n 0 ≤ 1000) :
    Ct mJx4a65c_add_9ea2d [gr n, gr (eln (n + 2) 0)] L A (pr (some (gi 1)) (gset L (n + 2) 2) (gup (gup (gup (gup (gup A n 0 (A n 0 + 1)) (n + 2) 0 10) n 1 2) (n + 2) 1 1) n 2 1)) := by
  obtain ⟨h1, h2, h3, h4, h5⟩ := id h
  obtain ⟨hy, hy2⟩ := ly_n hn
  have hx9 : (ly (eln (n + 2) 0)).1 ≠ 9 := by rw [hyx]; rcases hci with ⟨h, _⟩ | ⟨h, _⟩ <;> rw [h] <;> simp
  have hnn : n + 2 ≠ n := by omega
  have e1 : gup A n 0 (A n 0 + 1) n 1 = A n 1 := by simp [gup]
  have e2 : gup A n 0 (A n 0 + 1) n 2 = A n 2 := by simp [gup]
  have h' : LsE L (gup A n 0 (A n 0 + 1)) n := by
    unfold LsE
    rw [e1, e2, gup_ne hnn]
    exact h
  refine Ct_of (ls := [(0, _), (1, _)]) rfl (by decide) (fun _ => rfl) (fun _ => Nat.le_of_ble_eq_true rfl) ?_
  refine g_aload_n 0 dJx4a65c_add_9ea2d_0 rfl rfl ?_
  refine g_dup dJx4a65c_add_9ea2d_1 (c1_r _) ?_
  refine g_getmc hy wf_Jx4a65c_63 dJx4a65c_add_9ea2d_2 (n2 h1) ?_
  refine g_iconst dJx4a65c_add_9ea2d_5 ?_
  refine g_iadd dJx4a65c_add_9ea2d_6 ?_
  refine g_putmc hy (by omega) wf_Jx4a65c_63 dJx4a65c_add_9ea2d_7 (n2 h1) ?_
  refine g_aload_n 0 dJx4a65c_add_9ea2d_10 rfl rfl ?_
  refine g_aload_n 1 dJx4a65c_add_9ea2d_11 rfl rfl ?_
  have hC := c_add3E hn h' hci hx hyx
  intro p l e R s m args below meth c D a0 L0 a H locs lsr Q F E1 E3 S hl
  obtain ⟨hx0, hb, hml, hown, hws, hlocks, hrt, hnm, hlt, htab, hE, hR1, hR2, hR3, hR4⟩ := id F
  refine lv_aload_n hx0 hb (i := 0) dJx4a65c_add_9ea2d_12 rfl (lv_at hl 0 rfl) ?_
  refine va_get (q0 := 0) (ci := 0) hx0 hb hws cf_0.2.1 hown hE.1 (Wd_one S.1 (n2 h1) (gcell_o hy (by decide))) rfl cf_0.1 1 (by decide) (hws _ wf_Jx4a65c_9) (fun _ h => h) (v := .ref D.2.2) ?_ dJx4a65c_add_9ea2d_13 ?_
  · rw [List.getElem?_map, List.getElem?_range (by decide)]
    simp only [Option.map_some, gfd, and_self, if_true, e1, h3]
    simp
  refine lv_aload_n hx0 hb (i := 0) dJx4a65c_add_9ea2d_16 rfl (lv_at hl 0 rfl) ?_
  refine va_get (q0 := 0) (ci := 0) hx0 hb hws cf_0.2.1 hown hE.1 (Wd_one S.1 (n2 h1) (gcell_o hy (by decide))) rfl cf_0.1 2 (by decide) (hws _ wf_Jx4a65c_48) (fun _ h => h) (v := .int (Int32.ofInt 0)) ?_ dJx4a65c_add_9ea2d_17 ?_
  · rw [List.getElem?_map, List.getElem?_range (by decide)]
    simp [gfd, rfk, e2, h4]
  have hm9 := hC l hlt D a H.size
  refine g_core (My := mJx4a65c_add_72be8) (ls := [(0, gr n), (1, gr (eln (n + 2) 0))]) (st := []) F E1 E3 S hl rfl (vx_runV (As := [.ref (a (eln (n + 2) 0)), .ref D.2.2, .int (Int32.ofInt 0)]) (b := a n) ⟨hx0, hb, hml, hown, hws⟩ hm9 (cwV 3 hws (gd_cons wm_Jx4a65c_131 (gd_cons wi_Jx4a65c_add_72be8 (gd_cons wsl_Jx4a65c_add_72be8 (gd_cons mfJx4a65c_add_72be8.2.2.2.1 (gd_wsd mfJx4a65c_add_72be8))))) (wsd_0 rfl) rfl rfl ⟨rfl, mfJx4a65c_add_72be8.2.1.1, mfJx4a65c_add_72be8.2.1.2, mfJx4a65c_add_72be8.2.2.1⟩ ⟨by show 12 + 5 + 1 ≤ R.frames; exact hR1, by show 8 + (4 + 11) + (300 + 60 * 5) ≤ R.locals; exact Nat.le_trans (Nat.le_of_ble_eq_true rfl) hR2⟩)
    ⟨CtP_blind, va_recv hE.1 (Wd_one S.1 (n2 h1) (gcell_o hy (by decide))) cf_0.1 (q0 := 0) rfl, CtP_at F S [gr n, gr (eln (n + 2) 0), gx D.2.2, gi 0]⟩ rfl rfl hl.1 rfl (Nat.le_of_ble_eq_true rfl) dJx4a65c_add_9ea2d_20 ⟨Nat.le_trans (Nat.le_of_ble_eq_true rfl) hR3, Nat.le_trans (Nat.le_of_ble_eq_true rfl) hR4⟩) (fun _ => rfl) (Or.inr ⟨(by simp only [List.forall_mem_cons]; exact ⟨okv_r (n2 h1) (by rw [hy]; decide), okv_r (n2 hx) hx9, fun _ h => absurd h List.not_mem_nil⟩), fun _ h => absurd h List.not_mem_nil⟩) (fun v L' A' h _ => ?_) (fun E L' A' h => by obtain ⟨h1, _⟩ := h; cases h1)
  obtain ⟨hv, rfl, rfl⟩ := h
  cases hv
  show GW mJx4a65c_add_9ea2d _ (0 + 1) (0 + 200) 23 [(0, gr n), (1, gr (eln (n + 2) 0))] [] _ _
  refine g_iconst dJx4a65c_add_9ea2d_23 ?_
  exact g_zret dJx4a65c_add_9ea2d_24 rfl (Or.inr rfl) (Nat.le_of_ble_eq_true rfl) (Nat.le_of_ble_eq_true rfl) (pr_i rfl rfl)
set_option maxRecDepth 20000 in
theorem c_AC_init {L : Nat → Nat} {A : Mem} {n : Nat} : Ct mJxa1e45_init_da8c8 [gr n] L A (pr none L A) := by
  refine Ct_of (ls := [(0, _)]) rfl (by decide) (fun _ => rfl) (fun _ => Nat.le_of_ble_eq_true rfl) ?_
  refine g_aload_n 0 dJxa1e45_init_da8c8_0 rfl rfl ?_
  refine g_oinit wm_Jxa1e45_1 dJxa1e45_init_da8c8_1 (fun _ => Nat.le_of_ble_eq_true rfl) ?_
  exact g_vret dJxa1e45_init_da8c8_4 rfl (Nat.le_of_ble_eq_true rfl) (Nat.le_of_ble_eq_true rfl) (pr_v rfl)
set_option maxRecDepth 20000 in
theorem c_ALs_init {L : Nat → Nat} {A : Mem} {n : Nat} (hy : ly n = (0, 3)) (hn : L n ≠ 0) : Ct mJxc12de_init_da8c8 [gr n] L A (pr none L (gup A n 0 0)) := by
  refine Ct_of (ls := [(0, _)]) rfl (by decide) (fun _ => rfl) (fun _ => Nat.le_of_ble_eq_true rfl) ?_
  refine g_aload_n 0 dJxc12de_init_da8c8_0 rfl rfl ?_
  refine g_cI_v (My := mJxa1e45_init_da8c8) (gs := []) (st := []) c_AC_init mfJxa1e45_init_da8c8 rfl rfl wi_Jxa1e45_init_da8c8 wm_Jxc12de_1 dJxc12de_init_da8c8_1 (Nat.le_of_ble_eq_true rfl) rfl (fun _ => Nat.le_of_ble_eq_true rfl) (Nat.le_of_ble_eq_true rfl) (Nat.le_of_ble_eq_true rfl) rfl rfl ?_
  refine g_aload_n 0 dJxc12de_init_da8c8_4 rfl rfl ?_
  refine g_iconst dJxc12de_init_da8c8_5 ?_
  refine g_putfi cf_0 0 hy (by decide) (by decide) rfl (by decide) wf_Jxc12de_7 (Or.inl rfl) rfl dJxc12de_init_da8c8_6 hn (by omega) ?_
  exact g_vret dJxc12de_init_da8c8_9 rfl (Nat.le_of_ble_eq_true rfl) (Nat.le_of_ble_eq_true rfl) (pr_v rfl)
set_option maxRecDepth 20000 in
theorem c_AL_init {L : Nat → Nat} {A : Mem} {n : Nat} (hy : ly n = (0, 3)) (hn : L n ≠ 0) : Ct mJx4a65c_init_da8c8 [gr n] L A (pr none L (gup (gup A n 0 0) n 1 1)) := by
  refine Ct_of (ls := [(0, _)]) rfl (by decide) (fun _ => rfl) (fun _ => Nat.le_of_ble_eq_true rfl) ?_
  refine g_aload_n 0 dJx4a65c_init_da8c8_0 rfl rfl ?_
  refine g_cI_v (My := mJxc12de_init_da8c8) (gs := []) (st := []) (c_ALs_init hy hn) mfJxc12de_init_da8c8 rfl rfl wi_Jxc12de_init_da8c8 wm_Jx4a65c_1 dJx4a65c_init_da8c8_1 (Nat.le_of_ble_eq_true rfl) rfl (fun _ => Nat.le_of_ble_eq_true rfl) (Nat.le_of_ble_eq_true rfl) (Nat.le_of_ble_eq_true rfl) rfl rfl ?_
  refine g_aload_n 0 dJx4a65c_init_da8c8_4 rfl rfl ?_
  refine g_putE hy wf_Jx4a65c_39 wf_Jx4a65c_9 dJx4a65c_init_da8c8_5 dJx4a65c_init_da8c8_8 hn ?_
  exact g_vret dJx4a65c_init_da8c8_11 rfl (Nat.le_of_ble_eq_true rfl) (Nat.le_of_ble_eq_true rfl) (pr_v rfl)

