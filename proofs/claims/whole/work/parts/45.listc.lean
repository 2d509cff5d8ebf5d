/-- what a copy of a list's row answers: a new row, and the world is as it was -/
def CpQ (D : GD) (sz N n0 : Nat) (f : Nat → Option Nat) : Array Value → State → Outcome → State → Prop := fun _ st oc t =>
  ∃ q : Nat, oc = .returned (some (.ref q)) ∧ sz ≤ q ∧ q < t.heap.size ∧ t.heap[q]? = some (vp_cell D.2.1.2.2.2 (N, .inr (.inr (.inr (.inr (va_cpy f (fun _ => none) 0 0 n0)))))) ∧ va_F (fun x => sz ≤ x) st t
/-- what it asks of the row: its elements are objects of the class C -/
def CpE (D : GD) (a : Nat → Nat) (L : Nat → Nat) (A : Mem) (r ci : Nat) : Prop := ly r = (9, 0) ∧ L r ≠ 0 ∧ 0 ≤ A r 0 ∧ A r 0 ≤ 200 ∧ (ci = 1 ∨ ci = 3) ∧ ∀ j : Nat, (j : Int) < A r 1 → L (eln r j) ≠ 0 ∧ ∃ N, ly (eln r j) = (ci, N)
def CpP (D : GD) (a0 L0 : Nat → Nat) (A0 : Mem) (sz : Nat) (av : List Value) (mi : Option Nat) : Array Value → State → Prop := va_Pc av (fun U => U.heap.size = sz ∧ Wd D a0 L0 A0 U.heap ∧ Ev D (fpt a0 L0 sz) U U.heap ∧ ∀ i, mi = some i → va_Mi "[Ljava/lang/Object;" i U)
theorem cl_1 : vwCl[1]? = some ("OpalField$Claim", TX0, 10) := cf_1.1
theorem cl_3 : vwCl[3]? = some ("OpalField$Stone", TX2, 11) := cf_3.1
theorem Wd_cls {D : GD} {a L : Nat → Nat} {A : Mem} {s : State} {H : Heap} {n ci N : Nat} {C : String} {T : u_T} (hK : va_K D.1 vwCl [(D.2.1.1, .int), (D.2.1.2.1, .boolean), (D.2.1.2.2.1, .long), (D.2.1.2.2.2, .object "java/lang/Object")] s) (hW : Wd D a L A H) (hn : L n ≠ 0) (hy : ly n = (ci, N)) (hc : ci < 6) (hcl : vwCl[ci]? = some (C, T, N)) : ∃ cellV : Cell, H[a n]? = some cellV ∧ cellV.vm.isStatics = false ∧ s.vm.findClass C = some cellV.cls :=
  va_recv hK (Wd_one hW hn (gcell_o hy hc)) hcl (q0 := 0) rfl
set_option maxHeartbeats 2000000 in
set_option maxRecDepth 20000 in
theorem c_copy3 {l : Launch} {D : GD} {a0 L : Nat → Nat} {A : Mem} {sz r ci N mi n0 : Nat} (hl : l.stackTraces = false) (hE9 : CpE D a0 L A r ci) (hn0 : A r 0 = n0) (hN : n0 ≤ N ∧ N ≤ 200) :
    vx_Met l mJ7_copyOf_6403c.y (wsd mJ7_copyOf_6403c) (rmd mJ7_copyOf_6403c) (CpP D a0 L A sz [.ref (a0 r), .int (Int32.ofInt N), .ref mi] (some mi)) (CpQ D sz N n0 (grow_ a0 A r)) (fun _ _ _ => False) mJ7_copyOf_6403c.mc mJ7_copyOf_6403c.ms (fun x => x = a0 r ∨ sz ≤ x) := by
  refine vx_ofW (cc := mJ7_copyOf_6403c.cc) (maxL := mJ7_copyOf_6403c.nL) (ret := mJ7_copyOf_6403c.rt) (ws' := WS) (by decide) (by unfold wsd; rw [if_pos rfl]) ?_
  intro p e s m args below meth c s₁ B hml hex hv
  obtain ⟨rfl, hsz, hW, hE, hMi⟩ := hv
  have hM := hMi mi rfl
  obtain ⟨hy, hr, h00, h20, hci, hels⟩ := hE9
  subst hsz
  have hts := atoms_spec (ws := wsd mJ7_copyOf_6403c) B.pre
  have hws : ∀ w ∈ WS, w.before _ s = true := fun w hw => hts w (List.mem_cons_of_mem _ hw)
  have hx := B.exec
  have hb : c.code = mJ7_copyOf_6403c.cc := B.bytes
  have hown : s.vm.findClass RJ7 = some m.cls := findClass_of_methodNamed B.named
  have hl0 := lv_entry [Value.ref (a0 r), .int (Int32.ofInt N), .ref mi] (n := 4) (Nat.le_of_ble_eq_true rfl)
  rw [lg_entry_eq]
  show W p l e _ s m _ below meth c s.heap [] 0 0 _ (F0 m 0 _ [])
  generalize (lg_sl [Value.ref (a0 r), .int (Int32.ofInt N), .ref mi] ++ List.replicate (mJ7_copyOf_6403c.nL - (lg_sl [Value.ref (a0 r), .int (Int32.ofInt N), .ref mi]).length) Slot.unset).toArray = lsr at hl0 ⊢
  replace hl0 : lv_has lsr 4 [(0, Value.ref (a0 r)), (1, .int (Int32.ofInt N)), (2, .ref mi)] := hl0
  have hnn : (Int32.ofInt (N : Int)).toNatClampNeg = N := by
    unfold Int32.toNatClampNeg
    rw [Int32.toInt_ofInt_of_le (by omega) (by omega)]; omega
  have hn9 : (Int32.ofInt (n0 : Int)).toNatClampNeg = n0 := by
    unfold Int32.toNatClampNeg
    rw [Int32.toInt_ofInt_of_le (by omega) (by omega)]; omega
  refine lv_aload_n hx hb (i := 2) dJ7_copyOf_6403c_0 rfl (lv_at hl0 2 rfl) ?_
  refine va_ldcM hx hb hown (hws _ wc_J7_110) hM dJ7_copyOf_6403c_1 ?_
  refine lv_acmp_ne (rx := some mi) (ry := some mi) (tgt := 13) hx hb dJ7_copyOf_6403c_3 (by decide) (fun h => absurd rfl h) (fun _ => ?_)
  refine lv_iload_n hx hb (i := 1) dJ7_copyOf_6403c_6 rfl (lv_at hl0 1 rfl) ?_
  refine W.anew hx hb hown (hws _ wc_J7_2) (va_AO.use hE.2.2.2.2.2.2.2.2.2.2.1) rfl dJ7_copyOf_6403c_7 rfl (by rw [Int32.lt_iff_toInt_lt, Int32.toInt_ofInt_of_le (by omega) (by omega)]; simp) (by rw [hnn]; omega) (Nat.le_of_ble_eq_true rfl) (by rw [hnn]; show 0 + N ≤ 200; omega) fun cA kA comp f1 f2 f3 f4 => ?_
  obtain ⟨kA2, comp2, g2, g3, g4, g1⟩ := (hE.1.2 3 _ rfl).2
  have hcA : cA = D.2.1.2.2.2 := Option.some.inj (f1.symm.trans g1)
  generalize hH1 : s.heap.push ({ cls := cA, slots := Array.replicate (Int32.ofInt (N : Int)).toNatClampNeg .null, vm := .none } : Cell) = H1
  have z1 : H1.size = s.heap.size + 1 := by rw [← hH1, Array.size_push]
  have e1 : H1[s.heap.size]? = some (arrV D.2.1.2.2.2 N (fun _ => .null)) := by rw [← hH1, Array.getElem?_push_size, ← arrV_new, hnn, hcA]
  have o1 : ∀ q : Nat, q < s.heap.size → H1[q]? = s.heap[q]? := fun q hq => by rw [← hH1, Array.getElem?_push, if_neg (Nat.ne_of_lt hq)]
  have hlt9 : ∀ m, L m ≠ 0 → a0 m < s.heap.size := fun m hm => va_at.lt (hW.1 m hm)
  rw [hnn]
  have hold : H1[a0 r]? = some (vp_cell D.2.1.2.2.2 (n0, .inr (.inr (.inr (.inr (grow_ a0 A r)))))) := by
    rw [o1 _ (hlt9 r hr)]
    have h := hW.1 r hr
    rw [gcell_q hy, hn0] at h
    exact h
  have hnew : H1[s.heap.size]? = some (vp_cell D.2.1.2.2.2 (N, .inr (.inr (.inr (.inr (fun _ => none)))))) := by rw [e1, vp_cell_q]; rfl
  have hP : va_P D.1 vwCl [(a0 r, .inl (D.2.1.2.2.2, n0, .inr (.inr (.inr (.inr (grow_ a0 A r)))))), (s.heap.size, .inl (D.2.1.2.2.2, N, .inr (.inr (.inr (.inr (fun _ => none))))))] H1 := by
    intro k q hk
    have hk2 : k < 2 := (List.getElem?_eq_some_iff.mp hk).1
    rcases (show k = 0 ∨ k = 1 by omega) with rfl | rfl
    · cases hk; exact hold
    · cases hk; exact hnew
  have hne : a0 r ≠ s.heap.size := Nat.ne_of_lt (hlt9 r hr)
  have hD : va_D (fun x => x = a0 r ∨ x = s.heap.size) [(a0 r, .inl (D.2.1.2.2.2, n0, .inr (.inr (.inr (.inr (grow_ a0 A r)))))), (s.heap.size, (.inl (D.2.1.2.2.2, N, .inr (.inr (.inr (.inr (fun _ => none))))) : va_E))] := by
    refine ⟨fun i j q1 q2 h1 h2 he => ?_, fun k q hk => ?_⟩
    · have hi : i < 2 := (List.getElem?_eq_some_iff.mp h1).1
      have hj : j < 2 := (List.getElem?_eq_some_iff.mp h2).1
      rcases (show i = 0 ∨ i = 1 by omega) with rfl | rfl <;> rcases (show j = 0 ∨ j = 1 by omega) with rfl | rfl <;> cases h1 <;> cases h2 <;> first | rfl | exact absurd he hne | exact absurd he.symm hne
    · have hk2 : k < 2 := (List.getElem?_eq_some_iff.mp hk).1
      rcases (show k = 0 ∨ k = 1 by omega) with rfl | rfl <;> cases hk
      · exact Or.inl rfl
      · exact Or.inr rfl
  show W p l e _ s m _ below meth c H1 [] _ _ _ (F0 m 10 lsr [.ref s.heap.size])
  refine lv_goto (tgt := 24) hx hb dJ7_copyOf_6403c_10 (by decide) ?_
  refine lv_astore_n (i := 3) (nL := 4) (x := s.heap.size) hx hb dJ7_copyOf_6403c_24 rfl hl0 (by decide) (lv' := [(3, Value.ref s.heap.size), (0, Value.ref (a0 r)), (1, .int (Int32.ofInt N)), (2, .ref mi)]) rfl (fun ls2 hl2 => ?_)
  refine lv_aload_n hx hb (i := 0) dJ7_copyOf_6403c_25 rfl (lv_at hl2 1 rfl) ?_
  refine lv_iconst hx hb (v := Int32.ofInt 0) dJ7_copyOf_6403c_26 rfl ?_
  refine lv_aload_n hx hb (i := 3) dJ7_copyOf_6403c_27 rfl (lv_at hl2 0 rfl) ?_
  refine lv_iconst hx hb (v := Int32.ofInt 0) dJ7_copyOf_6403c_28 rfl ?_
  refine lv_aload_n hx hb (i := 0) dJ7_copyOf_6403c_29 rfl (lv_at hl2 1 rfl) ?_
  refine va_alen (q0 := 0) (t0 := 3) (v := Int32.ofInt (n0 : Int)) hx hb hE.1 hP rfl rfl rfl dJ7_copyOf_6403c_30 ?_
  refine lv_iload_n hx hb (i := 1) dJ7_copyOf_6403c_31 rfl (lv_at hl2 2 rfl) ?_
  refine va_mmin hx hb (hml.trans hl2.1.symm) hown (hws _ wm_J7_304) (hws _ wst_J9_min_7cf53) (hws _ wn_J9) (hws _ wo_J9_min_7cf53) (Nat.le_of_ble_eq_true rfl) (Nat.le_of_ble_eq_true rfl) (Nat.le_of_ble_eq_true rfl) (by show 0 + N ≤ 200; omega) dJ7_copyOf_6403c_32 ?_
  rw [show (if Int32.ofInt (N : Int) < Int32.ofInt (n0 : Int) then Int32.ofInt (N : Int) else Int32.ofInt (n0 : Int)) = Int32.ofInt (n0 : Int) from by rw [if_neg (fun h => by have := (ii_lt (by omega) (by omega)).mp h; omega)]]
  have h0c : (Int32.ofInt 0).toNatClampNeg = 0 := rfl
  have hnneg : ¬ Int32.ofInt (n0 : Int) < 0 := by rw [Int32.lt_iff_toInt_lt, Int32.toInt_ofInt_of_le (by omega) (by omega)]; simp
  have key : ∀ C : String, (∀ i : Nat, i < (Int32.ofInt (n0 : Int)).toNatClampNeg → ∀ y : Nat, grow_ a0 A r ((Int32.ofInt 0).toNatClampNeg + i) = some y → ∃ cellV : Cell, H1[y]? = some cellV ∧ cellV.vm.isStatics = false ∧ s.vm.findClass C = some cellV.cls) → (∀ comp c0 : ClassId, s.vm.findClass "java/lang/Object" = some comp → s.vm.findClass C = some c0 → s.vm.assignable c0 comp = true) → W p l e (headSpec (wsd mJ7_copyOf_6403c) (rmd mJ7_copyOf_6403c)).room s m [Value.ref (a0 r), .int (Int32.ofInt N), .ref mi].toArray below meth c H1 [] (0 + 1) (0 + N) (vx_MQ below (CpQ D s.heap.size N n0 (grow_ a0 A r)) (fun _ _ _ => False) [Value.ref (a0 r), .int (Int32.ofInt N), .ref mi].toArray s mJ7_copyOf_6403c.mc mJ7_copyOf_6403c.ms (fun x => x = a0 r ∨ s.heap.size ≤ x)) (F0 m 35 ls2 [.int (Int32.ofInt (n0 : Int)), .int (Int32.ofInt 0), .ref s.heap.size, .int (Int32.ofInt 0), .ref (a0 r)]) := by
    intro C hel hasg
    refine va_copyq hx hb (hml.trans hl2.1.symm) hown (hws _ wm_J7_150) (hws _ wnt_acopy) (hws _ wst_acopy) (hws _ wn_sys) hE.1 hP hD ⟨Nat.le_refl _, fun _ _ _ => rfl, fun _ h => absurd h List.not_mem_nil⟩ 0 1 3 3 rfl rfl rfl rfl (H0 := H1) (C := C) (by decide) (by decide) hnneg (by rw [h0c, hn9]; omega) (by rw [h0c, hn9]; omega) hel hasg (Nat.le_of_ble_eq_true rfl) (Nat.le_of_ble_eq_true rfl) dJ7_copyOf_6403c_35 (fun H2 locs2 hP2 hD2 hS2 => ?_)
    rw [h0c, hn9] at hP2
    refine lv_aload_n hx hb (i := 3) dJ7_copyOf_6403c_38 rfl (lv_at hl2 0 rfl) ?_
    have c1 : H2[s.heap.size]? = some (vp_cell D.2.1.2.2.2 (N, .inr (.inr (.inr (.inr (va_cpy (grow_ a0 A r) (fun _ => none) 0 0 n0)))))) := hP2 1 _ rfl
    have c0 : H2[a0 r]? = some (vp_cell D.2.1.2.2.2 (n0, .inr (.inr (.inr (.inr (grow_ a0 A r)))))) := hP2 0 _ rfl
    refine vx_ret (W.widen (k := mJ7_copyOf_6403c.mc) (n := mJ7_copyOf_6403c.ms) (Nat.le_of_ble_eq_true rfl) (by show 0 + N ≤ 200; omega) ?_)
    refine W.aret (v := .ref s.heap.size) hx hb B.returns (Or.inr ⟨_, rfl⟩) (Or.inr ⟨_, rfl⟩) (fun t ht _ => ⟨s.heap.size, rfl, Nat.le_refl _, by rw [ht]; exact (Array.getElem?_eq_some_iff.mp c1).1, by rw [ht]; exact c1, by rw [ht]; have := hS2.1; omega, fun q h1 h2 => ?_⟩) (fun z hz => ?_) dJ7_copyOf_6403c_39
    · exact (hS2.2.2 z hz).imp id (fun h => Nat.le_of_eq h.symm)
    · rw [ht]
      by_cases e9 : q = a0 r
      · rw [e9, c0, ← hold, o1 _ (hlt9 r hr)]
      · rw [hS2.2.1 q (by omega) (fun h => by rcases h with h | h; exact e9 h; omega), o1 q h1]
  have hcl9 : ∀ (C : String) (T : u_T) (N9 : Nat), vwCl[ci]? = some (C, T, N9) → (∀ j : Nat, (j : Int) < A r 1 → ly (eln r j) = (ci, N9)) → ∀ i : Nat, i < (Int32.ofInt (n0 : Int)).toNatClampNeg → ∀ y : Nat, grow_ a0 A r ((Int32.ofInt 0).toNatClampNeg + i) = some y → ∃ cellV : Cell, H1[y]? = some cellV ∧ cellV.vm.isStatics = false ∧ s.vm.findClass C = some cellV.cls := by
    intro C T N9 hC hy9 i hi y hgy
    rw [h0c, Nat.zero_add] at hgy
    unfold grow_ at hgy
    by_cases hlt : (i : Int) < A r 1
    · rw [if_pos hlt] at hgy
      cases hgy
      rw [o1 _ (hlt9 _ (hels i hlt).1)]
      exact Wd_cls hE.1 hW (hels i hlt).1 (hy9 i hlt) (by rcases hci with h | h <;> rw [h] <;> decide) hC
    · rw [if_neg hlt] at hgy; cases hgy
  rcases hci with hc | hc
  · subst hc
    refine key "OpalField$Claim" (hcl9 _ _ _ cl_1 (fun j hj => ?_)) (vb_asgC hE.2.2.2.2.2.2.2.2.2.2.2.1)
    obtain ⟨_, N9, h9⟩ := hels j hj
    rw [h9]
    rcases Nat.lt_or_ge (eln r j) 100 with h | h
    · exact absurd (by rw [h9]) (ly_low1 _ h).1
    · rcases Nat.lt_or_ge (eln r j) 200 with h2 | h2
      · rcases ly_mid h h2 with e | e <;> rw [e] at h9 <;> simp only [Prod.mk.injEq] at h9
        · rw [← h9.2]
        · omega
      · rcases ly_hi h2 with ⟨e, _⟩ | e <;> rw [e] at h9 <;> simp only [Prod.mk.injEq] at h9 <;> omega
  · subst hc
    refine key "OpalField$Stone" (hcl9 _ _ _ cl_3 (fun j hj => ?_)) (vb_asgC hE.2.2.2.2.2.2.2.2.2.2.2.2)
    obtain ⟨_, N9, h9⟩ := hels j hj
    rw [h9]
    rcases Nat.lt_or_ge (eln r j) 100 with h | h
    · exact absurd (by rw [h9]) (ly_low1 _ h).2.1
    · rcases Nat.lt_or_ge (eln r j) 200 with h2 | h2
      · rcases ly_mid h h2 with e | e <;> rw [e] at h9 <;> simp only [Prod.mk.injEq] at h9 <;> omega
      · rcases ly_hi h2 with ⟨e, _⟩ | e <;> rw [e] at h9 <;> simp only [Prod.mk.injEq] at h9
        · rw [← h9.2]
        · omega

theorem CpP_blind {D : GD} {a0 L0 : Nat → Nat} {A : Mem} {sz : Nat} {av : List Value} {mi : Option Nat} : FrameBlind (CpP D a0 L0 A sz av mi) := fun v U g mk h => by
  obtain ⟨h1, h2, h3, h4, h5⟩ := h
  have h6 : Ev D (fpt a0 L0 sz) (U.calling g mk v) U.heap := Ev.same (s := U) (U := U.calling g mk v) (by rfl) h4
  exact ⟨h1, h2, h3, h6, fun i hi => va_Mi.moved (Vm.Alike.refl U.vm) (h5 i hi)⟩
section WCP
variable {p : Program} {l : Launch} {e : Env} {R : Room} {s : State} {m : MethodId} {args : Array Value} {below : List Frame} {meth : Method} {c : Code} {H H0 : Heap} {locs : List Loc} {kc ks : Nat} {Q : State → Prop}
theorem W_cpcall {D : GD} {N n0 x0 pc mc ms : Nat} {f : Nat → Option Nat} {lsr : Array Slot} {st0 rest : List Value} {av : Array Value} {A0 : Nat → Prop} (hr : vx_Run p l e R s m args below meth c H locs kc ks mc ms (F0 m pc lsr st0) rest (CpQ D H.size N n0 f av) (fun _ _ _ => False) (fun x => x = x0 ∨ H.size ≤ x))
    (hS : va_S A0 H0 H locs) (hA : ∀ q, H.size ≤ q → A0 q) (hx0 : A0 x0)
    (kk : ∀ (H1 : Heap) (locs1 : List Loc) (q : Nat), H.size ≤ q → H.size ≤ H1.size → (∀ x : Nat, x < H.size → H1[x]? = H[x]?) → H1[q]? = some (vp_cell D.2.1.2.2.2 (N, .inr (.inr (.inr (.inr (va_cpy f (fun _ => none) 0 0 n0)))))) → va_S A0 H0 H1 locs1 → W p l e R s m args below meth c H1 locs1 (kc + mc) (ks + ms) Q (F0 m (pc + 3) lsr (.ref q :: rest))) :
    W p l e R s m args below meth c H locs kc ks Q (F0 m pc lsr st0) := by
  intro T hT X
  rcases hr T hT X with ⟨v, st₀, t, T', Lx, h0, X', hL, e1, e2, ⟨q, hv, hq1, hq2, hcell, hF⟩, st2⟩ | ⟨q, st₀, t, T', Lx, E, ce, h0, X', hL, e1, e2, hfalse, hce, hcv, hcl, st2⟩
  · cases hv
    have hf9 : ∀ q, (q = x0 ∨ H.size ≤ q) → A0 q := fun q h => h.elim (fun h => h ▸ hx0) (fun h => hA q h)
    obtain ⟨k1, k2, k3⟩ := vx_keep (A1 := fun x => H.size ≤ x) h0 e1 hS (fun q _ h => hA q h) hf9 hL hF
    rw [← e1] at hcell
    obtain ⟨t2, a1, b1⟩ := kk T'.heap (locs ++ Lx) q hq1 k1 (fun x hx => k2 x hx (by omega)) hcell k3 T' rfl X'
    exact ⟨t2, st2 t2 a1, b1⟩
  · exact absurd hfalse (fun h => h)
end WCP
set_option maxHeartbeats 2000000 in
set_option maxRecDepth 20000 in
theorem c_copy2 {l : Launch} {D : GD} {a0 L : Nat → Nat} {A : Mem} {sz r ci N n0 : Nat} (hl : l.stackTraces = false) (hE9 : CpE D a0 L A r ci) (hn0 : A r 0 = n0) (hN : n0 ≤ N ∧ N ≤ 200) :
    vx_Met l mJ7_copyOf_1904c.y (wsd mJ7_copyOf_1904c) (rmd mJ7_copyOf_1904c) (CpP D a0 L A sz [.ref (a0 r), .int (Int32.ofInt N)] none) (CpQ D sz N n0 (grow_ a0 A r)) (fun _ _ _ => False) mJ7_copyOf_1904c.mc mJ7_copyOf_1904c.ms (fun x => x = a0 r ∨ sz ≤ x) := by
  refine vx_ofW (cc := mJ7_copyOf_1904c.cc) (maxL := mJ7_copyOf_1904c.nL) (ret := mJ7_copyOf_1904c.rt) (ws' := WS) (by decide) (by unfold wsd; rw [if_pos rfl]) ?_
  intro p e s m args below meth c s₁ B hml hex hv
  obtain ⟨rfl, hsz, hW, hE, -⟩ := hv
  obtain ⟨mi, hM⟩ := hE.2.2.2.2.2.2.2.2.2.1
  have hy := hE9.1
  have hr := hE9.2.1
  subst hsz
  have hts := atoms_spec (ws := wsd mJ7_copyOf_1904c) B.pre
  have hws : ∀ w ∈ WS, w.before _ s = true := fun w hw => hts w (List.mem_cons_of_mem _ hw)
  have hx := B.exec
  have hb : c.code = mJ7_copyOf_1904c.cc := B.bytes
  have hown : s.vm.findClass RJ7 = some m.cls := findClass_of_methodNamed B.named
  have hl0 := lv_entry [Value.ref (a0 r), .int (Int32.ofInt N)] (n := 2) (Nat.le_of_ble_eq_true rfl)
  rw [lg_entry_eq]
  show W p l e _ s m _ below meth c s.heap [] 0 0 _ (F0 m 0 _ [])
  generalize (lg_sl [Value.ref (a0 r), .int (Int32.ofInt N)] ++ List.replicate (mJ7_copyOf_1904c.nL - (lg_sl [Value.ref (a0 r), .int (Int32.ofInt N)]).length) Slot.unset).toArray = lsr at hl0 ⊢
  replace hl0 : lv_has lsr 2 [(0, Value.ref (a0 r)), (1, .int (Int32.ofInt N))] := hl0
  have hcell := hW.1 r hr
  rw [gcell_q hy] at hcell
  obtain ⟨kA2, comp2, g2, g3, g4, g1⟩ := (hE.1.2 3 _ rfl).2
  refine lv_aload_n hx hb (i := 0) dJ7_copyOf_1904c_0 rfl (lv_at hl0 0 rfl) ?_
  refine lv_iload_n hx hb (i := 1) dJ7_copyOf_1904c_1 rfl (lv_at hl0 1 rfl) ?_
  refine lv_aload_n hx hb (i := 0) dJ7_copyOf_1904c_2 rfl (lv_at hl0 0 rfl) ?_
  refine va_getC (C := "[Ljava/lang/Object;") hx hb (hml.trans hl0.1.symm) hown (hws _ wm_J7_86) (va_Dc.use hE.2.2.2.2.2.2.2.2.1) (hws _ wsl_getC) (hws _ wi_getC) (hws _ wnt_getC) hM ⟨_, hcell, by rw [vp_cell_q]; rfl, g1⟩ (Nat.le_of_ble_eq_true rfl) (Nat.le_of_ble_eq_true rfl) dJ7_copyOf_1904c_3 ?_
  refine W_cpcall (D := D) (N := N) (n0 := n0) (x0 := a0 r) (f := grow_ a0 A r) (mc := mJ7_copyOf_6403c.mc) (ms := mJ7_copyOf_6403c.ms) (A0 := fun x => x = a0 r ∨ s.heap.size ≤ x) (H0 := s.heap) (rest := [])
    (vx_runS (As := [.ref (a0 r), .int (Int32.ofInt N), .ref mi]) ⟨hx, hb, hml, hown, hws⟩ (c_copy3 (mi := mi) (sz := s.heap.size) hl hE9 hn0 hN) (va_cwS 3 hws (gd_cons wm_J7_300 (gd_cons wst_J7_copyOf_6403c (gd_cons wn_J7 (gd_wsd mfJ7_copyOf_6403c)))) (wsd_0 rfl) rfl rfl ⟨mfJ7_copyOf_6403c.2.1.1, mfJ7_copyOf_6403c.2.1.2, mfJ7_copyOf_6403c.2.2.1⟩ ⟨Nat.le_of_ble_eq_true rfl, Nat.le_of_ble_eq_true rfl⟩)
      ⟨CpP_blind, fun U hU hWU => ⟨rfl, by rw [hU], by rw [hU]; exact hW, ?_, fun i hi => by cases hi; exact va_Mi.moved hWU.alike hM⟩⟩ rfl rfl hl0.1 rfl (Nat.le_of_ble_eq_true rfl) dJ7_copyOf_1904c_6 ⟨Nat.le_of_ble_eq_true rfl, Nat.le_of_ble_eq_true rfl⟩)
    ⟨Nat.le_refl _, fun _ _ _ => rfl, fun _ h => absurd h List.not_mem_nil⟩ (fun q h => Or.inr h) (Or.inl rfl) (fun H1 locs1 q hq1 hsz1 ho hc1 hS1 => ?_)
  · rw [hU]; exact Ev.warm hWU hE
  · refine vx_ret (W.widen (k := mJ7_copyOf_1904c.mc) (n := mJ7_copyOf_1904c.ms) (Nat.le_of_ble_eq_true rfl) (Nat.le_of_ble_eq_true rfl) ?_)
    exact W.aret (v := .ref q) hx hb B.returns (Or.inr ⟨_, rfl⟩) (Or.inr ⟨_, rfl⟩) (fun t ht _ => ⟨q, rfl, hq1, by rw [ht]; exact (Array.getElem?_eq_some_iff.mp hc1).1, by rw [ht]; exact hc1, by rw [ht]; exact hsz1, fun x h1 _ => by rw [ht]; exact ho x h1⟩) hS1.2.2 dJ7_copyOf_1904c_9
/-- nobody but the list refers to its row -/
theorem nr_row {L : Nat → Nat} {A : Mem} {n : Nat} (hn : n = 2 ∨ n = 3) : NoRef (gset (gset L n 0) (n + 2) 0) A (n + 2) := by
  intro m hm
  have h1 : m ≠ n + 2 := fun h => hm (by rw [h, gset_eq])
  have h2 : m ≠ n := fun h => hm (by rw [gset_ne h1, h, gset_eq])
  refine ⟨h1, fun k hk hr he => ?_, fun h0 h9 => absurd h9 (by omega), fun h9 j hj => ?_⟩
  · exfalso
    rcases Nat.lt_or_ge m 100 with h | h
    · have l1 := ly_low1 m h
      have l2 := ly_low2 m h
      generalize hc : (ly m).1 = c at *
      match c, hc, hr, l1, l2 with
      | 0, _, h, _, _ => exact absurd h (by simp [rfk])
      | 1, _, _, h1, _ => exact absurd rfl h1.1
      | 2, _, _, _, h2 => rw [h2.1 rfl] at hk; have : 12 + k = n + 2 := he; omega
      | 3, _, _, h1, _ => exact absurd rfl h1.2.1
      | 4, _, _, _, h2 =>
        rw [h2.2.1 rfl] at hk
        have : [1, 2, 3, 6, 7, 8, 9, 10, 11].getD k 0 = n + 2 := he
        rcases (show k = 0 ∨ k = 1 ∨ k = 2 ∨ k = 3 ∨ k = 4 ∨ k = 5 ∨ k = 6 ∨ k = 7 ∨ k = 8 ∨ k = 9 by omega) with rfl | rfl | rfl | rfl | rfl | rfl | rfl | rfl | rfl | rfl <;> simp at this <;> omega
      | 5, _, _, _, h2 => rw [h2.2.2 rfl] at hk; have : 21 + k = n + 2 := he; omega
      | c + 6, _, h, _, _ => exact absurd h (by simp [rfk])
    · rcases Nat.lt_or_ge m 200 with h4 | h4
      · rcases ly_mid h h4 with e | e <;> rw [e] at he hr
        · have : m + (k - 7) = n + 2 := he; omega
        · exact absurd hr (by simp [rfk])
      · rcases ly_hi h4 with ⟨e, _⟩ | e <;> rw [e] at he hr
        · have : m + (k - 8) = n + 2 := he; omega
        · exact absurd hr (by simp [rfk])
  · unfold eln; split <;> omega
section GGT
variable {M : MD} {P : Pst} {kc ks pc : Nat} {ls : List (Nat × GV)} {st : List GV} {L : Nat → Nat} {A : Mem}
set_option maxHeartbeats 2000000 in
/-- a longer row for a list -/
theorem g_growt {n ix ix2 ci n0 N : Nat} (h23 : n = 2 ∨ n = 3) (hy : ly n = (0, 3)) (hy2 : ly (n + 2) = (9, 0)) (hfl : M.fl = true) (hn : L n ≠ 0) (hn2 : L (n + 2) = 2) (h1 : A n 1 = 2) (hn0 : A (n + 2) 0 = n0) (h10 : A (n + 2) 1 ≤ n0) (hN : n0 ≤ N ∧ N ≤ 200) (hci : ci = 1 ∨ ci = 3) (hels : ∀ j : Nat, (j : Int) < A (n + 2) 1 → L (eln (n + 2) j) ≠ 0 ∧ ∃ N, ly (eln (n + 2) j) = (ci, N)) (hok : ∀ v ∈ st, okv L v)
    (hk1 : kc + 1 ≤ M.mc) (hk2 : ks + 200 ≤ M.ms) (hst : ∀ a, ((st.map (ev a)).map fun v => v.category).sum ≤ 7) (hlk : Cond.methodLink M.y.cls ix yJ7_copyOf_1904c ∈ WS) (hw : Cond.fieldLink M.y.cls ix2 "java/util/ArrayList" "elementData" "[Ljava/lang/Object;" ∈ WS) (hdp : 2 < M.dp) (hd1 : decode M.cc pc = .ok (.invokestatic ix, 3)) (hd2 : decode M.cc (pc + 3) = .ok (.dup_x1, 1)) (hd3 : decode M.cc (pc + 4) = .ok (.putfield ix2, 3))
    (kk : GW M P (kc + 1) (ks + 200) (pc + 7) [] (gr (n + 2) :: st) L (gup A (n + 2) 0 N)) : GW M P kc ks pc ls (gi N :: gr (n + 2) :: gr n :: st) L A := by
  intro p l e R s m args below meth c D a0 L0 a H locs lsr Q F E1 E3 S hl
  obtain ⟨hx, hb, hml, hown, hws, hlocks, hrt, hnm, hlt, htab, hE, hR1, hR2, hR3, hR4⟩ := id F
  have hn20 : L (n + 2) ≠ 0 := by rw [hn2]; decide
  have hE9 : CpE D a L A (n + 2) ci := ⟨hy2, hn20, by omega, by omega, hci, hels⟩
  have hlt9 : ∀ m, L m ≠ 0 → a m < H.size := fun m hm => va_at.lt (S.1.1 m hm)
  have hne : n ≠ n + 2 := by omega
  refine W_cpcall (D := D) (N := N) (n0 := n0) (x0 := a (n + 2)) (f := grow_ a A (n + 2)) (mc := 1) (ms := 200) (A0 := fpt a0 L0 s.heap.size) (H0 := s.heap) (rest := .ref (a n) :: st.map (ev a))
    (vx_runS (As := [.ref (a (n + 2)), .int (Int32.ofInt N)]) ⟨hx, hb, hml, hown, hws⟩ (c_copy2 (sz := H.size) hlt hE9 hn0 hN) (va_cwS 2 hws (gd_cons hlk (gd_cons wst_J7_copyOf_1904c (gd_cons wn_J7 (gd_wsd mfJ7_copyOf_1904c)))) (wsd_0 rfl) rfl rfl ⟨mfJ7_copyOf_1904c.2.1.1, mfJ7_copyOf_1904c.2.1.2, mfJ7_copyOf_1904c.2.2.1⟩ ⟨by show 12 + 2 + 1 ≤ R.frames; omega, by show 8 + (2 + 11) + (300 + 60 * 2) ≤ R.locals; omega⟩)
      ⟨CpP_blind, fun U hU hWU => ⟨rfl, by rw [hU], by rw [hU]; exact S.1, Ev_at F S hU hWU, fun i hi => nomatch hi⟩⟩ rfl rfl hl.1 rfl ?_ hd1 ⟨by show kc + 1 ≤ _; omega, by show ks + 200 ≤ _; omega⟩)
    S.2.2.2.2.2 (fun q h => Or.inr (Nat.le_trans S.2.2.2.2.2.1 h)) (S.2.1 _ hn20) (fun H1 locs1 q hq1 hsz1 ho hc1 hS1 => ?_)
  · have := hst a
    show 2 * 0 + ((Value.ref (a n) :: st.map (ev a)).map fun v => v.category).sum ≤ 8
    rw [List.map_cons, List.sum_cons]
    have : (Value.ref (a n)).category = 1 := rfl
    omega
  have hat := va_at.kept (S.1.1 n hn) (ho _ (hlt9 n hn))
  rw [gcell_o hy (by decide)] at hat
  refine lv_dup_x1 hx hb hd2 rfl rfl ?_
  refine W_putl F (Or.inr ⟨_, rfl⟩) hat hw hd3 (fun H2 i e2 z2 o2 => ?_)
  have hqn : q ≠ a n := by have := hlt9 n hn; omega
  have eL : gset L (n + 2) 2 = L := by funext x; by_cases h : x = n + 2 <;> simp [gset, h, hn2]
  have S9 : SH M D a0 L0 s (gset a (n + 2) q) (gset L (n + 2) 2) (gup A (n + 2) 0 N) H2 (locs1 ++ [⟨a n, i⟩]) := by
    refine SH_nine S hfl hy2 (fun m hm e => ?_) ?_ hq1 (fun m k hm e hk h9 => ?_) (fun m k => ?_) (hS1.put z2 o2 (S.2.1 n hn))
    · by_cases en : m = n
      · rw [en, gcell_o hy (by decide)]
        refine cast (congrArg (fun w => va_at D.1 vwCl (a n, .inr (0, w)) H2) (List.map_congr_left (fun j hj => ?_))) e2
        rcases (show j = 0 ∨ j = 1 ∨ j = 2 by have := List.mem_range.mp hj; omega) with rfl | rfl | rfl <;> simp [updV, gfd, gup, rfk, gset, h1]
      · rw [gcell_c (A := gz A (n + 2)) (by rw [gup_ne e, gz_ne e]), gcell_new (L := gset (gset L n 0) (n + 2) 0) (nr_row h23) (by rw [gset_ne e, gset_ne en]; exact hm)]
        exact va_at.kept (S.1.1 m hm) ((o2 _ (fun q => en (S.1.2.1 m n hm hn q))).trans (ho _ (hlt9 m hm)))
    · rw [gcell_q hy2]
      show H2[q]? = some (vp_cell _ _)
      rw [o2 _ hqn, hc1]
      have ea : (gup A (n + 2) 0 ↑N (n + 2) 0).toNat = N := by simp [gup]
      rw [ea]
      have ef : va_cpy (grow_ a A (n + 2)) (fun _ => none) 0 0 n0 = grow_ (gset a (n + 2) q) (gup A (n + 2) 0 ↑N) (n + 2) := by
        funext j
        have eb : gup A (n + 2) 0 ↑N (n + 2) 1 = A (n + 2) 1 := by simp [gup]
        have e0 : eln (n + 2) j ≠ n + 2 := by unfold eln; split <;> omega
        unfold va_cpy grow_
        rw [eb, gset_ne e0]
        by_cases hj : (j : Int) < A (n + 2) 1
        · rw [if_pos ⟨Nat.zero_le _, by omega⟩, Nat.zero_add, Nat.sub_zero, if_pos hj]
        · simp only [Nat.zero_add, Nat.sub_zero, if_neg hj]
          split <;> rfl
      rw [ef]
    · rw [gup_ne e]; exact S.1.2.2.1 m k hm hk h9
    · have := S.1.2.2.2 m k
      simp only [gup]
      split <;> omega
  rw [eL] at S9
  have hl0 : lv_has lsr M.nL (([] : List (Nat × GV)).map fun w => (w.1, ev (gset a (n + 2) q) w.2)) := ⟨hl.1, hl.2.1, fun _ h => absurd h List.not_mem_nil⟩
  have k2 := kk p l e R s m args below meth c D a0 L0 _ H2 _ lsr Q F E1 E3 S9 hl0
  have est : st.map (ev (gset a (n + 2) q)) = st.map (ev a) := List.map_congr_left (fun v hv => by
    have h := hok v hv
    cases v with
    | inl x => rfl
    | inr m =>
      show Value.ref (gset a (n + 2) q m) = Value.ref (a m)
      rw [gset_ne (fun e => h.2 (by rw [e, hy2]))])
  rw [List.map_cons, est] at k2
  rw [show ev (gset a (n + 2) q) (gr (n + 2)) = .ref q from by show Value.ref (gset a (n + 2) q (n + 2)) = _; rw [gset_eq]] at k2
  exact k2
end GGT

