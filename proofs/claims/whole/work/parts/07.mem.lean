def gup (A : Mem) (n k : Nat) (v : Int) : Mem := fun m j => if m = n ∧ j = k then v else A m j
def gz (A : Mem) (n : Nat) : Mem := fun m j => if m = n then 0 else A m j
def gset (f : Nat → Nat) (n v : Nat) : Nat → Nat := fun m => if m = n then v else f m
theorem gup_ne {A : Mem} {n k m : Nat} {v : Int} (h : m ≠ n) : gup A n k v m = A m := by funext j; simp [gup, h]
theorem gz_ne {A : Mem} {n m : Nat} (h : m ≠ n) : gz A n m = A m := by funext j; simp [gz, h]
theorem gset_ne {f : Nat → Nat} {n v m : Nat} (h : m ≠ n) : gset f n v m = f m := by simp [gset, h]
theorem gset_eq {f : Nat → Nat} {n v : Nat} : gset f n v n = v := by simp [gset]
/-- a class of the table: its words, its fields' types, its fields' names apart -/
def CFx (c : Nat) (C : String) (T : u_T) (N : Nat) (ty : Nat → FieldType) : Prop := vwCl[c]? = some (C, T, N) ∧ (∀ w ∈ u_ws C T N, w ∈ WS) ∧ (∀ k, k < N → parseFieldDescriptor (T k).2.2.1 = some (ty k)) ∧ ∀ a, a < N → ∀ b, b < N → a ≠ b → (T a).2.1 ≠ (T b).2.1
theorem cf_in {C : String} {T : u_T} {N : Nat} (h : ∀ w ∈ u_ws C T N, w ∈ lw_tbl) (g : (u_ws C T N).all goodWord = true) : ∀ w ∈ u_ws C T N, w ∈ WS := fun w hw => WS_in (h w hw) (List.all_eq_true.mp g w hw)
set_option maxRecDepth 100000 in
theorem cf_0 : CFx 0 RJx4a65c TJx4a65c 3 tyJx4a65c := ⟨rfl, cf_in (by decide +kernel) (by decide +kernel), tyJx4a65c_ok, nmJx4a65c⟩
set_option maxRecDepth 100000 in
theorem cf_1 : CFx 1 RX0 TX0 10 tyX0 := ⟨rfl, cf_in (by decide +kernel) (by decide +kernel), tyX0_ok, nmX0⟩
set_option maxRecDepth 100000 in
theorem cf_2 : CFx 2 RX1 TX1 6 tyX1 := ⟨rfl, cf_in (by decide +kernel) (by decide +kernel), tyX1_ok, nmX1⟩
set_option maxRecDepth 100000 in
theorem cf_3 : CFx 3 RX2 TX2 11 tyX2 := ⟨rfl, cf_in (by decide +kernel) (by decide +kernel), tyX2_ok, nmX2⟩
set_option maxRecDepth 100000 in
theorem cf_4 : CFx 4 RX3 TX3 10 tyX3 := ⟨rfl, cf_in (by decide +kernel) (by decide +kernel), tyX3_ok, nmX3⟩
set_option maxRecDepth 100000 in
theorem cf_5 : CFx 5 RX4 TX4 37 tyX4 := ⟨rfl, cf_in (by decide +kernel) (by decide +kernel), tyX4_ok, nmX4⟩
theorem gcell_o {D : GD} {a : Nat → Nat} {A : Mem} {n c N : Nat} (hy : ly n = (c, N)) (hc : c < 6) : gcell D a A n = .inr (c, (List.range N).map (gfd D.2.2 a A c n)) := by
  unfold gcell
  rw [hy]
  rcases (show c = 0 ∨ c = 1 ∨ c = 2 ∨ c = 3 ∨ c = 4 ∨ c = 5 by omega) with rfl | rfl | rfl | rfl | rfl | rfl <;> rfl
theorem gcell_i {D : GD} {a : Nat → Nat} {A : Mem} {n N : Nat} (hy : ly n = (6, N)) : gcell D a A n = .inl (D.2.1.1, N, .inl (fun j => Int32.ofInt (A n j))) := by
  unfold gcell; rw [hy]; rfl
theorem gcell_z {D : GD} {a : Nat → Nat} {A : Mem} {n N : Nat} (hy : ly n = (7, N)) : gcell D a A n = .inl (D.2.1.2.1, N, .inl (fun j => Int32.ofInt (A n j))) := by
  unfold gcell; rw [hy]; rfl
theorem gcell_l {D : GD} {a : Nat → Nat} {A : Mem} {n N : Nat} (hy : ly n = (8, N)) : gcell D a A n = .inl (D.2.1.2.2.1, N, .inr (.inl (fun j => Int64.ofInt (A n j)))) := by
  unfold gcell; rw [hy]; rfl
theorem gcell_q {D : GD} {a : Nat → Nat} {A : Mem} {n N : Nat} (hy : ly n = (9, N)) : gcell D a A n = .inl (D.2.1.2.2.2, (A n 0).toNat, .inr (.inr (.inr (.inr (grow_ a A n))))) := by
  unfold gcell; rw [hy]; rfl
theorem grow_c {a a' : Nat → Nat} {A A' : Mem} {n : Nat} (h : A' n = A n) (ha : ∀ j : Nat, (j : Int) < A n 1 → a' (eln n j) = a (eln n j)) : grow_ a' A' n = grow_ a A n := by
  funext j
  unfold grow_
  rw [h]
  by_cases hj : (j : Int) < A n 1
  · rw [if_pos hj, if_pos hj, ha j hj]
  · rw [if_neg hj, if_neg hj]
theorem gcell_c {D : GD} {a : Nat → Nat} {A A' : Mem} {n : Nat} (h : A' n = A n) : gcell D a A' n = gcell D a A n := by
  have e : ∀ c, gfd D.2.2 a A' c n = gfd D.2.2 a A c n := by
    intro c
    funext k
    unfold gfd
    rw [h]
  unfold gcell
  simp only [h, e, grow_c (a := a) (a' := a) h (fun _ _ => rfl)]
theorem Wd_one {D : GD} {a L : Nat → Nat} {A : Mem} {H : Heap} (hW : Wd D a L A H) {n : Nat} (hn : L n ≠ 0) {x : va_E} (hx : gcell D a A n = x) : va_P D.1 vwCl [(a n, x)] H := by
  intro k q hq
  have hk : k < 1 := (List.getElem?_eq_some_iff.mp hq).1
  rw [show k = 0 by omega] at hq
  cases hq
  rw [← hx]
  exact hW.1 n hn
/-- one place of one cell is written -/
theorem SH_put {M : MD} {D : GD} {a0 L0 : Nat → Nat} {s : State} {a L : Nat → Nat} {A A' : Mem} {H H1 : Heap} {locs : List Loc} {n i : Nat} (S : SH M D a0 L0 s a L A H locs) (hn : L n ≠ 0) (hA : ∀ m, m ≠ n → A' m = A m)
    (hc : va_at D.1 vwCl (a n, gcell D a A' n) H1) (z : H1.size = H.size) (oq : ∀ q : Nat, q ≠ a n → H1[q]? = H[q]?) (h3 : ∀ k, L n = 2 → k < (ly n).2 → rfk (ly n).1 k = true → A' n k ≠ 0) (h4 : ∀ k, -2147483648 ≤ A' n k ∧ A' n k < 2147483648) :
    SH M D a0 L0 s a L A' H1 (locs ++ [⟨a n, i⟩]) := by
  obtain ⟨⟨w1, w2, w3, w4⟩, hf, hag, hmo, hfl, hva⟩ := S
  refine ⟨⟨fun m hm => ?_, w2, fun m k h1 h2 h5 => ?_, fun m k => ?_⟩, hf, hag, hmo, hfl, hva.put z oq (hf n hn)⟩
  · by_cases e : m = n
    · rw [e]; exact hc
    · rw [gcell_c (hA m e)]
      exact va_at.kept (w1 m hm) (oq _ (fun q => e (w2 m n hm hn q)))
  · by_cases e : m = n
    · subst e; exact h3 k h1 h2 h5
    · rw [hA m e]; exact w3 m k h1 h2 h5
  · by_cases e : m = n
    · subst e; exact h4 k
    · rw [hA m e]; exact w4 m k
section GM
variable {M : MD} {P : Pst} {kc ks pc : Nat} {ls : List (Nat × GV)} {st : List GV} {L : Nat → Nat} {A : Mem}

theorem g_getfi {ci N n ix : Nat} {C : String} {T : u_T} {ty : Nat → FieldType} (hF : CFx ci C T N ty) (k : Nat) (hy : ly n = (ci, N)) (hc : ci < 6) (hk : k < N) (hr : rfk ci k = false) (h0 : ¬ (ci = 0 ∧ k = 1)) (hw : Cond.fieldLink M.y.cls ix (T k).1 (T k).2.1 (T k).2.2.1 ∈ WS) (hd : decode M.cc pc = .ok (.getfield ix, 3)) (hn : L n ≠ 0)
    (kk : -2147483648 ≤ A n k ∧ A n k < 2147483648 → GW M P kc ks (pc + 3) ls (gi (A n k) :: st) L A) : GW M P kc ks pc ls (gr n :: st) L A := by
  intro p l e R s m args below meth c D a0 L0 a H locs lsr Q F E1 E3 S hl
  have k2 := kk (S.1.2.2.2 n k) p l e R s m args below meth c D a0 L0 a H locs lsr Q F E1 E3 S hl
  refine va_get (q0 := 0) F.1 F.2.1 F.2.2.2.2.1 hF.2.1 F.2.2.2.1 F.2.2.2.2.2.2.2.2.2.2.1.1 (Wd_one S.1 hn (gcell_o hy hc)) rfl hF.1 k hk (F.2.2.2.2.1 _ hw) (fun _ h => h) (v := .int (Int32.ofInt (A n k))) ?_ hd k2
  rw [List.getElem?_map, List.getElem?_range hk]
  simp only [Option.map_some, gfd, if_neg h0, hr, Bool.false_eq_true, if_false]

theorem g_getfr {ci N n ix : Nat} {C : String} {T : u_T} {ty : Nat → FieldType} (hF : CFx ci C T N ty) (k : Nat) (hy : ly n = (ci, N)) (hc : ci < 6) (hk : k < N) (hr : rfk ci k = true) (h0 : ¬ (ci = 0 ∧ k = 1)) (hw : Cond.fieldLink M.y.cls ix (T k).1 (T k).2.1 (T k).2.2.1 ∈ WS) (hd : decode M.cc pc = .ok (.getfield ix, 3)) (hn : L n = 2)
    (kk : GW M P kc ks (pc + 3) ls (gr (rfn ci n k) :: st) L A) : GW M P kc ks pc ls (gr n :: st) L A := by
  intro p l e R s m args below meth c D a0 L0 a H locs lsr Q F E1 E3 S hl
  have k2 := kk p l e R s m args below meth c D a0 L0 a H locs lsr Q F E1 E3 S hl
  have hz : A n k ≠ 0 := S.1.2.2.1 n k hn (by rw [hy]; exact hk) (by rw [hy]; exact hr)
  refine va_get (q0 := 0) F.1 F.2.1 F.2.2.2.2.1 hF.2.1 F.2.2.2.1 F.2.2.2.2.2.2.2.2.2.2.1.1 (Wd_one S.1 (by rw [hn]; decide) (gcell_o hy hc)) rfl hF.1 k hk (F.2.2.2.2.1 _ hw) (fun _ h => h) (v := .ref (a (rfn ci n k))) ?_ hd k2
  rw [List.getElem?_map, List.getElem?_range hk]
  simp only [Option.map_some, gfd, if_neg h0, hr, if_true, if_neg hz]

/-- a field is written (v the new value, by z in the memory) -/
theorem g_putf {ci N n ix : Nat} {C : String} {T : u_T} {ty : Nat → FieldType} (hF : CFx ci C T N ty) (k : Nat) {z : Int} {v : GV} (hy : ly n = (ci, N)) (hc : ci < 6) (hk : k < N) (h0 : ¬ (ci = 0 ∧ k = 1)) (hw : Cond.fieldLink M.y.cls ix (T k).1 (T k).2.1 (T k).2.2.1 ∈ WS)
    (hfin : (T k).2.2.2 = false ∨ ((T k).2.2.2 = true ∧ M.y.name = "<init>" ∧ (T k).1 = M.y.cls)) (hv : (rfk ci k = false ∧ v = gi z ∧ ty k = .int) ∨ (rfk ci k = true ∧ v = gr (rfn ci n k) ∧ z = 1 ∧ ((∃ t, ty k = .object t) ∨ ∃ t, ty k = .array t)))
    (hz : -2147483648 ≤ z ∧ z < 2147483648) (hd : decode M.cc pc = .ok (.putfield ix, 3)) (hn : L n ≠ 0) (kk : GW M P kc ks (pc + 3) ls st L (gup A n k z)) : GW M P kc ks pc ls (v :: gr n :: st) L A := by
  intro p l e R s m args below meth c D a0 L0 a H locs lsr Q F E1 E3 S hl
  obtain ⟨hx, hb, hml, hown, hws, hlocks, hrt, hnm, hlt, htab, hE, hR⟩ := id F
  have hK := hE.1
  have hat := S.1.1 n hn
  rw [gcell_o hy hc] at hat
  obtain ⟨r, h1, cell, q1, q2, q3, q4⟩ := hat
  have hr : r = (C, T, N) := Option.some.inj (h1.symm.trans hF.1)
  subst hr
  have hap := va_apart (own := M.y.cls) hws hF.2.1 ty hF.2.2.1 hF.2.2.2 hK hF.1
  obtain ⟨hS, hfc, kC, hkC, hkind⟩ := hK.1 ci _ hF.1
  obtain ⟨cf, kf, fi, f, hi, hsl⟩ := hS k hk
  have hlay := hws _ (hF.2.1 _ (u_in_lay hk))
  have hst := (u_facts hfc hkC (u_lays hws hF.2.1 hk) hi).1
  have hnf : narrow (ty k) (ev a v) = ev a v ∧ fits (ty k) (ev a v) = true := by
    rcases hv with ⟨-, rfl, h⟩ | ⟨-, rfl, -, ⟨t, h⟩ | ⟨t, h⟩⟩ <;> rw [h] <;> exact ⟨rfl, rfl⟩
  have hgf : ∀ j, j < N → updV (vp_V ((List.range N).map (gfd D.2.2 a A ci n))) k (ev a v) j = vp_V ((List.range N).map (gfd D.2.2 a (gup A n k z) ci n)) j := by
    intro j hj
    have e1 : ∀ A' : Mem, vp_V ((List.range N).map (gfd D.2.2 a A' ci n)) j = gfd D.2.2 a A' ci n j := by
      intro A'
      simp [vp_V, List.getD, hj]
    rw [updV, e1, e1]
    by_cases hjk : j = k
    · subst hjk
      rw [if_pos rfl]
      rcases hv with ⟨h9, rfl, -⟩ | ⟨h9, rfl, rfl, -⟩
      · simp [gfd, h0, h9, gup, ev, gi]
      · simp [gfd, h0, h9, gup, ev, gr]
    · rw [if_neg hjk]
      by_cases h01 : ci = 0 ∧ j = 1
      · simp [gfd, h01, gup, show ¬ 1 = k by rw [← h01.2]; exact hjk]
      · simp [gfd, gup, hjk, h01]
  have fin : ∀ H' : Heap, H'[a n]? = some (cell.setSlot f.slot (ev a v)) → H'.size = H.size → (∀ q, q ≠ a n → H'[q]? = H[q]?) → W p l e R s m args below meth c H' (locs ++ [⟨a n, f.slot⟩]) kc ks Q (F0 m (pc + 3) lsr (st.map (ev a))) := by
    intro H' e1 e2 e3
    rw [hsl] at e1
    refine kk p l e R s m args below meth c D a0 L0 a H' _ lsr Q F E1 E3 (SH_put S hn (fun m hm => gup_ne hm) ?_ e2 e3 ?_ ?_) hl
    · rw [gcell_o hy hc]
      exact ⟨_, hF.1, t_OB.to (V := updV (vp_V ((List.range N).map (gfd D.2.2 a A ci n))) k (ev a v)) ⟨_, e1, q2, q3, t_set q4 hap hk (ev a v)⟩ hgf⟩
    · intro j h2 h3 h4
      by_cases e : j = k
      · subst e
        rw [hy] at h4
        rcases hv with ⟨h9, -⟩ | ⟨-, -, rfl, -⟩
        · exact absurd (h9.symm.trans h4) (by decide)
        · simp [gup]
      · have := S.1.2.2.1 n j h2 h3 h4
        simpa [gup, e] using this
    · intro j
      by_cases e : j = k
      · simp only [gup, e, and_self, if_true]; exact hz
      · simp only [gup, e, and_false, if_false]; exact S.1.2.2.2 n j
  unfold u_lay at hlay
  rcases hfin with hfin | ⟨hfin, hin2, hdecl⟩
  · rw [if_neg (by rw [hfin]; decide)] at hlay
    have h6 := u_store hfc hkC hkind hlay hi (hF.2.2.1 k hk) hnf.1 hnf.2
    exact W.putK hx hb (f := f) ⟨hown, hws _ hw, ⟨_, _, _, hi⟩, hst⟩ (by rw [q2]; exact h6) q1 q3 (by rw [hsl]; exact k2_hasslot (q4 k hk)) rfl rfl hd fin
  · rw [if_pos hfin] at hlay
    have hcf : m.cls = cf := by
      obtain ⟨_, _, c', _, _, _, -, -, hf', -, -, -, hown2, -⟩ := Cond.laysFinal_spec hlay
      have e1 : c' = cf := by have := hi.symm.trans hf'; simp at this; exact this.1.symm
      rw [hdecl] at hown2
      rw [← e1]; exact Option.some.inj (hown.symm.trans hown2)
    have h6 := u_fits hfc hkC hkind (Or.inr hlay) hi (hF.2.2.1 k hk) hnf.1 hnf.2
    exact W.putFinK hx hb hown (hws _ hw) hi hst hcf (hnm.trans hin2) (by rw [q2]; exact h6) q1 q3 (by rw [hsl]; exact k2_hasslot (q4 k hk)) rfl rfl hd fin

theorem g_putfi {ci N n ix : Nat} {C : String} {T : u_T} {ty : Nat → FieldType} (hF : CFx ci C T N ty) (k : Nat) {z : Int} (hy : ly n = (ci, N)) (hc : ci < 6) (hk : k < N) (hr : rfk ci k = false) (h0 : ¬ (ci = 0 ∧ k = 1)) (hw : Cond.fieldLink M.y.cls ix (T k).1 (T k).2.1 (T k).2.2.1 ∈ WS)
    (hfin : (T k).2.2.2 = false ∨ ((T k).2.2.2 = true ∧ M.y.name = "<init>" ∧ (T k).1 = M.y.cls)) (ht : ty k = .int) (hd : decode M.cc pc = .ok (.putfield ix, 3)) (hn : L n ≠ 0) (hz : -2147483648 ≤ z ∧ z < 2147483648) (kk : GW M P kc ks (pc + 3) ls st L (gup A n k z)) : GW M P kc ks pc ls (gi z :: gr n :: st) L A :=
  g_putf hF k hy hc hk h0 hw hfin (Or.inl ⟨hr, rfl, ht⟩) hz hd hn kk
theorem g_putfr {ci N n ix : Nat} {C : String} {T : u_T} {ty : Nat → FieldType} (hF : CFx ci C T N ty) (k : Nat) {r : Nat} (hy : ly n = (ci, N)) (hc : ci < 6) (hk : k < N) (hr : rfk ci k = true) (hrn : r = rfn ci n k) (h0 : ¬ (ci = 0 ∧ k = 1)) (hw : Cond.fieldLink M.y.cls ix (T k).1 (T k).2.1 (T k).2.2.1 ∈ WS)
    (hfin : (T k).2.2.2 = false ∨ ((T k).2.2.2 = true ∧ M.y.name = "<init>" ∧ (T k).1 = M.y.cls)) (ht : (∃ t, ty k = .object t) ∨ ∃ t, ty k = .array t) (hd : decode M.cc pc = .ok (.putfield ix, 3)) (hn : L n ≠ 0) (kk : GW M P kc ks (pc + 3) ls st L (gup A n k 1)) : GW M P kc ks pc ls (gr r :: gr n :: st) L A :=
  g_putf hF k hy hc hk h0 hw hfin (Or.inr ⟨hr, by rw [hrn], rfl, ht⟩) (by omega) hd hn kk

theorem g_iald {N n : Nat} {z : Int} (i : Nat) (hz : z = (i : Int)) (hi : i < N) (hy : ly n = (6, N)) (hN : N ≤ 2147483648) (hd : decode M.cc pc = .ok (.iaload, 1)) (hn : L n ≠ 0) (kk : -2147483648 ≤ A n i ∧ A n i < 2147483648 → GW M P kc ks (pc + 1) ls (gi (A n i) :: st) L A) : GW M P kc ks pc ls (gi z :: gr n :: st) L A := by
  subst hz
  intro p l e R s m args below meth c D a0 L0 a H locs lsr Q F E1 E3 S hl
  have k2 := kk (S.1.2.2.2 n i) p l e R s m args below meth c D a0 L0 a H locs lsr Q F E1 E3 S hl
  refine va_iald (q0 := 0) (t0 := 0) F.1 F.2.1 F.2.2.2.2.2.2.2.2.2.2.1.1 (Wd_one S.1 hn (gcell_i hy)) rfl rfl (ii_in hi hN) hd ?_
  rw [ii_nat (by omega)]
  exact k2

theorem g_zald {N n : Nat} {z : Int} (i : Nat) (hz : z = (i : Int)) (hi : i < N) (hy : ly n = (7, N)) (hN : N ≤ 2147483648) (hd : decode M.cc pc = .ok (.baload, 1)) (hn : L n ≠ 0) (kk : -2147483648 ≤ A n i ∧ A n i < 2147483648 → GW M P kc ks (pc + 1) ls (gi (A n i) :: st) L A) : GW M P kc ks pc ls (gi z :: gr n :: st) L A := by
  subst hz
  intro p l e R s m args below meth c D a0 L0 a H locs lsr Q F E1 E3 S hl
  have k2 := kk (S.1.2.2.2 n i) p l e R s m args below meth c D a0 L0 a H locs lsr Q F E1 E3 S hl
  refine va_zald (q0 := 0) (t0 := 1) F.1 F.2.1 F.2.2.2.2.2.2.2.2.2.2.1.1 (Wd_one S.1 hn (gcell_z hy)) rfl rfl (ii_in hi hN) hd ?_
  rw [ii_nat (by omega)]
  exact k2

theorem g_lald {N n : Nat} {z : Int} (i : Nat) (hz : z = (i : Int)) (hi : i < N) (hy : ly n = (8, N)) (hN : N ≤ 2147483648) (hd : decode M.cc pc = .ok (.laload, 1)) (hn : L n ≠ 0) (kk : -2147483648 ≤ A n i ∧ A n i < 2147483648 → GW M P kc ks (pc + 1) ls (gl (A n i) :: st) L A) : GW M P kc ks pc ls (gi z :: gr n :: st) L A := by
  subst hz
  intro p l e R s m args below meth c D a0 L0 a H locs lsr Q F E1 E3 S hl
  have k2 := kk (S.1.2.2.2 n i) p l e R s m args below meth c D a0 L0 a H locs lsr Q F E1 E3 S hl
  refine va_lald (q0 := 0) (t0 := 2) F.1 F.2.1 F.2.2.2.2.2.2.2.2.2.2.1.1 (Wd_one S.1 hn (gcell_l hy)) rfl rfl (ii_in hi hN) hd ?_
  rw [ii_nat (by omega)]
  exact k2

theorem g_iast {N n : Nat} {z x : Int} (i : Nat) (hz : z = (i : Int)) (hi : i < N) (hx : -2147483648 ≤ x ∧ x < 2147483648) (hy : ly n = (6, N)) (hN : N ≤ 2147483648) (hd : decode M.cc pc = .ok (.iastore, 1)) (hn : L n ≠ 0) (kk : GW M P kc ks (pc + 1) ls st L (gup A n i x)) : GW M P kc ks pc ls (gi x :: gi z :: gr n :: st) L A := by
  subst hz
  intro p l e R s m args below meth c D a0 L0 a H locs lsr Q F E1 E3 S hl
  have hat := S.1.1 n hn
  rw [gcell_i hy] at hat
  have hK := F.2.2.2.2.2.2.2.2.2.2.1.1
  refine W.iast F.1 F.2.1 hat ((hK.2 0 _ rfl).1 N _) (fun q => by cases q) (by show ¬ (Int32.ofInt (i : Int) < 0 ∨ (arrV _ _ _).slots.size ≤ _); rw [arrV_size]; exact ii_in hi hN) rfl rfl hd fun H1 eH z oq => ?_
  refine kk p l e R s m args below meth c D a0 L0 a H1 _ lsr Q F E1 E3 (SH_put S hn (fun m hm => gup_ne hm) ?_ z oq (fun k _ _ h4 => absurd h4 (by rw [hy]; simp [rfk])) (fun k => ?_)) hl
  · rw [gcell_i hy]
    show H1[a n]? = some (vp_cell _ _)
    rw [eH]
    rw [vp_cell_i, vp_cell_i, arrV_store]
    congr 2
    funext q
    rw [ii_nat (by omega)]
    by_cases hq : q = i
    · subst hq
      simp [updV, gup]
    · simp [updV, gup, hq]
  · by_cases hq : k = i
    · simp only [gup, hq, and_self, if_true]
      exact hx
    · simp only [gup, hq, and_false, if_false]
      exact S.1.2.2.2 n k

theorem g_last {N n : Nat} {z x : Int} (i : Nat) (hz : z = (i : Int)) (hi : i < N) (hx : -2147483648 ≤ x ∧ x < 2147483648) (hy : ly n = (8, N)) (hN : N ≤ 2147483648) (hd : decode M.cc pc = .ok (.lastore, 1)) (hn : L n ≠ 0) (kk : GW M P kc ks (pc + 1) ls st L (gup A n i x)) : GW M P kc ks pc ls (gl x :: gi z :: gr n :: st) L A := by
  subst hz
  intro p l e R s m args below meth c D a0 L0 a H locs lsr Q F E1 E3 S hl
  have hat := S.1.1 n hn
  rw [gcell_l hy] at hat
  have hK := F.2.2.2.2.2.2.2.2.2.2.1.1
  refine W.last F.1 F.2.1 hat ((hK.2 2 _ rfl).1 N _) (fun q => by cases q) (by show ¬ (Int32.ofInt (i : Int) < 0 ∨ (arrV _ _ _).slots.size ≤ _); rw [arrV_size]; exact ii_in hi hN) rfl rfl hd fun H1 eH z oq => ?_
  refine kk p l e R s m args below meth c D a0 L0 a H1 _ lsr Q F E1 E3 (SH_put S hn (fun m hm => gup_ne hm) ?_ z oq (fun k _ _ h4 => absurd h4 (by rw [hy]; simp [rfk])) (fun k => ?_)) hl
  · rw [gcell_l hy]
    show H1[a n]? = some (vp_cell _ _)
    rw [eH]
    rw [vp_cell_l, vp_cell_l, arrV_store]
    congr 2
    funext q
    rw [ii_nat (by omega)]
    by_cases hq : q = i
    · subst hq
      simp [updV, gup]
    · simp [updV, gup, hq]
  · by_cases hq : k = i
    · simp only [gup, hq, and_self, if_true]
      exact hx
    · simp only [gup, hq, and_false, if_false]
      exact S.1.2.2.2 n k

theorem g_zast {N n : Nat} {z x : Int} (i : Nat) (hz : z = (i : Int)) (hi : i < N) (hx : x = 0 ∨ x = 1) (hy : ly n = (7, N)) (hN : N ≤ 2147483648) (hd : decode M.cc pc = .ok (.bastore, 1)) (hn : L n ≠ 0) (kk : GW M P kc ks (pc + 1) ls st L (gup A n i x)) : GW M P kc ks pc ls (gi x :: gi z :: gr n :: st) L A := by
  subst hz
  intro p l e R s m args below meth c D a0 L0 a H locs lsr Q F E1 E3 S hl
  have hat := S.1.1 n hn
  rw [gcell_z hy] at hat
  have hK := F.2.2.2.2.2.2.2.2.2.2.1.1
  refine W.zast F.1 F.2.1 hat ((hK.2 1 _ rfl).1 N _) (fun q => by cases q) (by show ¬ (Int32.ofInt (i : Int) < 0 ∨ (arrV _ _ _).slots.size ≤ _); rw [arrV_size]; exact ii_in hi hN) rfl rfl hd fun H1 eH z oq => ?_
  rw [show narrow .boolean (.int (Int32.ofInt x)) = .int (Int32.ofInt x) by rcases hx with rfl | rfl <;> rfl] at eH
  refine kk p l e R s m args below meth c D a0 L0 a H1 _ lsr Q F E1 E3 (SH_put S hn (fun m hm => gup_ne hm) ?_ z oq (fun k _ _ h4 => absurd h4 (by rw [hy]; simp [rfk])) (fun k => ?_)) hl
  · rw [gcell_z hy]
    show H1[a n]? = some (vp_cell _ _)
    rw [eH]
    rw [vp_cell_i, vp_cell_i, arrV_store]
    congr 2
    funext q
    rw [ii_nat (by omega)]
    by_cases hq : q = i
    · subst hq
      simp [updV, gup]
    · simp [updV, gup, hq]
  · by_cases hq : k = i
    · simp only [gup, hq, and_self, if_true]
      rcases hx with rfl | rfl <;> decide
    · simp only [gup, hq, and_false, if_false]
      exact S.1.2.2.2 n k

theorem g_alen {N n cd : Nat} (hy : ly n = (cd, N)) (hcd : cd = 6 ∨ cd = 7 ∨ cd = 8) (hd : decode M.cc pc = .ok (.arraylength, 1)) (hn : L n ≠ 0) (kk : GW M P kc ks (pc + 1) ls (gi N :: st) L A) : GW M P kc ks pc ls (gr n :: st) L A := by
  intro p l e R s m args below meth c D a0 L0 a H locs lsr Q F E1 E3 S hl
  have k2 := kk p l e R s m args below meth c D a0 L0 a H locs lsr Q F E1 E3 S hl
  have hv : Int32.ofNat N = Int32.ofInt (N : Int) := rfl
  rcases hcd with rfl | rfl | rfl
  · exact va_alen (q0 := 0) (t0 := 0) F.1 F.2.1 F.2.2.2.2.2.2.2.2.2.2.1.1 (Wd_one S.1 hn (gcell_i hy)) rfl rfl hv hd k2
  · exact va_alen (q0 := 0) (t0 := 1) F.1 F.2.1 F.2.2.2.2.2.2.2.2.2.2.1.1 (Wd_one S.1 hn (gcell_z hy)) rfl rfl hv hd k2
  · exact va_alen (q0 := 0) (t0 := 2) F.1 F.2.1 F.2.2.2.2.2.2.2.2.2.2.1.1 (Wd_one S.1 hn (gcell_l hy)) rfl rfl hv hd k2
theorem g_cast {ci N n ix : Nat} {C : String} {T : u_T} {ty : Nat → FieldType} (hF : CFx ci C T N ty) (hy : ly n = (ci, N)) (hc : ci < 6) (hw : Cond.classLink M.y.cls ix C ∈ WS) (hd : decode M.cc pc = .ok (.checkcast ix, 3)) (hn : L n ≠ 0) (kk : GW M P kc ks (pc + 3) ls (gr n :: st) L A) : GW M P kc ks pc ls (gr n :: st) L A := by
  intro p l e R s m args below meth c D a0 L0 a H locs lsr Q F E1 E3 S hl
  have k2 := kk p l e R s m args below meth c D a0 L0 a H locs lsr Q F E1 E3 S hl
  have hK := F.2.2.2.2.2.2.2.2.2.2.1.1
  exact va_castS F.1 F.2.1 F.2.2.2.1 (F.2.2.2.2.1 _ hw) (hK.1 ci _ hF.1).2 (va_recv hK (Wd_one S.1 hn (gcell_o hy hc)) hF.1 (q0 := 0) rfl) hd k2
theorem il_conv {x : Int} (h : -2147483648 ≤ x ∧ x < 2147483648) : (Int32.ofInt x).toInt64 = Int64.ofInt x := by
  rw [← Int64.toInt_inj, Int32.toInt_toInt64, ii_lo h.1 h.2, Int64.toInt_ofInt_of_le (by omega) (by omega)]
theorem g_i2l {x : Int} (hx : -2147483648 ≤ x ∧ x < 2147483648) (hd : decode M.cc pc = .ok (.i2l, 1)) (kk : GW M P kc ks (pc + 1) ls (gl x :: st) L A) : GW M P kc ks pc ls (gi x :: st) L A := by
  intro p l e R s m args below meth c D a0 L0 a H locs lsr Q F E1 E3 S hl
  have k2 := kk p l e R s m args below meth c D a0 L0 a H locs lsr Q F E1 E3 S hl
  exact lv_i2l F.1 F.2.1 hd (il_conv hx) k2
def icmp (x y : Int) : Int := if y < x then 1 else if x = y then 0 else -1
theorem lg_icmp {x y : Int} (hx : -2147483648 ≤ x ∧ x < 2147483648) (hy : -2147483648 ≤ y ∧ y < 2147483648) : lg_cmp (Int64.ofInt x) (Int64.ofInt y) = Int32.ofInt (icmp x y) := by
  have e1 : (Int64.ofInt x).toInt = x := Int64.toInt_ofInt_of_le (by omega) (by omega)
  have e2 : (Int64.ofInt y).toInt = y := Int64.toInt_ofInt_of_le (by omega) (by omega)
  have h1 : Int64.ofInt y < Int64.ofInt x ↔ y < x := by rw [Int64.lt_iff_toInt_lt, e1, e2]
  have h2 : Int64.ofInt x = Int64.ofInt y ↔ x = y := by rw [← Int64.toInt_inj, e1, e2]
  unfold lg_cmp icmp
  by_cases c1 : y < x
  · simp [c1, h1.mpr c1]
  · by_cases c2 : x = y
    · subst c2; simp [c1]
    · have h3 : ¬ Int64.ofInt y < Int64.ofInt x := fun z => c1 (h1.mp z)
      have h4 : ¬ Int64.ofInt x = Int64.ofInt y := fun z => c2 (h2.mp z)
      simp [c1, c2, h3, h4]
theorem g_lcmp {x y : Int} (hx : -2147483648 ≤ x ∧ x < 2147483648) (hy : -2147483648 ≤ y ∧ y < 2147483648) (hd : decode M.cc pc = .ok (.lcmp, 1)) (kk : GW M P kc ks (pc + 1) ls (gi (icmp x y) :: st) L A) : GW M P kc ks pc ls (gl y :: gl x :: st) L A := by
  intro p l e R s m args below meth c D a0 L0 a H locs lsr Q F E1 E3 S hl
  have k2 := kk p l e R s m args below meth c D a0 L0 a H locs lsr Q F E1 E3 S hl
  refine W.lcmp F.1 F.2.1 hd ?_
  rw [lg_icmp hx hy]
  exact k2
theorem g_tsw {x dflt lo hi : Int} {offs : Array Int} {len dt : Nat} (hx : -2147483648 ≤ x ∧ x < 2147483648) (hd : decode M.cc pc = .ok (.tableswitch dflt lo hi offs, len)) (hdt : (pc : Int) + dflt = (dt : Int))
    (ko : x < lo ∨ hi < x → GW M P kc ks dt ls st L A) (ki : ¬ x < lo → ¬ hi < x → ∃ (off : Int) (tgt : Nat), offs[(x - lo).toNat]? = some off ∧ (pc : Int) + off = (tgt : Int) ∧ GW M P kc ks tgt ls st L A) : GW M P kc ks pc ls (gi x :: st) L A := by
  intro p l e R s m args below meth c D a0 L0 a H locs lsr Q F E1 E3 S hl
  have eX : (Int32.ofInt x).toInt = x := ii_lo hx.1 hx.2
  by_cases h : x < lo ∨ hi < x
  · exact lv_tableOut F.1 F.2.1 hd (by rw [eX]; exact h) hdt (ko h p l e R s m args below meth c D a0 L0 a H locs lsr Q F E1 E3 S hl)
  · have h1 : ¬ x < lo := fun z => h (Or.inl z)
    have h2 : ¬ hi < x := fun z => h (Or.inr z)
    obtain ⟨off, tgt, ho, ht, k⟩ := ki h1 h2
    exact lv_tableIn F.1 F.2.1 hd (by rw [eX]; exact h1) (by rw [eX]; exact h2) (by rw [eX]; exact ho) ht (k p l e R s m args below meth c D a0 L0 a H locs lsr Q F E1 E3 S hl)

end GM
