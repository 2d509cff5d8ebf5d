abbrev mL_law : MD := (yL_law, cL_law, 7, (some .boolean), 20, 601024, 7293034, true, [])
/-- the script stands at b, and nothing of ours lives at the start -/
def SX (b Ls : Nat) (xs : Nat → Int32) : State → (Nat → Nat) → Prop := fun s L0 => va_X b Ls xs s s.heap ∧ b < s.heap.size ∧ ∀ n, L0 n = 0
def sx (xs : Nat → Int32) (j : Nat) : Int := (xs j).toInt
theorem sx_rg (xs : Nat → Int32) (j : Nat) : -2147483648 ≤ sx xs j ∧ sx xs j < 2147483648 := ⟨Int32.le_toInt _, Int32.toInt_lt _⟩
theorem sx_of (xs : Nat → Int32) (j : Nat) : Int32.ofInt (sx xs j) = xs j := Int32.ofInt_toInt _
theorem sx_out {b Ls : Nat} {xs : Nat → Int32} {s : State} {L0 a0 : Nat → Nat} (h : SX b Ls xs s L0) : ¬ fpt a0 L0 s.heap.size b := fun q => by
  rcases q with ⟨n, hn, _⟩ | q
  · exact hn (h.2.2 n)
  · exact absurd h.2.1 (Nat.not_lt.mpr q)
theorem kfit {kc a K N : Nat} (h : kc + K ≤ N) (ha : a ≤ K) : kc + a ≤ N := Nat.le_trans (Nat.add_le_add_left ha kc) h
theorem kfit2 {kc a b K N : Nat} (h : kc + K ≤ N) (ha : a + b ≤ K) : kc + a + b ≤ N := by omega
theorem kfit3 {kc a b c K N : Nat} (h : kc + K ≤ N) (ha : a + b + c ≤ K) : kc + a + b + c ≤ N := by omega
theorem c1_x (q : Nat) : c1 (gx q) := fun _ => rfl
theorem c1_cx {ls : List (Nat × GV)} {i q : Nat} (h : ∀ w ∈ ls, c1 w.2) : ∀ w ∈ (i, gx q) :: ls, c1 w.2 := fun w hw => by
  rcases List.mem_cons.mp hw with rfl | hw
  · exact c1_x q
  · exact h w hw
theorem def_4 (A : Mem) (n : Nat) (eD : Nat) (a : Nat → Nat) (j : Nat) (hj : j < 10) : defaultValue (tyX3 j) = gfd eD a (gz A n) 4 n j := by
  have e : ∀ k, gz A n n k = 0 := fun k => by simp [gz]
  unfold gfd
  simp only [e]
  rcases (show j = 0 ∨ j = 1 ∨ j = 2 ∨ j = 3 ∨ j = 4 ∨ j = 5 ∨ j = 6 ∨ j = 7 ∨ j = 8 ∨ j = 9 by omega) with rfl | rfl | rfl | rfl | rfl | rfl | rfl | rfl | rfl | rfl <;> rfl
theorem def_5 (A : Mem) (n : Nat) (eD : Nat) (a : Nat → Nat) (j : Nat) (hj : j < 37) : defaultValue (tyX4 j) = gfd eD a (gz A n) 5 n j := by
  have e : ∀ k, gz A n n k = 0 := fun k => by simp [gz]
  unfold gfd
  simp only [e]
  rcases (show j = 0 ∨ j = 1 ∨ j = 2 ∨ j = 3 ∨ j = 4 ∨ j = 5 ∨ j = 6 ∨ j = 7 ∨ j = 8 ∨ j = 9 ∨ j = 10 ∨ j = 11 ∨ j = 12 ∨ j = 13 ∨ j = 14 ∨ j = 15 ∨ j = 16 ∨ j = 17 ∨ j = 18 ∨ j = 19 ∨ j = 20 ∨ j = 21 ∨ j = 22 ∨ j = 23 ∨ j = 24 ∨ j = 25 ∨ j = 26 ∨ j = 27 ∨ j = 28 ∨ j = 29 ∨ j = 30 ∨ j = 31 ∨ j = 32 ∨ j = 33 ∨ j = 34 ∨ j = 35 ∨ j = 36 by omega) with rfl | rfl | rfl | rfl | rfl | rfl | rfl | rfl | rfl | rfl | rfl | rfl | rfl | rfl | rfl | rfl | rfl | rfl | rfl | rfl | rfl | rfl | rfl | rfl | rfl | rfl | rfl | rfl | rfl | rfl | rfl | rfl | rfl | rfl | rfl | rfl | rfl <;> rfl
section GXL
variable {b Ls : Nat} {xs : Nat → Int32} {M My : MD} {P P1 : Pst} {kc ks pc ix np : Nat} {ls : List (Nat × GV)} {st : List GV} {L L2 : Nat → Nat} {A A2 : Mem} {gs stk : List GV}
theorem x_aldx {q : Fin 4} {i z : Nat} (j : Nat) (hd : decode M.cc pc = .ok (.aload_n q, 1)) (hi : (q : Nat) = i) (hj : ls[j]? = some (i, gx z)) (k : GX (SX b Ls xs) M P kc ks (pc + 1) ls (gx z :: st) L A) : GX (SX b Ls xs) M P kc ks pc ls st L A := by
  intro p l e R s m args below meth c D a0 L0 a H locs lsr Q XX F E1 E3 S hl
  have kk := k p l e R s m args below meth c D a0 L0 a H locs lsr Q XX F E1 E3 S hl
  exact lv_aload_n F.1 F.2.1 hd hi (lv_at hl j (ev_get hj)) kk
theorem x_slen (hd : decode M.cc pc = .ok (.arraylength, 1)) (k : GX (SX b Ls xs) M P kc ks (pc + 1) ls (gi Ls :: st) L A) : GX (SX b Ls xs) M P kc ks pc ls (gx b :: st) L A := by
  intro p l e R s m args below meth c D a0 L0 a H locs lsr Q XX F E1 E3 S hl
  have kk := k p l e R s m args below meth c D a0 L0 a H locs lsr Q XX F E1 E3 S hl
  exact va_slen F.1 F.2.1 XX.1 XX.2.1 (sx_out XX) S.2.2.2.2.2 hd kk
theorem x_sld {z : Int} (i : Nat) (hz : z = i) (hi : i < Ls) (hLs : Ls ≤ 2560) (hd : decode M.cc pc = .ok (.iaload, 1)) (k : GX (SX b Ls xs) M P kc ks (pc + 1) ls (gi (sx xs i) :: st) L A) : GX (SX b Ls xs) M P kc ks pc ls (gi z :: gx b :: st) L A := by
  subst hz
  intro p l e R s m args below meth c D a0 L0 a H locs lsr Q XX F E1 E3 S hl
  have kk := k p l e R s m args below meth c D a0 L0 a H locs lsr Q XX F E1 E3 S hl
  refine va_sld F.1 F.2.1 XX.1 XX.2.1 (sx_out XX) S.2.2.2.2.2 (ii_in hi (by omega)) hd ?_
  rw [ii_nat (by omega)]
  rw [List.map_cons, show ev a (gi (sx xs i)) = .int (xs i) from by show Value.int (Int32.ofInt (sx xs i)) = _; rw [sx_of]] at kk
  exact kk
theorem x_iand31 {v : Int} (hd : decode M.cc pc = .ok (.iand, 1)) (k : ∀ y : Int, 0 ≤ y → y ≤ 31 → GX (SX b Ls xs) M P kc ks (pc + 1) ls (gi y :: st) L A) : GX (SX b Ls xs) M P kc ks pc ls (gi 31 :: gi v :: st) L A := by
  have hb : 0 ≤ (Int32.ofInt v &&& Int32.ofInt 31).toInt ∧ (Int32.ofInt v &&& Int32.ofInt 31).toInt ≤ 31 := by
    generalize Int32.ofInt v = w
    have h : ∀ w : BitVec 32, 0 ≤ (w &&& 31#32).toInt ∧ (w &&& 31#32).toInt ≤ 31 := fun w => by
      have h1 : (w &&& 31#32).toNat ≤ 31 := by rw [BitVec.toNat_and]; exact Nat.and_le_right
      rw [BitVec.toInt_eq_toNat_of_lt (by omega)]
      omega
    exact h w.toBitVec
  have k2 := k _ hb.1 hb.2
  intro p l e R s m args below meth c D a0 L0 a H locs lsr Q XX F E1 E3 S hl
  have kk := k2 p l e R s m args below meth c D a0 L0 a H locs lsr Q XX F E1 E3 S hl
  refine lv_iand F.1 F.2.1 hd ?_
  rw [List.map_cons, show ev a (gi (Int32.ofInt v &&& Int32.ofInt 31).toInt) = .int (Int32.ofInt v &&& Int32.ofInt 31) from by show Value.int (Int32.ofInt _) = _; rw [Int32.ofInt_toInt]] at kk
  exact kk
/-- an argument of a call is read -/
theorem x_arg {i k : Nat} {j4 : Nat} (h0 : ls[0]? = some (0, gx b)) (h4 : ls[j4]? = some (4, gi ((5 * i : Nat) : Int))) (hi : 5 * i + k < Ls) (hLs : Ls ≤ 2560) (d0 : decode M.cc pc = .ok (.aload_n 0, 1)) (d1 : decode M.cc (pc + 1) = .ok (.iload 4, 2)) (d3 : decode M.cc (pc + 3) = .ok (.iconst k, 1)) (d4 : decode M.cc (pc + 4) = .ok (.iadd, 1)) (d5 : decode M.cc (pc + 5) = .ok (.iaload, 1))
    (kk : GX (SX b Ls xs) M P kc ks (pc + 6) ls (gi (sx xs (5 * i + k)) :: st) L A) : GX (SX b Ls xs) M P kc ks pc ls st L A := by
  refine x_aldx 0 d0 rfl h0 ?_
  refine x_iload j4 d1 h4 ?_
  refine x_iconst d3 ?_
  refine x_iadd d4 ?_
  exact x_sld (5 * i + k) (by omega) hi hLs d5 kk
/-- a helper of the law is called -/
theorem x_cSH {r : GV} (hC : Ct My gs L A (pr (some r) L2 A2)) (hM : MFh My np) (hs : Cond.static My.y ∈ WS) (hlk : Cond.methodLink M.y.cls ix My.y ∈ WS) (hd : decode M.cc pc = .ok (.invokestatic ix, 3)) (hdp : My.dp < M.dp) (hnp : gs.length = np) (hst : ∀ a, ((st.map (ev a)).map fun v => v.category).sum ≤ 8) (hk1 : kc + My.mc ≤ M.mc) (hk2 : ks + My.ms ≤ M.ms) (hfl : M.fl = true) (hok : (∀ q ∈ ls, okv L q.2) ∧ ∀ v ∈ st, okv L v) (hstk : stk = gs.reverse ++ st)
    (kk : GX (SX b Ls xs) M P (kc + My.mc) (ks + My.ms) (pc + 3) ls (r :: st) L2 A2) : GX (SX b Ls xs) M P kc ks pc ls stk L A := by
  intro p l e R s m args below meth c D a0 L0 a H locs lsr Q XX F E1 E3 S hl
  subst hstk
  obtain ⟨hx, hb, hml, hown, hws, hlocks, hrt, hnm, hlt, htab, hE, hR1, hR2, hR3, hR4⟩ := id F
  have hm := hC l hlt D a H.size
  have h5 := hM.2.2.2.2.2
  refine x_core XX F E1 E3 S hl rfl (vx_runSX (hh := My.hh) (As := gs.map (ev a)) ⟨hx, hb, hml, hown, hws⟩ hm (vx_cwSW np hws (gd_cons hlk (gd_cons hs (gd_cons hM.2.2.2.1 (gd_wsh hM)))) (wsd_h hM.2.2.2.2.1) rfl rfl ⟨hM.2.1.1, hM.2.1.2, hM.2.2.1⟩ ⟨by show 12 + My.dp + 1 ≤ R.frames; omega, by show 8 + (My.nL + 11) + (300 + 60 * My.dp) ≤ R.locals; omega⟩)
    ⟨CtP_blind, CtP_atL F S gs⟩ rfl (by rw [List.length_map]; exact hnp) hl.1 ?_ (lv_room (hst a)) hd ⟨by omega, by omega⟩) (fun _ => hfl) (Or.inr hok) (fun v L' A' h _ => by obtain ⟨h1, rfl, rfl⟩ := h; cases h1; exact kk) (fun E L' A' h => by obtain ⟨h1, _⟩ := h; cases h1)
  show (gs.reverse ++ st).map (ev a) = _
  rw [List.map_append, List.map_reverse]
theorem x_newl {n : Nat} {x : Int} (hx : x = 1) (hy : ly n = (8, 1)) (hn : L n = 0) (hfl : M.fl = true) (hk1 : kc + 1 ≤ M.mc) (hk2 : ks + 1 ≤ M.ms) (hd : decode M.cc pc = .ok (.newarray .long, 2))
    (hnr : NoRef L A n) (hok : (∀ q ∈ ls, okv L q.2) ∧ ∀ v ∈ st, okv L v)
    (kk : GX (SX b Ls xs) M P (kc + 1) (ks + 1) (pc + 2) ls (gr n :: st) (gset L n 2) (gz A n)) : GX (SX b Ls xs) M P kc ks pc ls (gi x :: st) L A := by
  intro p l e R s m args below meth c D a0 L0 a H locs lsr Q XX F E1 E3 S hl
  obtain ⟨hx0, hb, hml, hown, hws, hlocks, hrt, hnm, hlt, htab, hE, hR1, hR2, hR3, hR4⟩ := id F
  subst hx
  refine va_newaK hx0 hb (atype := .long) (N := 1) (hws _ wa_long) rfl hd rfl (by decide) rfl (by show 1 * 8 ≤ _; omega) (Nat.le_trans hk1 hR3) (Nat.le_trans hk2 hR4) rfl fun H1 cA e1 z1 o1 hAr hNm => ?_
  have hcA : cA = D.2.1.2.2.1 := Option.some.inj (hNm.symm.trans (hE.1.2 2 _ rfl).2)
  have hat : va_at D.1 vwCl (H.size, gcell D (gset a n H.size) (gz A n) n) H1 := by
    rw [gcell_l hy]
    show H1[H.size]? = some (vp_cell _ _)
    rw [vp_cell_l, e1, hcA]
    congr 2
    funext j
    simp [gz]
    rfl
  have S1 := SH_new (v := 2) S hfl hn hat z1 o1 (fun m hm => gcell_new hnr hm) (fun _ k _ => by rw [hy]; rfl)
  have k2 := kk p l e R s m args below meth c D a0 L0 (gset a n H.size) H1 locs lsr Q XX F E1 E3 S1 (by rw [List.map_congr_left (fun w hw => by rw [okv_ev hn (hok.1 w hw)])]; exact hl)
  rw [List.map_cons, List.map_congr_left (fun w hw => okv_ev hn (hok.2 w hw))] at k2
  rw [show ev (gset a n H.size) (gr n) = .ref H.size from by show Value.ref (gset a n H.size n) = _; rw [gset_eq]] at k2
  exact k2
end GXL

