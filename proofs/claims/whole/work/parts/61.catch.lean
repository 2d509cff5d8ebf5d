set_option maxRecDepth 100000 in
theorem wc_L_13 : Cond.classLink RL 13 "java/lang/IndexOutOfBoundsException" ∈ WS := tb_in 130 (by decide +kernel) (by decide +kernel)
set_option maxRecDepth 100000 in
theorem wc_L_15 : Cond.classLink RL 15 "java/lang/IllegalArgumentException" ∈ WS := tb_in 131 (by decide +kernel) (by decide +kernel)
set_option maxRecDepth 100000 in
theorem wc_L_17 : Cond.classLink RL 17 "java/lang/IllegalStateException" ∈ WS := tb_in 132 (by decide +kernel) (by decide +kernel)
/-- a method with handlers: its words -/
def MFh (M : MD) (n : Nat) : Prop := Cond.codeWith M.y M.cc M.nL M.rt M.hh ∈ WS ∧ (M.y.cls ≠ "java/lang/invoke/MethodHandle" ∧ M.y.cls ≠ "java/lang/invoke/VarHandle") ∧ (parseMethodDescriptor M.y.desc).map (fun d => d.parameters.length) = some n ∧ Cond.initialized M.y.cls ∈ WS ∧ M.hh ≠ [] ∧ M.nL ≤ 40
theorem wsd_h {M : MD} (h : M.hh ≠ []) : wsd M = Cond.codeWith M.y M.cc M.nL M.rt M.hh :: WS := by unfold wsd; rw [if_neg h]
theorem gd_wsh {M : MD} {n : Nat} (h : MFh M n) : GoodIn WS (wsd M) := by
  rw [wsd_h h.2.2.2.2.1]
  exact gd_cons h.1 gd_WS
set_option maxHeartbeats 1000000 in
/-- a contract out of the walk of a body with handlers -/
theorem Ct_ofH {M : MD} {gs : List GV} {ls : List (Nat × GV)} {L : Nat → Nat} {A : Mem} {P : Pst} (hh : M.hh ≠ []) (hy : plainName M.y.cls = true) (hls : ∀ a, lv_args 0 (gs.map (ev a)) = ls.map fun q => (q.1, ev a q.2)) (hle : ∀ a, (lg_sl (gs.map (ev a))).length ≤ M.nL)
    (k : GW M P 0 0 0 ls [] L A) : Ct M gs L A P := by
  intro l hl D a0 sz
  refine vx_ofWH (cc := M.cc) (maxL := M.nL) (ret := M.rt) (hh := M.hh) (ws' := WS) hy (wsd_h hh) ?_
  intro p e s m args below meth c s₁ B hml hv
  obtain ⟨rfl, hsz, hW, hE⟩ := hv
  subst hsz
  have hts := atoms_spec (ws := wsd M) B.pre
  have hF : FX M p l (headSpec (wsd M) (rmd M)).room s m (gs.map (ev a0)).toArray meth c D a0 L := by
    refine ⟨B.exec, B.bytes, hml, findClass_of_methodNamed B.named, fun w hw => hts w (by rw [wsd_h hh]; exact List.mem_cons_of_mem _ hw), B.notSynchronized, B.returns, (name_of_methodNamed B.named B.method).1, hl, ?_, hE, Nat.le_refl _, Nat.le_refl _, Nat.le_refl _, Nat.le_refl _⟩
    exact vx_table (x := M.y) B (hts _ (by rw [wsd_h hh]; exact List.mem_cons_self))
  have hl0 := lv_entry (gs.map (ev a0)) (n := M.nL) (hle a0)
  rw [lg_entry_eq]
  generalize (lg_sl (gs.map (ev a0)) ++ List.replicate (M.nL - (lg_sl (gs.map (ev a0))).length) Slot.unset).toArray = lsr at hl0 ⊢
  rw [hls] at hl0
  exact k p l e _ s m _ below meth c D a0 L a0 s.heap [] lsr _ hF (en_std hF) (en3_std hF) ⟨hW, fun n hn => Or.inl ⟨n, hn, rfl⟩, fun _ _ _ => rfl, fun _ h => h, fun _ => ⟨rfl, rfl⟩, va_S.rf⟩ hl0
/-- an exception E at pc goes to the handler at h -/
def HD (M : MD) (E : String) (pc h : Nat) : Prop := ∃ (pre : List ExceptionTableEntry) (x : ExceptionTableEntry) (suf : List ExceptionTableEntry), tableOf M.hh = pre ++ x :: suf ∧
  (∀ z ∈ pre, covers z pc = false ∨ (z.catchType ≠ 0 ∧ ∃ nm : String, Cond.classLink M.y.cls z.catchType nm ∈ WS ∧ (E, nm) ∈ NCS)) ∧ covers x pc = true ∧ x.catchType ≠ 0 ∧ x.handlerPc = h ∧ Cond.classLink M.y.cls x.catchType E ∈ WS ∧ Cond.castable E E ∈ EVW
section GCH
variable {M My : MD} {P P1 : Pst} {p : Program} {l : Launch} {e : Env} {R : Room} {s : State} {m : MethodId} {args : Array Value} {below : List Frame} {meth : Method} {c : Code} {D : GD} {a0 L0 a L : Nat → Nat} {A : Mem} {H : Heap} {locs : List Loc}
set_option maxHeartbeats 1000000 in
theorem g_coreH {Q : State → Prop} {kc ks pc : Nat} {ls : List (Nat × GV)} {st : List GV} {lsr : Array Slot} {st0 : List Value} {rest : List Value} {av : Array Value} (F : FX M p l R s m args meth c D a0 L0) (E1 : EN M P p l e R s m args below meth c D a0 L0 Q) (E3 : EN3 M P p l e R s m args below meth c D a0 L0 Q)
    (S : SH M D a0 L0 s a L A H locs) (hl : lv_has lsr M.nL (ls.map fun q => (q.1, ev a q.2))) (hrest : rest = st.map (ev a))
    (hr : vx_Run p l e R s m args below meth c H locs kc ks My.mc My.ms (F0 m pc lsr st0) rest (CtQ My D a L P1 H.size av) (CtX My D a L P1 H.size) (fpt a L H.size))
    (hfl : My.fl = true → M.fl = true) (hok : My.fl = false ∨ ((∀ q ∈ ls, okv L q.2) ∧ ∀ v ∈ st, okv L v))
    (kk : ∀ (v : Option GV) (L' : Nat → Nat) (A' : Mem), P1 (.inr v) L' A' → (My.fl = false → L' = L) → GW M P (kc + My.mc) (ks + My.ms) (pc + 3) ls (v.toList ++ st) L' A')
    (kx : ∀ (E : String) (L' : Nat → Nat) (A' : Mem), P1 (.inl E) L' A' → ∃ h, HD M E pc h ∧ ∀ q : Nat, GW M P (kc + My.mc) (ks + My.ms) h ls [gx q] L' A') : W p l e R s m args below meth c H locs kc ks Q (F0 m pc lsr st0) := by
  have hA : ∀ q, fpt a L H.size q → fpt a0 L0 s.heap.size q := fun q hq => by
    rcases hq with ⟨n, hn, rfl⟩ | hq
    · exact S.2.1 n hn
    · exact Or.inr (Nat.le_trans S.2.2.2.2.2.1 hq)
  subst hrest
  intro T hT X
  rcases hr T hT X with ⟨v, st₀, t, T', Lx, h0, X', hL, e1, e2, ⟨v', a', L', A', hv, hP, hC, hF⟩, st2⟩ | ⟨q, st₀, t, T', Lx, E, ce, h0, X', hL, e1, e2, ⟨a', L', A', hP, hC, hF⟩, hce, hcv, hcl, st2⟩
  · cases hv
    obtain ⟨k1, k2, k3⟩ := vx_keep h0 e1 S.2.2.2.2.2 (fun q _ h => hA q h) hA hL hF
    rw [← e1] at hC
    have S' := SH_back S hfl hC k3
    have ee : ∀ v ∈ st, ev a' v = ev a v := fun v hv => ev_back hC (hok.imp id fun h => h.2 v hv)
    have el : (ls.map fun q => (q.1, ev a q.2)) = ls.map fun q => (q.1, ev a' q.2) := List.map_congr_left fun q hq => by rw [ev_back hC (hok.imp id fun h => h.1 q hq)]
    rw [el] at hl
    have kz := kk v' L' A' hP (fun h => (hC.2.2.2.2 h).2) p l e R s m args below meth c D a0 L0 a' T'.heap (locs ++ Lx) lsr Q F E1 E3 S' hl
    obtain ⟨t2, a1, b1⟩ := kz T' rfl X'
    refine ⟨t2, st2 t2 ?_, b1⟩
    have es : (v'.map (ev a')).toList ++ st.map (ev a) = (v'.toList ++ st).map (ev a') := by
      rw [List.map_append, List.map_congr_left ee]
      cases v' <;> rfl
    show Steps p.tables e below (T'.setTop (F0 m (pc + 3) lsr ((v'.map (ev a')).toList ++ st.map (ev a)))) t2
    rw [es]
    exact a1
  · obtain ⟨k1, k2, k3⟩ := vx_keep h0 e1 S.2.2.2.2.2 (fun q _ h => hA q h) hA hL hF
    rw [← e1] at hC
    have S' := SH_back S hfl hC k3
    obtain ⟨h, ⟨pre, x, suf, hsp, hpass, hx, hx0, hxh, hlk, hca⟩, hk⟩ := kx E L' A' hP
    have el : (ls.map fun q => (q.1, ev a q.2)) = ls.map fun q => (q.1, ev a' q.2) := List.map_congr_left fun q hq => by rw [ev_back hC (hok.imp id fun h => h.1 q hq)]
    rw [el] at hl
    have kz := hk q p l e R s m args below meth c D a0 L0 a' T'.heap (locs ++ Lx) lsr Q F E1 E3 S' hl
    obtain ⟨hx1, hb, hml, hown, hws, hlocks, hrt, hnm, hlt, htab, hE, hR⟩ := id F
    have hot : (Cond.castable E E).onTables = true := by
      simp only [EVW, List.mem_cons, List.not_mem_nil, or_false] at hca
      rcases hca with h | h | h | h | h | h | h | h | h <;> first | (cases h; rfl) | cases h
    have hw : vx_W p l e R s m args below meth c T'.heap (locs ++ Lx) (kc + My.mc) (ks + My.ms) Q (F0 m pc lsr (st.map (ev a))) q :=
      vx_catch (ce := ce) (E := E) (name := E) (own := M.y.cls) hown pre x suf (by rw [htab]; exact hsp) (fun z hz => (hpass z hz).imp id (fun h => ⟨h.1, h.2.imp fun nm hn => ⟨hws _ hn.1, hE.2.2.2.2.2.2.1 _ hn.2⟩⟩)) hx hx0 (hws _ hlk) (va_Nw.use hot (hE.2.2.2.2.2.1 _ hca)) (by rw [e1]; exact hce) hcv hcl (by rw [hxh]; exact kz)
    obtain ⟨t2, a1, b1⟩ := hw T' rfl X'
    exact ⟨t2, st2.trans a1, b1⟩
end GCH
section GKH
variable {M My : MD} {P P1 : Pst} {kc ks pc ix np : Nat} {ls : List (Nat × GV)} {st : List GV} {L : Nat → Nat} {A : Mem} {gs : List GV}
theorem g_callVH {n ci N : Nat} {T : u_T} {ty : Nat → FieldType} (hC : Ct My (gr n :: gs) L A P1) (hM : MF My np) (hF : CFx ci My.y.cls T N ty) (hi : Cond.instanceMethod My.y ∈ WS) (hs : Cond.selects My.y.cls My.y My.y ∈ WS) (hlk : Cond.methodLink M.y.cls ix My.y ∈ WS) (hd : decode M.cc pc = .ok (.invokevirtual ix, 3)) (hdp : My.dp < M.dp)
    (hy : ly n = (ci, N)) (hc : ci < 6) (hn : L n ≠ 0) (hnp : gs.length = np) (hst : ∀ a, ((st.map (ev a)).map fun v => v.category).sum ≤ 8) (hk1 : kc + My.mc ≤ M.mc) (hk2 : ks + My.ms ≤ M.ms) (hfl : My.fl = true → M.fl = true) (hok : My.fl = false ∨ ((∀ q ∈ ls, okv L q.2) ∧ ∀ v ∈ st, okv L v))
    {stk : List GV} (hstk : stk = gs.reverse ++ gr n :: st)
    (kk : ∀ (v : Option GV) (L' : Nat → Nat) (A' : Mem), P1 (.inr v) L' A' → (My.fl = false → L' = L) → GW M P (kc + My.mc) (ks + My.ms) (pc + 3) ls (v.toList ++ st) L' A')
    (kx : ∀ (E : String) (L' : Nat → Nat) (A' : Mem), P1 (.inl E) L' A' → ∃ h, HD M E pc h ∧ ∀ q : Nat, GW M P (kc + My.mc) (ks + My.ms) h ls [gx q] L' A') : GW M P kc ks pc ls stk L A := by
  intro p l e R s m args below meth c D a0 L0 a H locs lsr Q F E1 E3 S hl
  subst hstk
  obtain ⟨hx, hb, hml, hown, hws, hlocks, hrt, hnm, hlt, htab, hE, hR1, hR2, hR3, hR4⟩ := id F
  have hm := hC l hlt D a H.size
  have h5 := hM.2.2.2.2.2
  refine g_coreH F E1 E3 S hl rfl (vx_runV (As := gs.map (ev a)) (b := a n) ⟨hx, hb, hml, hown, hws⟩ hm (cwV np hws (gd_cons hlk (gd_cons hi (gd_cons hs (gd_cons hM.2.2.2.1 (gd_wsd hM))))) (wsd_0 hM.2.2.2.2.1) rfl rfl ⟨rfl, hM.2.1.1, hM.2.1.2, hM.2.2.1⟩ ⟨by show 12 + My.dp + 1 ≤ R.frames; omega, by show 8 + (My.nL + 11) + (300 + 60 * My.dp) ≤ R.locals; omega⟩)
    ⟨CtP_blind, va_recv hE.1 (Wd_one S.1 hn (gcell_o hy hc)) hF.1 (q0 := 0) rfl, CtP_at F S (gr n :: gs)⟩ rfl (by rw [List.length_map]; exact hnp) hl.1 ?_ (lv_room (hst a)) hd ⟨by omega, by omega⟩) hfl hok kk kx
  show (gs.reverse ++ gr n :: st).map (ev a) = _
  rw [List.map_append, List.map_reverse, List.map_cons]
  rfl
/-- what was caught is put away -/
theorem g_sax {i q : Nat} (hd : decode M.cc pc = .ok (.astore i, 2)) (hn : i < M.nL) (k : GW M P kc ks (pc + 2) [] st L A) : GW M P kc ks pc ls (gx q :: st) L A := by
  intro p l e R s m args below meth c D a0 L0 a H locs lsr Q F E1 E3 S hl
  have hl0 : lv_has lsr M.nL (([] : List (Nat × GV)).map fun w => (w.1, ev a w.2)) := ⟨hl.1, hl.2.1, fun _ h => absurd h List.not_mem_nil⟩
  refine lv_astore F.1 F.2.1 (lv' := [(i, Value.ref q)]) hd hl0 hn rfl (fun ls2 hl2 => ?_)
  exact k p l e R s m args below meth c D a0 L0 a H locs ls2 Q F E1 E3 S ⟨hl2.1, hl2.2.1, fun _ h => absurd h List.not_mem_nil⟩
theorem g_saxn {i q : Nat} {f : Fin 4} (hd : decode M.cc pc = .ok (.astore_n f, 1)) (hi : (f : Nat) = i) (hn : i < M.nL) (k : GW M P kc ks (pc + 1) [] st L A) : GW M P kc ks pc ls (gx q :: st) L A := by
  intro p l e R s m args below meth c D a0 L0 a H locs lsr Q F E1 E3 S hl
  have hl0 : lv_has lsr M.nL (([] : List (Nat × GV)).map fun w => (w.1, ev a w.2)) := ⟨hl.1, hl.2.1, fun _ h => absurd h List.not_mem_nil⟩
  refine lv_astore_n F.1 F.2.1 (lv' := [(i, Value.ref q)]) hd hi hl0 hn rfl (fun ls2 hl2 => ?_)
  exact k p l e R s m args below meth c D a0 L0 a H locs ls2 Q F E1 E3 S ⟨hl2.1, hl2.2.1, fun _ h => absurd h List.not_mem_nil⟩
end GKH

