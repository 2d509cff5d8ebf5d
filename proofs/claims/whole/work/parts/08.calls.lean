def okv (L : Nat → Nat) (v : GV) : Prop := match v with
  | Sum.inl _ => True
  | Sum.inr n => L n ≠ 0 ∧ (ly n).1 ≠ 9
theorem okv_i {L : Nat → Nat} (z : Int) : okv L (gi z) := trivial
theorem okv_r {L : Nat → Nat} {n : Nat} (h : L n ≠ 0) (h2 : (ly n).1 ≠ 9) : okv L (gr n) := ⟨h, h2⟩
theorem okv_n {L : Nat → Nat} {ls : List (Nat × GV)} (h : ∀ q ∈ ls, okv L q.2) (i : Nat) (v : GV) (hv : okv L v) : ∀ q ∈ (i, v) :: ls, okv L q.2 := fun q hq => by
  rcases List.mem_cons.mp hq with rfl | hq
  · exact hv
  · exact h q hq
/-- a method's words: n parameters -/
def MF (M : MD) (n : Nat) : Prop := Cond.code M.y M.cc M.nL M.rt ∈ WS ∧ (M.y.cls ≠ "java/lang/invoke/MethodHandle" ∧ M.y.cls ≠ "java/lang/invoke/VarHandle") ∧ (parseMethodDescriptor M.y.desc).map (fun d => d.parameters.length) = some n ∧ Cond.initialized M.y.cls ∈ WS ∧ M.hh = [] ∧ M.nL ≤ 40
theorem wsd_0 {M : MD} (h : M.hh = []) : wsd M = Cond.code M.y M.cc M.nL M.rt :: WS := by unfold wsd; rw [if_pos h]
theorem gd_cons {w : Cond} {ws : List Cond} (h : w ∈ WS) (h2 : GoodIn WS ws) : GoodIn WS (w :: ws) := fun x hx => by
  rcases List.mem_cons.mp hx with rfl | hx
  · exact ⟨h, WS_good h⟩
  · exact h2 x hx
theorem gd_WS : GoodIn WS WS := fun _ h => ⟨h, WS_good h⟩
theorem gd_wsd {M : MD} {n : Nat} (h : MF M n) : GoodIn WS (wsd M) := by
  rw [wsd_0 h.2.2.2.2.1]
  exact gd_cons h.1 gd_WS
section GC
variable {M My : MD} {P P1 : Pst} {p : Program} {l : Launch} {e : Env} {R : Room} {s : State} {m : MethodId} {args : Array Value} {below : List Frame} {meth : Method} {c : Code} {D : GD} {a0 L0 a L : Nat → Nat} {A : Mem} {H : Heap} {locs : List Loc}
theorem Ev_at (F : FX M p l R s m args meth c D a0 L0) (S : SH M D a0 L0 s a L A H locs) {U : State} (hU : U.heap = H) (hW : s.WarmedH U.vm) : Ev D (fpt a L H.size) U U.heap := by
  have hE := F.2.2.2.2.2.2.2.2.2.2.1
  have hva := S.2.2.2.2.2
  rw [hU]
  refine Ev.narrow (Ev.kept (Ev.warm hW hE) hva.2.1) (fun q hq => ?_)
  rcases hq with ⟨n, hn, rfl⟩ | hq
  · exact S.2.1 n hn
  · exact Or.inr (Nat.le_trans hva.1 hq)
theorem CtP_blind {a0 L0 : Nat → Nat} {A : Mem} {sz : Nat} {gs : List GV} : FrameBlind (CtP D a0 L0 A sz gs) := fun v U g mk h => by
  obtain ⟨h1, h2, h3, h4⟩ := h
  have h5 : Ev D (fpt a0 L0 sz) (U.calling g mk v) U.heap := Ev.same (s := U) (U := U.calling g mk v) (by rfl) h4
  exact ⟨h1, h2, h3, h5⟩
theorem CtP_at (F : FX M p l R s m args meth c D a0 L0) (S : SH M D a0 L0 s a L A H locs) (gs : List GV) : ∀ U : State, U.heap = H → s.WarmedH U.vm → CtP D a L A H.size gs (gs.map (ev a)).toArray U :=
  fun U hU hW => ⟨rfl, by rw [hU], by rw [hU]; exact S.1, Ev_at F S hU hW⟩
theorem SH_back (S : SH M D a0 L0 s a L A H locs) (hfl : My.fl = true → M.fl = true) {a' L' : Nat → Nat} {A' : Mem} {H1 : Heap} {locs1 : List Loc} (hC : CE My D a L H.size a' L' A' H1) (hva : va_S (fpt a0 L0 s.heap.size) s.heap H1 locs1) : SH M D a0 L0 s a' L' A' H1 locs1 := by
  obtain ⟨c1, c2, c3, c4, c5⟩ := hC
  obtain ⟨hW, hf, hag, hmo, hfl0, hva0⟩ := S
  refine ⟨c1, fun n hn => ?_, fun n hn h9 => ?_, fun n hn => c4 n (hmo n hn), fun h => ?_, hva⟩
  · rcases c2 n hn with ⟨k, hk, h⟩ | h
    · rw [h]; exact hf k hk
    · exact Or.inr (Nat.le_trans hva0.1 h)
  · rw [c3 n (hmo n hn) h9, hag n hn h9]
  · have h1 : My.fl = false := by
      cases hb : My.fl with
      | false => rfl
      | true => rw [hfl hb] at h; cases h
    obtain ⟨q1, q2⟩ := c5 h1
    obtain ⟨q3, q4⟩ := hfl0 h
    exact ⟨q1.trans q3, q2.trans q4⟩
theorem ev_back {a' L' : Nat → Nat} {A' : Mem} {H1 : Heap} {sz : Nat} (hC : CE My D a L sz a' L' A' H1) {v : GV} (h : My.fl = false ∨ okv L v) : ev a' v = ev a v := by
  rcases h with h | h
  · rw [(hC.2.2.2.2 h).1]
  · cases v with
    | inl x => rfl
    | inr n => show Value.ref (a' n) = Value.ref (a n); rw [hC.2.2.1 n h.1 h.2]
set_option maxHeartbeats 1000000 in
theorem g_core {Q : State → Prop} {kc ks pc : Nat} {ls : List (Nat × GV)} {st : List GV} {lsr : Array Slot} {st0 : List Value} {rest : List Value} {av : Array Value} (F : FX M p l R s m args meth c D a0 L0) (E1 : EN M P p l e R s m args below meth c D a0 L0 Q) (E3 : EN3 M P p l e R s m args below meth c D a0 L0 Q)
    (S : SH M D a0 L0 s a L A H locs) (hl : lv_has lsr M.nL (ls.map fun q => (q.1, ev a q.2))) (hrest : rest = st.map (ev a))
    (hr : vx_Run p l e R s m args below meth c H locs kc ks My.mc My.ms (F0 m pc lsr st0) rest (CtQ My D a L P1 H.size av) (CtX My D a L P1 H.size) (fpt a L H.size))
    (hfl : My.fl = true → M.fl = true) (hok : My.fl = false ∨ ((∀ q ∈ ls, okv L q.2) ∧ ∀ v ∈ st, okv L v))
    (kk : ∀ (v : Option GV) (L' : Nat → Nat) (A' : Mem), P1 (.inr v) L' A' → (My.fl = false → L' = L) → GW M P (kc + My.mc) (ks + My.ms) (pc + 3) ls (v.toList ++ st) L' A')
    (kx : ∀ (E : String) (L' : Nat → Nat) (A' : Mem), P1 (.inl E) L' A' → P (.inl E) L' A' ∧ kc + My.mc ≤ M.mc ∧ ks + My.ms ≤ M.ms ∧ M.hh = []) : W p l e R s m args below meth c H locs kc ks Q (F0 m pc lsr st0) := by
  have hA : ∀ q, fpt a L H.size q → fpt a0 L0 s.heap.size q := fun q hq => by
    rcases hq with ⟨n, hn, rfl⟩ | hq
    · exact S.2.1 n hn
    · exact Or.inr (Nat.le_trans S.2.2.2.2.2.1 hq)
  subst hrest
  intro T hT X
  rcases hr T hT X with ⟨v, st₀, t, T', Lx, h0, X', hL, e1, e2, ⟨v', a', L', A', hv, hP, hC, hF⟩, st2⟩ | ⟨q, st₀, t, T', Lx, E, ce, h0, X', hL, e1, e2, ⟨a', L', A', hP, hC, hF⟩, hce, hcv, hcl, st2⟩
  · cases hv
    obtain ⟨k1, k2, k3⟩ := vx_keep h0 e1 S.2.2.2.2.2 (fun q _ h => hA q h) hA hL hF
    rw [← e1] at hC
    have S' := SH_back S hfl hC k3
    have ee : ∀ v ∈ st, ev a' v = ev a v := fun v hv => ev_back hC (hok.imp id fun h => h.2 v hv)
    have el : (ls.map fun q => (q.1, ev a q.2)) = ls.map fun q => (q.1, ev a' q.2) := List.map_congr_left fun q hq => by rw [ev_back hC (hok.imp id fun h => h.1 q hq)]
    rw [el] at hl
    have kz := kk v' L' A' hP (fun h => (hC.2.2.2.2 h).2) p l e R s m args below meth c D a0 L0 a' T'.heap (locs ++ Lx) lsr Q F E1 E3 S' hl
    obtain ⟨t2, a1, b1⟩ := kz T' rfl X'
    refine ⟨t2, st2 t2 ?_, b1⟩
    have es : (v'.map (ev a')).toList ++ st.map (ev a) = (v'.toList ++ st).map (ev a') := by
      rw [List.map_append, List.map_congr_left ee]
      cases v' <;> rfl
    show Steps p.tables e below (T'.setTop (F0 m (pc + 3) lsr ((v'.map (ev a')).toList ++ st.map (ev a)))) t2
    rw [es]
    exact a1
  · obtain ⟨k1, k2, k3⟩ := vx_keep h0 e1 S.2.2.2.2.2 (fun q _ h => hA q h) hA hL hF
    rw [← e1] at hC
    have S' := SH_back S hfl hC k3
    obtain ⟨hP2, hm1, hm2, hh⟩ := kx E L' A' hP
    have hw := E1.2 a' L' A' T'.heap (locs ++ Lx) (kc + My.mc) (ks + My.ms) pc lsr (st.map (ev a)) E q ce hP2 S' hm1 hm2 (fun z hz => by rw [F.2.2.2.2.2.2.2.2.2.1, hh] at hz; simp [tableOf] at hz) (by rw [e1]; exact hce) hcv hcl
    obtain ⟨t2, a1, b1⟩ := hw T' rfl X'
    exact ⟨t2, st2.trans a1, b1⟩
end GC
section GK
variable {M My : MD} {P P1 : Pst} {kc ks pc ix np : Nat} {ls : List (Nat × GV)} {st : List GV} {L : Nat → Nat} {A : Mem} {gs : List GV}
/-- a call of an object's method -/
theorem g_callV {n ci N : Nat} {T : u_T} {ty : Nat → FieldType} (hC : Ct My (gr n :: gs) L A P1) (hM : MF My np) (hF : CFx ci My.y.cls T N ty) (hi : Cond.instanceMethod My.y ∈ WS) (hs : Cond.selects My.y.cls My.y My.y ∈ WS) (hlk : Cond.methodLink M.y.cls ix My.y ∈ WS) (hd : decode M.cc pc = .ok (.invokevirtual ix, 3)) (hdp : My.dp < M.dp)
    (hy : ly n = (ci, N)) (hc : ci < 6) (hn : L n ≠ 0) (hnp : gs.length = np) (hst : ∀ a, ((st.map (ev a)).map fun v => v.category).sum ≤ 8) (hk1 : kc + My.mc ≤ M.mc) (hk2 : ks + My.ms ≤ M.ms) (hfl : My.fl = true → M.fl = true) (hok : My.fl = false ∨ ((∀ q ∈ ls, okv L q.2) ∧ ∀ v ∈ st, okv L v))
    {stk : List GV} (hstk : stk = gs.reverse ++ gr n :: st)
    (kk : ∀ (v : Option GV) (L' : Nat → Nat) (A' : Mem), P1 (.inr v) L' A' → (My.fl = false → L' = L) → GW M P (kc + My.mc) (ks + My.ms) (pc + 3) ls (v.toList ++ st) L' A')
    (kx : ∀ (E : String) (L' : Nat → Nat) (A' : Mem), P1 (.inl E) L' A' → P (.inl E) L' A' ∧ M.hh = []) : GW M P kc ks pc ls stk L A := by
  intro p l e R s m args below meth c D a0 L0 a H locs lsr Q F E1 E3 S hl
  subst hstk
  obtain ⟨hx, hb, hml, hown, hws, hlocks, hrt, hnm, hlt, htab, hE, hR1, hR2, hR3, hR4⟩ := id F
  have hm := hC l hlt D a H.size
  have h5 := hM.2.2.2.2.2
  refine g_core F E1 E3 S hl rfl (vx_runV (As := gs.map (ev a)) (b := a n) ⟨hx, hb, hml, hown, hws⟩ hm (cwV np hws (gd_cons hlk (gd_cons hi (gd_cons hs (gd_cons hM.2.2.2.1 (gd_wsd hM))))) (wsd_0 hM.2.2.2.2.1) rfl rfl ⟨rfl, hM.2.1.1, hM.2.1.2, hM.2.2.1⟩ ⟨by show 12 + My.dp + 1 ≤ R.frames; omega, by show 8 + (My.nL + 11) + (300 + 60 * My.dp) ≤ R.locals; omega⟩)
    ⟨CtP_blind, va_recv hE.1 (Wd_one S.1 hn (gcell_o hy hc)) hF.1 (q0 := 0) rfl, CtP_at F S (gr n :: gs)⟩ rfl (by rw [List.length_map]; exact hnp) hl.1 ?_ (lv_room (hst a)) hd ⟨by omega, by omega⟩) hfl hok kk (fun E L' A' h => ⟨(kx E L' A' h).1, hk1, hk2, (kx E L' A' h).2⟩)
  show (gs.reverse ++ gr n :: st).map (ev a) = _
  rw [List.map_append, List.map_reverse]
  rfl
/-- a call of a static method of the own class -/
theorem g_callS (hC : Ct My gs L A P1) (hM : MF My np) (hsc : My.y.cls = M.y.cls) (hs : Cond.static My.y ∈ WS) (hlk : Cond.methodLink M.y.cls ix My.y ∈ WS) (hd : decode M.cc pc = .ok (.invokestatic ix, 3)) (hdp : My.dp < M.dp)
    (hnp : gs.length = np) (hst : ∀ a, ((st.map (ev a)).map fun v => v.category).sum ≤ 8) (hk1 : kc + My.mc ≤ M.mc) (hk2 : ks + My.ms ≤ M.ms) (hfl : My.fl = true → M.fl = true) (hok : My.fl = false ∨ ((∀ q ∈ ls, okv L q.2) ∧ ∀ v ∈ st, okv L v))
    {stk : List GV} (hstk : stk = gs.reverse ++ st)
    (kk : ∀ (v : Option GV) (L' : Nat → Nat) (A' : Mem), P1 (.inr v) L' A' → (My.fl = false → L' = L) → GW M P (kc + My.mc) (ks + My.ms) (pc + 3) ls (v.toList ++ st) L' A')
    (kx : ∀ (E : String) (L' : Nat → Nat) (A' : Mem), P1 (.inl E) L' A' → P (.inl E) L' A' ∧ M.hh = []) : GW M P kc ks pc ls stk L A := by
  intro p l e R s m args below meth c D a0 L0 a H locs lsr Q F E1 E3 S hl
  subst hstk
  obtain ⟨hx, hb, hml, hown, hws, hlocks, hrt, hnm, hlt, htab, hE, hR1, hR2, hR3, hR4⟩ := id F
  have hm := hC l hlt D a H.size
  have h5 := hM.2.2.2.2.2
  refine g_core F E1 E3 S hl rfl (vx_runS (As := gs.map (ev a)) ⟨hx, hb, hml, hown, hws⟩ hm (cwS np hws (gd_cons hlk (gd_cons hs (gd_cons (by rw [← hsc]; exact hM.2.2.2.1) (gd_wsd hM)))) (wsd_0 hM.2.2.2.2.1) rfl rfl ⟨hsc, hM.2.1.1, hM.2.1.2, hM.2.2.1⟩ ⟨by show 12 + My.dp + 1 ≤ R.frames; omega, by show 8 + (My.nL + 11) + (300 + 60 * My.dp) ≤ R.locals; omega⟩)
    ⟨CtP_blind, CtP_at F S gs⟩ rfl (by rw [List.length_map]; exact hnp) hl.1 ?_ (lv_room (hst a)) hd ⟨by omega, by omega⟩) hfl hok kk (fun E L' A' h => ⟨(kx E L' A' h).1, hk1, hk2, (kx E L' A' h).2⟩)
  show (gs.reverse ++ st).map (ev a) = _
  rw [List.map_append, List.map_reverse]
/-- a call of a static method of another class (va_wsS) -/
theorem g_callT (hC : Ct My gs L A P1) (hM : MF My np) (hs : Cond.static My.y ∈ WS) (hlk : Cond.methodLink M.y.cls ix My.y ∈ WS) (hd : decode M.cc pc = .ok (.invokestatic ix, 3)) (hdp : My.dp < M.dp)
    (hnp : gs.length = np) (hst : ∀ a, ((st.map (ev a)).map fun v => v.category).sum ≤ 8) (hk1 : kc + My.mc ≤ M.mc) (hk2 : ks + My.ms ≤ M.ms) (hfl : My.fl = true → M.fl = true) (hok : My.fl = false ∨ ((∀ q ∈ ls, okv L q.2) ∧ ∀ v ∈ st, okv L v))
    {stk : List GV} (hstk : stk = gs.reverse ++ st)
    (kk : ∀ (v : Option GV) (L' : Nat → Nat) (A' : Mem), P1 (.inr v) L' A' → (My.fl = false → L' = L) → GW M P (kc + My.mc) (ks + My.ms) (pc + 3) ls (v.toList ++ st) L' A')
    (kx : ∀ (E : String) (L' : Nat → Nat) (A' : Mem), P1 (.inl E) L' A' → P (.inl E) L' A' ∧ M.hh = []) : GW M P kc ks pc ls stk L A := by
  intro p l e R s m args below meth c D a0 L0 a H locs lsr Q F E1 E3 S hl
  subst hstk
  obtain ⟨hx, hb, hml, hown, hws, hlocks, hrt, hnm, hlt, htab, hE, hR1, hR2, hR3, hR4⟩ := id F
  have hm := hC l hlt D a H.size
  have h5 := hM.2.2.2.2.2
  refine g_core F E1 E3 S hl rfl (vx_runS (As := gs.map (ev a)) ⟨hx, hb, hml, hown, hws⟩ hm (va_cwS np hws (gd_cons hlk (gd_cons hs (gd_cons hM.2.2.2.1 (gd_wsd hM)))) (wsd_0 hM.2.2.2.2.1) rfl rfl ⟨hM.2.1.1, hM.2.1.2, hM.2.2.1⟩ ⟨by show 12 + My.dp + 1 ≤ R.frames; omega, by show 8 + (My.nL + 11) + (300 + 60 * My.dp) ≤ R.locals; omega⟩)
    ⟨CtP_blind, CtP_at F S gs⟩ rfl (by rw [List.length_map]; exact hnp) hl.1 ?_ (lv_room (hst a)) hd ⟨by omega, by omega⟩) hfl hok kk (fun E L' A' h => ⟨(kx E L' A' h).1, hk1, hk2, (kx E L' A' h).2⟩)
  show (gs.reverse ++ st).map (ev a) = _
  rw [List.map_append, List.map_reverse]
/-- a call of a private static method of the nest's host -/
theorem g_callN (hC : Ct My gs L A P1) (hM : MF My np) (hs : Cond.static My.y ∈ WS) {host : String} (hlk : Cond.methodLinkNest M.y.cls ix My.y host ∈ EVW) (hd : decode M.cc pc = .ok (.invokestatic ix, 3)) (hdp : My.dp < M.dp)
    (hnp : gs.length = np) (hst : ∀ a, ((st.map (ev a)).map fun v => v.category).sum ≤ 8) (hk1 : kc + My.mc ≤ M.mc) (hk2 : ks + My.ms ≤ M.ms) (hfl : My.fl = true → M.fl = true) (hok : My.fl = false ∨ ((∀ q ∈ ls, okv L q.2) ∧ ∀ v ∈ st, okv L v))
    {stk : List GV} (hstk : stk = gs.reverse ++ st)
    (kk : ∀ (v : Option GV) (L' : Nat → Nat) (A' : Mem), P1 (.inr v) L' A' → (My.fl = false → L' = L) → GW M P (kc + My.mc) (ks + My.ms) (pc + 3) ls (v.toList ++ st) L' A')
    (kx : ∀ (E : String) (L' : Nat → Nat) (A' : Mem), P1 (.inl E) L' A' → P (.inl E) L' A' ∧ M.hh = []) : GW M P kc ks pc ls stk L A := by
  intro p l e R s m args below meth c D a0 L0 a H locs lsr Q F E1 E3 S hl
  subst hstk
  obtain ⟨hx, hb, hml, hown, hws, hlocks, hrt, hnm, hlt, htab, hE, hR1, hR2, hR3, hR4⟩ := id F
  have hm := hC l hlt D a H.size
  have h5 := hM.2.2.2.2.2
  refine g_core F E1 E3 S hl rfl (vx_runSN (As := gs.map (ev a)) ⟨hx, hb, hml, hown, hws⟩ hm ⟨va_cnB np hws (gd_wsd hM) (wsd_0 hM.2.2.2.2.1) rfl rfl (hE.2.2.2.2.2.1 _ hlk) (hws _ hM.2.2.2.1) ⟨hM.2.1.1, hM.2.1.2, hM.2.2.1⟩ ⟨by show 12 + My.dp + 1 ≤ R.frames; omega, by show 8 + (My.nL + 11) + (300 + 60 * My.dp) ≤ R.locals; omega⟩, hws _ hs, trivial⟩
    ⟨CtP_blind, CtP_at F S gs⟩ rfl (by rw [List.length_map]; exact hnp) hl.1 ?_ (lv_room (hst a)) hd ⟨by omega, by omega⟩) hfl hok kk (fun E L' A' h => ⟨(kx E L' A' h).1, hk1, hk2, (kx E L' A' h).2⟩)
  show (gs.reverse ++ st).map (ev a) = _
  rw [List.map_append, List.map_reverse]
/-- a call of a constructor -/
theorem g_callI {n : Nat} (hC : Ct My (gr n :: gs) L A P1) (hM : MF My np) (hrt : My.rt = none) (hnm : My.y.name = "<init>") (hi : Cond.instanceMethod My.y ∈ WS) (hlk : Cond.methodLink M.y.cls ix My.y ∈ WS) (hd : decode M.cc pc = .ok (.invokespecial ix, 3)) (hdp : My.dp < M.dp)
    (hnp : gs.length = np) (hst : ∀ a, ((st.map (ev a)).map fun v => v.category).sum ≤ 8) (hk1 : kc + My.mc ≤ M.mc) (hk2 : ks + My.ms ≤ M.ms) (hfl : My.fl = true → M.fl = true) (hok : My.fl = false ∨ ((∀ q ∈ ls, okv L q.2) ∧ ∀ v ∈ st, okv L v))
    {stk : List GV} (hstk : stk = gs.reverse ++ gr n :: st)
    (kk : ∀ (v : Option GV) (L' : Nat → Nat) (A' : Mem), P1 (.inr v) L' A' → (My.fl = false → L' = L) → GW M P (kc + My.mc) (ks + My.ms) (pc + 3) ls (v.toList ++ st) L' A')
    (kx : ∀ (E : String) (L' : Nat → Nat) (A' : Mem), P1 (.inl E) L' A' → P (.inl E) L' A' ∧ M.hh = []) : GW M P kc ks pc ls stk L A := by
  intro p l e R s m args below meth c D a0 L0 a H locs lsr Q F E1 E3 S hl
  subst hstk
  obtain ⟨hx, hb, hml, hown, hws, hlocks, hrt0, hnm0, hlt, htab, hE, hR1, hR2, hR3, hR4⟩ := id F
  have hm := hC l hlt D a H.size
  have h5 := hM.2.2.2.2.2
  have hcw := wsd_0 hM.2.2.2.2.1
  have hcd := hM.1
  rw [hrt] at hcw hcd
  refine g_core F E1 E3 S hl rfl (vx_runI (As := gs.map (ev a)) (b := a n) ⟨hx, hb, hml, hown, hws⟩ hm (cwI np hws (gd_wsd hM) hcw rfl rfl (hws _ hM.2.2.2.1) (hws _ hlk) (hws _ hi) hnm ⟨hM.2.1.1, hM.2.1.2, hM.2.2.1⟩ ⟨by show 12 + My.dp + 1 ≤ R.frames; omega, by show 8 + (My.nL + 11) + (300 + 60 * My.dp) ≤ R.locals; omega⟩)
    ⟨CtP_blind, CtP_at F S (gr n :: gs)⟩ rfl (by rw [List.length_map]; exact hnp) hl.1 ?_ (lv_room (hst a)) hd ⟨by omega, by omega⟩) hfl hok kk (fun E L' A' h => ⟨(kx E L' A' h).1, hk1, hk2, (kx E L' A' h).2⟩)
  show (gs.reverse ++ gr n :: st).map (ev a) = _
  rw [List.map_append, List.map_reverse]
  rfl
end GK

