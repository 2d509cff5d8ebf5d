/-- what stays through the law's body: as FX, without its name -/
def FXL (M : MD) (p : Program) (l : Launch) (R : Room) (s : State) (m : MethodId) (args : Array Value) (meth : Method) (c : Code) (D : GD) (a0 L0 : Nat → Nat) : Prop :=
  p.tables.exec = Jvm.exec ∧ c.code = M.cc ∧ c.maxLocals = M.nL ∧ s.vm.findClass M.y.cls = some m.cls ∧ (∀ w ∈ WS, w.before args s = true) ∧ meth.locks = false ∧ meth.sig.returnType = M.rt ∧ True ∧ l.stackTraces = false ∧
  True ∧ Ev D (fpt a0 L0 s.heap.size) s s.heap ∧ 12 + M.dp ≤ R.frames ∧ 300 + 60 * M.dp ≤ R.locals ∧ M.mc ≤ R.cells ∧ M.ms ≤ R.slots
/-- as GW, where X holds of the start -/
def GX (X : State → (Nat → Nat) → Prop) (M : MD) (P : Pst) (kc ks pc : Nat) (ls : List (Nat × GV)) (st : List GV) (L : Nat → Nat) (A : Mem) : Prop :=
  ∀ (p : Program) (l : Launch) (e : Env) (R : Room) (s : State) (m : MethodId) (args : Array Value) (below : List Frame) (meth : Method) (c : Code) (D : GD) (a0 L0 a : Nat → Nat) (H : Heap) (locs : List Loc) (lsr : Array Slot) (Q : State → Prop),
    X s L0 → FXL M p l R s m args meth c D a0 L0 → EN M P p l e R s m args below meth c D a0 L0 Q → EN3 M P p l e R s m args below meth c D a0 L0 Q → SH M D a0 L0 s a L A H locs → lv_has lsr M.nL (ls.map fun q => (q.1, ev a q.2)) →
    W p l e R s m args below meth c H locs kc ks Q (F0 m pc lsr (st.map (ev a)))
section GXC
variable {X : State → (Nat → Nat) → Prop} {M My : MD} {P P1 : Pst} {p : Program} {l : Launch} {e : Env} {R : Room} {s : State} {m : MethodId} {args : Array Value} {below : List Frame} {meth : Method} {c : Code} {D : GD} {a0 L0 a L : Nat → Nat} {A : Mem} {H : Heap} {locs : List Loc}
theorem Ev_atL (F : FXL M p l R s m args meth c D a0 L0) (S : SH M D a0 L0 s a L A H locs) {U : State} (hU : U.heap = H) (hW : s.WarmedH U.vm) : Ev D (fpt a L H.size) U U.heap := by
  have hE := F.2.2.2.2.2.2.2.2.2.2.1
  have hva := S.2.2.2.2.2
  rw [hU]
  refine Ev.narrow (Ev.kept (Ev.warm hW hE) hva.2.1) (fun q hq => ?_)
  rcases hq with ⟨n, hn, rfl⟩ | hq
  · exact S.2.1 n hn
  · exact Or.inr (Nat.le_trans hva.1 hq)
theorem CtP_atL (F : FXL M p l R s m args meth c D a0 L0) (S : SH M D a0 L0 s a L A H locs) (gs : List GV) : ∀ U : State, U.heap = H → s.WarmedH U.vm → CtP D a L A H.size gs (gs.map (ev a)).toArray U :=
  fun U hU hW => ⟨rfl, by rw [hU], by rw [hU]; exact S.1, Ev_atL F S hU hW⟩
set_option maxHeartbeats 1000000 in
theorem x_core {Q : State → Prop} {kc ks pc : Nat} {ls : List (Nat × GV)} {st : List GV} {lsr : Array Slot} {st0 : List Value} {rest : List Value} {av : Array Value} (XX : X s L0) (F : FXL M p l R s m args meth c D a0 L0) (E1 : EN M P p l e R s m args below meth c D a0 L0 Q) (E3 : EN3 M P p l e R s m args below meth c D a0 L0 Q)
    (S : SH M D a0 L0 s a L A H locs) (hl : lv_has lsr M.nL (ls.map fun q => (q.1, ev a q.2))) (hrest : rest = st.map (ev a))
    (hr : vx_Run p l e R s m args below meth c H locs kc ks My.mc My.ms (F0 m pc lsr st0) rest (CtQ My D a L P1 H.size av) (CtX My D a L P1 H.size) (fpt a L H.size))
    (hfl : My.fl = true → M.fl = true) (hok : My.fl = false ∨ ((∀ q ∈ ls, okv L q.2) ∧ ∀ v ∈ st, okv L v))
    (kk : ∀ (v : Option GV) (L' : Nat → Nat) (A' : Mem), P1 (.inr v) L' A' → (My.fl = false → L' = L) → GX X M P (kc + My.mc) (ks + My.ms) (pc + 3) ls (v.toList ++ st) L' A')
    (kx : ∀ (E : String) (L' : Nat → Nat) (A' : Mem), ¬ P1 (.inl E) L' A') : W p l e R s m args below meth c H locs kc ks Q (F0 m pc lsr st0) := by
  have hA : ∀ q, fpt a L H.size q → fpt a0 L0 s.heap.size q := fun q hq => by
    rcases hq with ⟨n, hn, rfl⟩ | hq
    · exact S.2.1 n hn
    · exact Or.inr (Nat.le_trans S.2.2.2.2.2.1 hq)
  subst hrest
  intro T hT X
  rcases hr T hT X with ⟨v, st₀, t, T', Lx, h0, X', hL, e1, e2, ⟨v', a', L', A', hv, hP, hC, hF⟩, st2⟩ | ⟨q, st₀, t, T', Lx, E, ce, h0, X', hL, e1, e2, ⟨a', L', A', hP, hC, hF⟩, hce, hcv, hcl, st2⟩
  · cases hv
    obtain ⟨k1, k2, k3⟩ := vx_keep h0 e1 S.2.2.2.2.2 (fun q _ h => hA q h) hA hL hF
    rw [← e1] at hC
    have S' := SH_back S hfl hC k3
    have ee : ∀ v ∈ st, ev a' v = ev a v := fun v hv => ev_back hC (hok.imp id fun h => h.2 v hv)
    have el : (ls.map fun q => (q.1, ev a q.2)) = ls.map fun q => (q.1, ev a' q.2) := List.map_congr_left fun q hq => by rw [ev_back hC (hok.imp id fun h => h.1 q hq)]
    rw [el] at hl
    have kz := kk v' L' A' hP (fun h => (hC.2.2.2.2 h).2) p l e R s m args below meth c D a0 L0 a' T'.heap (locs ++ Lx) lsr Q XX F E1 E3 S' hl
    obtain ⟨t2, a1, b1⟩ := kz T' rfl X'
    refine ⟨t2, st2 t2 ?_, b1⟩
    have es : (v'.map (ev a')).toList ++ st.map (ev a) = (v'.toList ++ st).map (ev a') := by
      rw [List.map_append, List.map_congr_left ee]
      cases v' <;> rfl
    show Steps p.tables e below (T'.setTop (F0 m (pc + 3) lsr ((v'.map (ev a')).toList ++ st.map (ev a)))) t2
    rw [es]
    exact a1
  · exact absurd hP (kx E L' A')
end GXC
section GXR
variable {X : State → (Nat → Nat) → Prop} {M : MD} {P : Pst} {kc ks pc : Nat} {ls : List (Nat × GV)} {st : List GV} {L : Nat → Nat} {A : Mem}
theorem x_iconst {n : Int} (hd : decode M.cc pc = .ok (.iconst n, 1)) (k : GX X M P kc ks (pc + 1) ls (gi n :: st) L A) : GX X M P kc ks pc ls st L A := by
  intro p l e R s m args below meth c D a0 L0 a H locs lsr Q XX F E1 E3 S hl
  have kk := k p l e R s m args below meth c D a0 L0 a H locs lsr Q XX F E1 E3 S hl
  exact lv_iconst F.1 F.2.1 hd rfl kk
theorem x_bipush {n : Int} (hd : decode M.cc pc = .ok (.bipush n, 2)) (hn : (Int8.ofInt n).toInt32 = Int32.ofInt n) (k : GX X M P kc ks (pc + 2) ls (gi n :: st) L A) : GX X M P kc ks pc ls st L A := by
  intro p l e R s m args below meth c D a0 L0 a H locs lsr Q XX F E1 E3 S hl
  have kk := k p l e R s m args below meth c D a0 L0 a H locs lsr Q XX F E1 E3 S hl
  exact lv_bipush F.1 F.2.1 hd hn kk
theorem x_sipush {n : Int} (hd : decode M.cc pc = .ok (.sipush n, 3)) (hn : (Int16.ofInt n).toInt32 = Int32.ofInt n) (k : GX X M P kc ks (pc + 3) ls (gi n :: st) L A) : GX X M P kc ks pc ls st L A := by
  intro p l e R s m args below meth c D a0 L0 a H locs lsr Q XX F E1 E3 S hl
  have kk := k p l e R s m args below meth c D a0 L0 a H locs lsr Q XX F E1 E3 S hl
  exact lv_sipush F.1 F.2.1 hd hn kk
theorem x_iload_n {q : Fin 4} {i : Nat} {z : Int} (j : Nat) (hd : decode M.cc pc = .ok (.iload_n q, 1)) (hi : (q : Nat) = i) (hj : ls[j]? = some (i, gi z)) (k : GX X M P kc ks (pc + 1) ls (gi z :: st) L A) : GX X M P kc ks pc ls st L A := by
  intro p l e R s m args below meth c D a0 L0 a H locs lsr Q XX F E1 E3 S hl
  have kk := k p l e R s m args below meth c D a0 L0 a H locs lsr Q XX F E1 E3 S hl
  exact lv_iload_n F.1 F.2.1 hd hi (lv_at hl j (ev_get hj)) kk
theorem x_iload {i : Nat} {z : Int} (j : Nat) (hd : decode M.cc pc = .ok (.iload i, 2)) (hj : ls[j]? = some (i, gi z)) (k : GX X M P kc ks (pc + 2) ls (gi z :: st) L A) : GX X M P kc ks pc ls st L A := by
  intro p l e R s m args below meth c D a0 L0 a H locs lsr Q XX F E1 E3 S hl
  have kk := k p l e R s m args below meth c D a0 L0 a H locs lsr Q XX F E1 E3 S hl
  exact lv_iload F.1 F.2.1 hd (lv_at hl j (ev_get hj)) kk
theorem x_aload_n {q : Fin 4} {i : Nat} {z : Nat} (j : Nat) (hd : decode M.cc pc = .ok (.aload_n q, 1)) (hi : (q : Nat) = i) (hj : ls[j]? = some (i, gr z)) (k : GX X M P kc ks (pc + 1) ls (gr z :: st) L A) : GX X M P kc ks pc ls st L A := by
  intro p l e R s m args below meth c D a0 L0 a H locs lsr Q XX F E1 E3 S hl
  have kk := k p l e R s m args below meth c D a0 L0 a H locs lsr Q XX F E1 E3 S hl
  exact lv_aload_n F.1 F.2.1 hd hi (lv_at hl j (ev_get hj)) kk
theorem x_aload {i : Nat} {z : Nat} (j : Nat) (hd : decode M.cc pc = .ok (.aload i, 2)) (hj : ls[j]? = some (i, gr z)) (k : GX X M P kc ks (pc + 2) ls (gr z :: st) L A) : GX X M P kc ks pc ls st L A := by
  intro p l e R s m args below meth c D a0 L0 a H locs lsr Q XX F E1 E3 S hl
  have kk := k p l e R s m args below meth c D a0 L0 a H locs lsr Q XX F E1 E3 S hl
  exact lv_aload F.1 F.2.1 hd (lv_at hl j (ev_get hj)) kk
theorem x_istore_n {q : Fin 4} {i : Nat} {z : Int} (hd : decode M.cc pc = .ok (.istore_n q, 1)) (hi : (q : Nat) = i) (hn : i < M.nL) (hc : ∀ q ∈ ls, c1 q.2) (k : GX X M P kc ks (pc + 1) ((i, gi z) :: ls.filter (fun q => !(q.1 == i))) st L A) : GX X M P kc ks pc ls (gi z :: st) L A := by
  intro p l e R s m args below meth c D a0 L0 a H locs lsr Q XX F E1 E3 S hl
  exact lv_istore_n F.1 F.2.1 hd hi hl hn (lf_cons ls a i (gi z) rfl (fun q hq => hc q hq a)) (fun lsr hl => k p l e R s m args below meth c D a0 L0 a H locs lsr Q XX F E1 E3 S hl)
theorem x_istore {i : Nat} {z : Int} (hd : decode M.cc pc = .ok (.istore i, 2)) (hn : i < M.nL) (hc : ∀ q ∈ ls, c1 q.2) (k : GX X M P kc ks (pc + 2) ((i, gi z) :: ls.filter (fun q => !(q.1 == i))) st L A) : GX X M P kc ks pc ls (gi z :: st) L A := by
  intro p l e R s m args below meth c D a0 L0 a H locs lsr Q XX F E1 E3 S hl
  exact lv_istore F.1 F.2.1 hd hl hn (lf_cons ls a i (gi z) rfl (fun q hq => hc q hq a)) (fun lsr hl => k p l e R s m args below meth c D a0 L0 a H locs lsr Q XX F E1 E3 S hl)
theorem x_astore_n {q : Fin 4} {i : Nat} {z : Nat} (hd : decode M.cc pc = .ok (.astore_n q, 1)) (hi : (q : Nat) = i) (hn : i < M.nL) (hc : ∀ q ∈ ls, c1 q.2) (k : GX X M P kc ks (pc + 1) ((i, gr z) :: ls.filter (fun q => !(q.1 == i))) st L A) : GX X M P kc ks pc ls (gr z :: st) L A := by
  intro p l e R s m args below meth c D a0 L0 a H locs lsr Q XX F E1 E3 S hl
  exact lv_astore_n F.1 F.2.1 hd hi hl hn (lf_cons ls a i (gr z) rfl (fun q hq => hc q hq a)) (fun lsr hl => k p l e R s m args below meth c D a0 L0 a H locs lsr Q XX F E1 E3 S hl)
theorem x_astore {i : Nat} {z : Nat} (hd : decode M.cc pc = .ok (.astore i, 2)) (hn : i < M.nL) (hc : ∀ q ∈ ls, c1 q.2) (k : GX X M P kc ks (pc + 2) ((i, gr z) :: ls.filter (fun q => !(q.1 == i))) st L A) : GX X M P kc ks pc ls (gr z :: st) L A := by
  intro p l e R s m args below meth c D a0 L0 a H locs lsr Q XX F E1 E3 S hl
  exact lv_astore F.1 F.2.1 hd hl hn (lf_cons ls a i (gr z) rfl (fun q hq => hc q hq a)) (fun lsr hl => k p l e R s m args below meth c D a0 L0 a H locs lsr Q XX F E1 E3 S hl)
theorem x_iinc {i : Nat} {n z : Int} (j : Nat) (hd : decode M.cc pc = .ok (.iinc i n, 3)) (hj : ls[j]? = some (i, gi z)) (hn : i < M.nL) (hc : ∀ q ∈ ls, c1 q.2) (k : GX X M P kc ks (pc + 3) ((i, gi (z + n)) :: ls.filter (fun q => !(q.1 == i))) st L A) : GX X M P kc ks pc ls st L A := by
  intro p l e R s m args below meth c D a0 L0 a H locs lsr Q XX F E1 E3 S hl
  exact lv_iinc (v := Int32.ofInt (z + n)) F.1 F.2.1 hd hl (k := j) (ev_get hj) (ii_add z n) hn (lf_cons ls a i (gi (z + n)) rfl (fun q hq => hc q hq a)) (fun lsr hl => k p l e R s m args below meth c D a0 L0 a H locs lsr Q XX F E1 E3 S hl)
theorem x_iadd {x y : Int} (hd : decode M.cc pc = .ok (.iadd, 1)) (k : GX X M P kc ks (pc + 1) ls (gi (x + y) :: st) L A) : GX X M P kc ks pc ls (gi y :: gi x :: st) L A := by
  intro p l e R s m args below meth c D a0 L0 a H locs lsr Q XX F E1 E3 S hl
  have kk := k p l e R s m args below meth c D a0 L0 a H locs lsr Q XX F E1 E3 S hl
  refine lv_iadd F.1 F.2.1 hd ?_
  rw [ii_add]
  exact kk
theorem x_isub {x y : Int} (hd : decode M.cc pc = .ok (.isub, 1)) (k : GX X M P kc ks (pc + 1) ls (gi (x - y) :: st) L A) : GX X M P kc ks pc ls (gi y :: gi x :: st) L A := by
  intro p l e R s m args below meth c D a0 L0 a H locs lsr Q XX F E1 E3 S hl
  have kk := k p l e R s m args below meth c D a0 L0 a H locs lsr Q XX F E1 E3 S hl
  refine lv_isub F.1 F.2.1 hd ?_
  rw [ii_sub]
  exact kk
theorem x_dup {v : GV} (hd : decode M.cc pc = .ok (.dup, 1)) (hv : c1 v) (k : GX X M P kc ks (pc + 1) ls (v :: v :: st) L A) : GX X M P kc ks pc ls (v :: st) L A := by
  intro p l e R s m args below meth c D a0 L0 a H locs lsr Q XX F E1 E3 S hl
  have kk := k p l e R s m args below meth c D a0 L0 a H locs lsr Q XX F E1 E3 S hl
  exact lv_dup F.1 F.2.1 hd (hv a) kk
theorem x_pop {v : GV} (hd : decode M.cc pc = .ok (.pop, 1)) (hv : c1 v) (k : GX X M P kc ks (pc + 1) ls st L A) : GX X M P kc ks pc ls (v :: st) L A := by
  intro p l e R s m args below meth c D a0 L0 a H locs lsr Q XX F E1 E3 S hl
  have kk := k p l e R s m args below meth c D a0 L0 a H locs lsr Q XX F E1 E3 S hl
  exact lv_pop F.1 F.2.1 hd (hv a) kk
theorem x_icmp_eq {x y : Int} {off : Int} {tgt : Nat} (hx : -2147483648 ≤ x ∧ x < 2147483648) (hy : -2147483648 ≤ y ∧ y < 2147483648) (hd : decode M.cc pc = .ok (.if_icmp .eq off, 3)) (ht : (pc : Int) + off = (tgt : Int)) (kt : x = y → GX X M P kc ks tgt ls st L A) (kf : ¬ x = y → GX X M P kc ks (pc + 3) ls st L A) : GX X M P kc ks pc ls (gi y :: gi x :: st) L A := by
  intro p l e R s m args below meth c D a0 L0 a H locs lsr Q XX F E1 E3 S hl
  have k1 := fun h => kt h p l e R s m args below meth c D a0 L0 a H locs lsr Q XX F E1 E3 S hl
  have k2 := fun h => kf h p l e R s m args below meth c D a0 L0 a H locs lsr Q XX F E1 E3 S hl
  exact lv_icmp_eq F.1 F.2.1 hd ht (fun h => k1 ((fun h => ((ii_eq hx hy).mp h)) h)) (fun h => k2 ((fun h => (fun z => h ((ii_eq hx hy).mpr z))) h))
theorem x_if_eq {x : Int} {off : Int} {tgt : Nat} (hx : -2147483648 ≤ x ∧ x < 2147483648) (hd : decode M.cc pc = .ok (.ifCond .eq off, 3)) (ht : (pc : Int) + off = (tgt : Int)) (kt : x = 0 → GX X M P kc ks tgt ls st L A) (kf : ¬ x = 0 → GX X M P kc ks (pc + 3) ls st L A) : GX X M P kc ks pc ls (gi x :: st) L A := by
  intro p l e R s m args below meth c D a0 L0 a H locs lsr Q XX F E1 E3 S hl
  have k1 := fun h => kt h p l e R s m args below meth c D a0 L0 a H locs lsr Q XX F E1 E3 S hl
  have k2 := fun h => kf h p l e R s m args below meth c D a0 L0 a H locs lsr Q XX F E1 E3 S hl
  have hy : -2147483648 ≤ (0 : Int) ∧ (0 : Int) < 2147483648 := by omega
  exact lv_if_eq F.1 F.2.1 hd ht (fun h => k1 ((fun h => ((ii_eq hx hy).mp h)) h)) (fun h => k2 ((fun h => (fun z => h ((ii_eq hx hy).mpr z))) h))
theorem x_icmp_ne {x y : Int} {off : Int} {tgt : Nat} (hx : -2147483648 ≤ x ∧ x < 2147483648) (hy : -2147483648 ≤ y ∧ y < 2147483648) (hd : decode M.cc pc = .ok (.if_icmp .ne off, 3)) (ht : (pc : Int) + off = (tgt : Int)) (kt : ¬ x = y → GX X M P kc ks tgt ls st L A) (kf : x = y → GX X M P kc ks (pc + 3) ls st L A) : GX X M P kc ks pc ls (gi y :: gi x :: st) L A := by
  intro p l e R s m args below meth c D a0 L0 a H locs lsr Q XX F E1 E3 S hl
  have k1 := fun h => kt h p l e R s m args below meth c D a0 L0 a H locs lsr Q XX F E1 E3 S hl
  have k2 := fun h => kf h p l e R s m args below meth c D a0 L0 a H locs lsr Q XX F E1 E3 S hl
  exact lv_icmp_ne F.1 F.2.1 hd ht (fun h => k1 ((fun h => (fun z => h ((ii_eq hx hy).mpr z))) h)) (fun h => k2 ((fun h => ((ii_eq hx hy).mp h)) h))
theorem x_if_ne {x : Int} {off : Int} {tgt : Nat} (hx : -2147483648 ≤ x ∧ x < 2147483648) (hd : decode M.cc pc = .ok (.ifCond .ne off, 3)) (ht : (pc : Int) + off = (tgt : Int)) (kt : ¬ x = 0 → GX X M P kc ks tgt ls st L A) (kf : x = 0 → GX X M P kc ks (pc + 3) ls st L A) : GX X M P kc ks pc ls (gi x :: st) L A := by
  intro p l e R s m args below meth c D a0 L0 a H locs lsr Q XX F E1 E3 S hl
  have k1 := fun h => kt h p l e R s m args below meth c D a0 L0 a H locs lsr Q XX F E1 E3 S hl
  have k2 := fun h => kf h p l e R s m args below meth c D a0 L0 a H locs lsr Q XX F E1 E3 S hl
  have hy : -2147483648 ≤ (0 : Int) ∧ (0 : Int) < 2147483648 := by omega
  exact lv_if_ne F.1 F.2.1 hd ht (fun h => k1 ((fun h => (fun z => h ((ii_eq hx hy).mpr z))) h)) (fun h => k2 ((fun h => ((ii_eq hx hy).mp h)) h))
theorem x_icmp_lt {x y : Int} {off : Int} {tgt : Nat} (hx : -2147483648 ≤ x ∧ x < 2147483648) (hy : -2147483648 ≤ y ∧ y < 2147483648) (hd : decode M.cc pc = .ok (.if_icmp .lt off, 3)) (ht : (pc : Int) + off = (tgt : Int)) (kt : x < y → GX X M P kc ks tgt ls st L A) (kf : ¬ x < y → GX X M P kc ks (pc + 3) ls st L A) : GX X M P kc ks pc ls (gi y :: gi x :: st) L A := by
  intro p l e R s m args below meth c D a0 L0 a H locs lsr Q XX F E1 E3 S hl
  have k1 := fun h => kt h p l e R s m args below meth c D a0 L0 a H locs lsr Q XX F E1 E3 S hl
  have k2 := fun h => kf h p l e R s m args below meth c D a0 L0 a H locs lsr Q XX F E1 E3 S hl
  exact lv_icmp_lt F.1 F.2.1 hd ht (fun h => k1 ((fun h => ((ii_lt hx hy).mp h)) h)) (fun h => k2 ((fun h => (fun z => h ((ii_lt hx hy).mpr z))) h))
theorem x_if_lt {x : Int} {off : Int} {tgt : Nat} (hx : -2147483648 ≤ x ∧ x < 2147483648) (hd : decode M.cc pc = .ok (.ifCond .lt off, 3)) (ht : (pc : Int) + off = (tgt : Int)) (kt : x < 0 → GX X M P kc ks tgt ls st L A) (kf : ¬ x < 0 → GX X M P kc ks (pc + 3) ls st L A) : GX X M P kc ks pc ls (gi x :: st) L A := by
  intro p l e R s m args below meth c D a0 L0 a H locs lsr Q XX F E1 E3 S hl
  have k1 := fun h => kt h p l e R s m args below meth c D a0 L0 a H locs lsr Q XX F E1 E3 S hl
  have k2 := fun h => kf h p l e R s m args below meth c D a0 L0 a H locs lsr Q XX F E1 E3 S hl
  have hy : -2147483648 ≤ (0 : Int) ∧ (0 : Int) < 2147483648 := by omega
  exact lv_if_lt F.1 F.2.1 hd ht (fun h => k1 ((fun h => ((ii_lt hx hy).mp h)) h)) (fun h => k2 ((fun h => (fun z => h ((ii_lt hx hy).mpr z))) h))
theorem x_icmp_ge {x y : Int} {off : Int} {tgt : Nat} (hx : -2147483648 ≤ x ∧ x < 2147483648) (hy : -2147483648 ≤ y ∧ y < 2147483648) (hd : decode M.cc pc = .ok (.if_icmp .ge off, 3)) (ht : (pc : Int) + off = (tgt : Int)) (kt : y ≤ x → GX X M P kc ks tgt ls st L A) (kf : ¬ y ≤ x → GX X M P kc ks (pc + 3) ls st L A) : GX X M P kc ks pc ls (gi y :: gi x :: st) L A := by
  intro p l e R s m args below meth c D a0 L0 a H locs lsr Q XX F E1 E3 S hl
  have k1 := fun h => kt h p l e R s m args below meth c D a0 L0 a H locs lsr Q XX F E1 E3 S hl
  have k2 := fun h => kf h p l e R s m args below meth c D a0 L0 a H locs lsr Q XX F E1 E3 S hl
  exact lv_icmp_ge F.1 F.2.1 hd ht (fun h => k1 ((fun h => ((ii_le hy hx).mp h)) h)) (fun h => k2 ((fun h => (fun z => h ((ii_le hy hx).mpr z))) h))
theorem x_if_ge {x : Int} {off : Int} {tgt : Nat} (hx : -2147483648 ≤ x ∧ x < 2147483648) (hd : decode M.cc pc = .ok (.ifCond .ge off, 3)) (ht : (pc : Int) + off = (tgt : Int)) (kt : 0 ≤ x → GX X M P kc ks tgt ls st L A) (kf : ¬ 0 ≤ x → GX X M P kc ks (pc + 3) ls st L A) : GX X M P kc ks pc ls (gi x :: st) L A := by
  intro p l e R s m args below meth c D a0 L0 a H locs lsr Q XX F E1 E3 S hl
  have k1 := fun h => kt h p l e R s m args below meth c D a0 L0 a H locs lsr Q XX F E1 E3 S hl
  have k2 := fun h => kf h p l e R s m args below meth c D a0 L0 a H locs lsr Q XX F E1 E3 S hl
  have hy : -2147483648 ≤ (0 : Int) ∧ (0 : Int) < 2147483648 := by omega
  exact lv_if_ge F.1 F.2.1 hd ht (fun h => k1 ((fun h => ((ii_le hy hx).mp h)) h)) (fun h => k2 ((fun h => (fun z => h ((ii_le hy hx).mpr z))) h))
theorem x_icmp_gt {x y : Int} {off : Int} {tgt : Nat} (hx : -2147483648 ≤ x ∧ x < 2147483648) (hy : -2147483648 ≤ y ∧ y < 2147483648) (hd : decode M.cc pc = .ok (.if_icmp .gt off, 3)) (ht : (pc : Int) + off = (tgt : Int)) (kt : y < x → GX X M P kc ks tgt ls st L A) (kf : ¬ y < x → GX X M P kc ks (pc + 3) ls st L A) : GX X M P kc ks pc ls (gi y :: gi x :: st) L A := by
  intro p l e R s m args below meth c D a0 L0 a H locs lsr Q XX F E1 E3 S hl
  have k1 := fun h => kt h p l e R s m args below meth c D a0 L0 a H locs lsr Q XX F E1 E3 S hl
  have k2 := fun h => kf h p l e R s m args below meth c D a0 L0 a H locs lsr Q XX F E1 E3 S hl
  exact lv_icmp_gt F.1 F.2.1 hd ht (fun h => k1 ((fun h => ((ii_lt hy hx).mp h)) h)) (fun h => k2 ((fun h => (fun z => h ((ii_lt hy hx).mpr z))) h))
theorem x_if_gt {x : Int} {off : Int} {tgt : Nat} (hx : -2147483648 ≤ x ∧ x < 2147483648) (hd : decode M.cc pc = .ok (.ifCond .gt off, 3)) (ht : (pc : Int) + off = (tgt : Int)) (kt : 0 < x → GX X M P kc ks tgt ls st L A) (kf : ¬ 0 < x → GX X M P kc ks (pc + 3) ls st L A) : GX X M P kc ks pc ls (gi x :: st) L A := by
  intro p l e R s m args below meth c D a0 L0 a H locs lsr Q XX F E1 E3 S hl
  have k1 := fun h => kt h p l e R s m args below meth c D a0 L0 a H locs lsr Q XX F E1 E3 S hl
  have k2 := fun h => kf h p l e R s m args below meth c D a0 L0 a H locs lsr Q XX F E1 E3 S hl
  have hy : -2147483648 ≤ (0 : Int) ∧ (0 : Int) < 2147483648 := by omega
  exact lv_if_gt F.1 F.2.1 hd ht (fun h => k1 ((fun h => ((ii_lt hy hx).mp h)) h)) (fun h => k2 ((fun h => (fun z => h ((ii_lt hy hx).mpr z))) h))
theorem x_icmp_le {x y : Int} {off : Int} {tgt : Nat} (hx : -2147483648 ≤ x ∧ x < 2147483648) (hy : -2147483648 ≤ y ∧ y < 2147483648) (hd : decode M.cc pc = .ok (.if_icmp .le off, 3)) (ht : (pc : Int) + off = (tgt : Int)) (kt : x ≤ y → GX X M P kc ks tgt ls st L A) (kf : ¬ x ≤ y → GX X M P kc ks (pc + 3) ls st L A) : GX X M P kc ks pc ls (gi y :: gi x :: st) L A := by
  intro p l e R s m args below meth c D a0 L0 a H locs lsr Q XX F E1 E3 S hl
  have k1 := fun h => kt h p l e R s m args below meth c D a0 L0 a H locs lsr Q XX F E1 E3 S hl
  have k2 := fun h => kf h p l e R s m args below meth c D a0 L0 a H locs lsr Q XX F E1 E3 S hl
  exact lv_icmp_le F.1 F.2.1 hd ht (fun h => k1 ((fun h => ((ii_le hx hy).mp h)) h)) (fun h => k2 ((fun h => (fun z => h ((ii_le hx hy).mpr z))) h))
theorem x_if_le {x : Int} {off : Int} {tgt : Nat} (hx : -2147483648 ≤ x ∧ x < 2147483648) (hd : decode M.cc pc = .ok (.ifCond .le off, 3)) (ht : (pc : Int) + off = (tgt : Int)) (kt : x ≤ 0 → GX X M P kc ks tgt ls st L A) (kf : ¬ x ≤ 0 → GX X M P kc ks (pc + 3) ls st L A) : GX X M P kc ks pc ls (gi x :: st) L A := by
  intro p l e R s m args below meth c D a0 L0 a H locs lsr Q XX F E1 E3 S hl
  have k1 := fun h => kt h p l e R s m args below meth c D a0 L0 a H locs lsr Q XX F E1 E3 S hl
  have k2 := fun h => kf h p l e R s m args below meth c D a0 L0 a H locs lsr Q XX F E1 E3 S hl
  have hy : -2147483648 ≤ (0 : Int) ∧ (0 : Int) < 2147483648 := by omega
  exact lv_if_le F.1 F.2.1 hd ht (fun h => k1 ((fun h => ((ii_le hx hy).mp h)) h)) (fun h => k2 ((fun h => (fun z => h ((ii_le hx hy).mpr z))) h))
theorem x_goto {off : Int} {tgt : Nat} (hd : decode M.cc pc = .ok (.goto off, 3)) (ht : (pc : Int) + off = (tgt : Int)) (k : GX X M P kc ks tgt ls st L A) : GX X M P kc ks pc ls st L A := by
  intro p l e R s m args below meth c D a0 L0 a H locs lsr Q XX F E1 E3 S hl
  have kk := k p l e R s m args below meth c D a0 L0 a H locs lsr Q XX F E1 E3 S hl
  exact lv_goto F.1 F.2.1 hd ht kk
theorem x_at {pc2 : Nat} (h : pc = pc2) (k : GX X M P kc ks pc2 ls st L A) : GX X M P kc ks pc ls st L A := h ▸ k
theorem x_wide {kc2 ks2 : Nat} (h1 : kc ≤ kc2) (h2 : ks ≤ ks2) (k : GX X M P kc2 ks2 pc ls st L A) : GX X M P kc ks pc ls st L A := by
  intro p l e R s m args below meth c D a0 L0 a H locs lsr Q XX F E1 E3 S hl
  have kk := k p l e R s m args below meth c D a0 L0 a H locs lsr Q XX F E1 E3 S hl
  exact W.widen h1 h2 kk
theorem x_ret {v : Option GV} {i : Instr} (hd : decode M.cc pc = .ok (i, 1)) (hr : rtok M i v) (h1 : kc ≤ M.mc) (h2 : ks ≤ M.ms) (hP : P (.inr v) L A) : GX X M P kc ks pc ls v.toList L A := by
  intro p l e R s m args below meth c D a0 L0 a H locs lsr Q XX F E1 E3 S hl
  have e : v.toList.map (ev a) = (v.map (ev a)).toList := by cases v <;> rfl
  exact E1.1 a L A H locs kc ks pc lsr v i hP S h1 h2 hd hr
theorem x_iret {z : Int} (hd : decode M.cc pc = .ok (.ireturn, 1)) (hr : M.rt = some .int) (h1 : kc ≤ M.mc) (h2 : ks ≤ M.ms) (hP : P (.inr (some (gi z))) L A) : GX X M P kc ks pc ls [gi z] L A := x_ret (v := some (gi z)) hd (Or.inr (Or.inl ⟨rfl, z, rfl, Or.inl hr⟩)) h1 h2 hP
theorem x_zret {z : Int} (hd : decode M.cc pc = .ok (.ireturn, 1)) (hr : M.rt = some .boolean) (hz : z = 0 ∨ z = 1) (h1 : kc ≤ M.mc) (h2 : ks ≤ M.ms) (hP : P (.inr (some (gi z))) L A) : GX X M P kc ks pc ls [gi z] L A := x_ret (v := some (gi z)) hd (Or.inr (Or.inl ⟨rfl, z, rfl, Or.inr ⟨hr, hz⟩⟩)) h1 h2 hP
theorem x_vret (hd : decode M.cc pc = .ok (.return_, 1)) (hr : M.rt = none) (h1 : kc ≤ M.mc) (h2 : ks ≤ M.ms) (hP : P (.inr none) L A) : GX X M P kc ks pc ls [] L A := x_ret (v := none) hd (Or.inl ⟨rfl, hr, rfl⟩) h1 h2 hP
theorem x_aret {n : Nat} {t : String} (hd : decode M.cc pc = .ok (.areturn, 1)) (hr : M.rt = some (.object t)) (h1 : kc ≤ M.mc) (h2 : ks ≤ M.ms) (hP : P (.inr (some (gr n))) L A) : GX X M P kc ks pc ls [gr n] L A := x_ret (v := some (gr n)) hd (Or.inr (Or.inr ⟨rfl, n, rfl, Or.inl ⟨t, hr⟩⟩)) h1 h2 hP
theorem x_lald {N n : Nat} {z : Int} (i : Nat) (hz : z = (i : Int)) (hi : i < N) (hy : ly n = (8, N)) (hN : N ≤ 2147483648) (hd : decode M.cc pc = .ok (.laload, 1)) (hn : L n ≠ 0) (kk : -2147483648 ≤ A n i ∧ A n i < 2147483648 → GX X M P kc ks (pc + 1) ls (gl (A n i) :: st) L A) : GX X M P kc ks pc ls (gi z :: gr n :: st) L A := by
  subst hz
  intro p l e R s m args below meth c D a0 L0 a H locs lsr Q XX F E1 E3 S hl
  have k2 := kk (S.1.2.2.2 n i) p l e R s m args below meth c D a0 L0 a H locs lsr Q XX F E1 E3 S hl
  refine va_lald (q0 := 0) (t0 := 2) F.1 F.2.1 F.2.2.2.2.2.2.2.2.2.2.1.1 (Wd_one S.1 hn (gcell_l hy)) rfl rfl (ii_in hi hN) hd ?_
  rw [ii_nat (by omega)]
  exact k2
theorem x_i2l {x : Int} (hx : -2147483648 ≤ x ∧ x < 2147483648) (hd : decode M.cc pc = .ok (.i2l, 1)) (kk : GX X M P kc ks (pc + 1) ls (gl x :: st) L A) : GX X M P kc ks pc ls (gi x :: st) L A := by
  intro p l e R s m args below meth c D a0 L0 a H locs lsr Q XX F E1 E3 S hl
  have k2 := kk p l e R s m args below meth c D a0 L0 a H locs lsr Q XX F E1 E3 S hl
  exact lv_i2l F.1 F.2.1 hd (il_conv hx) k2
theorem x_lcmp {x y : Int} (hx : -2147483648 ≤ x ∧ x < 2147483648) (hy : -2147483648 ≤ y ∧ y < 2147483648) (hd : decode M.cc pc = .ok (.lcmp, 1)) (kk : GX X M P kc ks (pc + 1) ls (gi (icmp x y) :: st) L A) : GX X M P kc ks pc ls (gl y :: gl x :: st) L A := by
  intro p l e R s m args below meth c D a0 L0 a H locs lsr Q XX F E1 E3 S hl
  have k2 := kk p l e R s m args below meth c D a0 L0 a H locs lsr Q XX F E1 E3 S hl
  refine W.lcmp F.1 F.2.1 hd ?_
  rw [lg_icmp hx hy]
  exact k2
theorem x_tsw {x dflt lo hi : Int} {offs : Array Int} {len dt : Nat} (hx : -2147483648 ≤ x ∧ x < 2147483648) (hd : decode M.cc pc = .ok (.tableswitch dflt lo hi offs, len)) (hdt : (pc : Int) + dflt = (dt : Int))
    (ko : x < lo ∨ hi < x → GX X M P kc ks dt ls st L A) (ki : ¬ x < lo → ¬ hi < x → ∃ (off : Int) (tgt : Nat), offs[(x - lo).toNat]? = some off ∧ (pc : Int) + off = (tgt : Int) ∧ GX X M P kc ks tgt ls st L A) : GX X M P kc ks pc ls (gi x :: st) L A := by
  intro p l e R s m args below meth c D a0 L0 a H locs lsr Q XX F E1 E3 S hl
  have eX : (Int32.ofInt x).toInt = x := ii_lo hx.1 hx.2
  by_cases h : x < lo ∨ hi < x
  · exact lv_tableOut F.1 F.2.1 hd (by rw [eX]; exact h) hdt (ko h p l e R s m args below meth c D a0 L0 a H locs lsr Q XX F E1 E3 S hl)
  · have h1 : ¬ x < lo := fun z => h (Or.inl z)
    have h2 : ¬ hi < x := fun z => h (Or.inr z)
    obtain ⟨off, tgt, ho, ht, k⟩ := ki h1 h2
    exact lv_tableIn F.1 F.2.1 hd (by rw [eX]; exact h1) (by rw [eX]; exact h2) (by rw [eX]; exact ho) ht (k p l e R s m args below meth c D a0 L0 a H locs lsr Q XX F E1 E3 S hl)
theorem x_st {i : Nat} {q : Fin 4} {z : Int} {ls2 : List (Nat × GV)} (hd : decode M.cc pc = .ok (.istore_n q, 1)) (hi : (q : Nat) = i) (hn : i < M.nL) (hc : ∀ q ∈ ls, c1 q.2) (h2 : (i, gi z) :: ls.filter (fun q => !(q.1 == i)) = ls2) (k : GX X M P kc ks (pc + 1) ls2 st L A) : GX X M P kc ks pc ls (gi z :: st) L A := x_istore_n hd hi hn hc (h2 ▸ k)
theorem x_st2 {i : Nat} {z : Int} {ls2 : List (Nat × GV)} (hd : decode M.cc pc = .ok (.istore i, 2)) (hn : i < M.nL) (hc : ∀ q ∈ ls, c1 q.2) (h2 : (i, gi z) :: ls.filter (fun q => !(q.1 == i)) = ls2) (k : GX X M P kc ks (pc + 2) ls2 st L A) : GX X M P kc ks pc ls (gi z :: st) L A := x_istore hd hn hc (h2 ▸ k)
theorem x_sa {i n : Nat} {q : Fin 4} {ls2 : List (Nat × GV)} (hd : decode M.cc pc = .ok (.astore_n q, 1)) (hi : (q : Nat) = i) (hn : i < M.nL) (hc : ∀ q ∈ ls, c1 q.2) (h2 : (i, gr n) :: ls.filter (fun q => !(q.1 == i)) = ls2) (k : GX X M P kc ks (pc + 1) ls2 st L A) : GX X M P kc ks pc ls (gr n :: st) L A := x_astore_n hd hi hn hc (h2 ▸ k)
theorem x_sa2 {i n : Nat} {ls2 : List (Nat × GV)} (hd : decode M.cc pc = .ok (.astore i, 2)) (hn : i < M.nL) (hc : ∀ q ∈ ls, c1 q.2) (h2 : (i, gr n) :: ls.filter (fun q => !(q.1 == i)) = ls2) (k : GX X M P kc ks (pc + 2) ls2 st L A) : GX X M P kc ks pc ls (gr n :: st) L A := x_astore hd hn hc (h2 ▸ k)
theorem x_inc {i : Nat} {n z : Int} {ls2 : List (Nat × GV)} (j : Nat) (hd : decode M.cc pc = .ok (.iinc i n, 3)) (hj : ls[j]? = some (i, gi z)) (hn : i < M.nL) (hc : ∀ q ∈ ls, c1 q.2) (h2 : (i, gi (z + n)) :: ls.filter (fun q => !(q.1 == i)) = ls2) (k : GX X M P kc ks (pc + 3) ls2 st L A) : GX X M P kc ks pc ls st L A := x_iinc j hd hj hn hc (h2 ▸ k)
theorem x_ls {ls2 : List (Nat × GV)} {st2 : List GV} {A2 : Mem} (h : ls = ls2) (h3 : st = st2) (h4 : A = A2) (k : GX X M P kc ks pc ls2 st2 L A2) : GX X M P kc ks pc ls st L A := by subst h; subst h3; subst h4; exact k
theorem x_sub {ls2 : List (Nat × GV)} (is : List Nat) (h : is.filterMap (fun i => ls[i]?) = ls2) (k : GX X M P kc ks pc ls2 st L A) : GX X M P kc ks pc ls st L A := by
  intro p l e R s m args below meth c D a0 L0 a H locs lsr Q XX F E1 E3 S hl
  refine k p l e R s m args below meth c D a0 L0 a H locs lsr Q XX F E1 E3 S (lv_sub hl is ?_)
  subst h
  unfold lv_pick
  rw [List.map_filterMap]
  congr 1
  funext i
  rw [List.getElem?_map]
theorem x_top {x y : Int} (h : x = y) (k : GX X M P kc ks pc ls (gi y :: st) L A) : GX X M P kc ks pc ls (gi x :: st) L A := h ▸ k
theorem x_new {ci N n ix : Nat} {C : String} {T : u_T} {ty : Nat → FieldType} (hF : CFx ci C T N ty) (hy : ly n = (ci, N)) (hc : ci < 6) (hn : L n = 0) (hfl : M.fl = true) (hk1 : kc + 1 ≤ M.mc) (hk2 : ks + N ≤ M.ms) (hcl : Cond.classLink M.y.cls ix C ∈ WS) (hin : Cond.instantiable C N ∈ WS) (hit : Cond.initialized C ∈ WS) (hd : decode M.cc pc = .ok (.new ix, 3))
    (hdef : ∀ (eD : Nat) (a : Nat → Nat) j, j < N → defaultValue (ty j) = gfd eD a (gz A n) ci n j) (hnr : NoRef L A n) (hls : ∀ (a : Nat → Nat) (q : Nat), ls.map (fun w => (w.1, ev (gset a n q) w.2)) = ls.map fun w => (w.1, ev a w.2)) (hst : ∀ (a : Nat → Nat) (q : Nat), st.map (ev (gset a n q)) = st.map (ev a))
    (kk : GX X M P (kc + 1) (ks + N) (pc + 3) ls (gr n :: st) (gset L n 1) (gz A n)) : GX X M P kc ks pc ls st L A := by
  intro p l e R s m args below meth c D a0 L0 a H locs lsr Q XX F E1 E3 S hl
  obtain ⟨hx, hb, hml, hown, hws, hlocks, hrt, hnm, hlt, htab, hE, hR1, hR2, hR3, hR4⟩ := id F
  have hKn := hE.1.1 ci _ hF.1
  refine W.newcK hx hb hown (hws _ hcl) (hws _ hin) (hws _ hit) rfl hd (Nat.le_trans hk1 hR3) (Nat.le_trans hk2 hR4) hKn.2.1 rfl fun H1 kC hkC e1 z1 o1 => ?_
  have hob := u_born ty hws hF.2.1 hKn hkC e1 hF.2.2.1
  have hat : va_at D.1 vwCl (H.size, gcell D (gset a n H.size) (gz A n) n) H1 := by
    rw [gcell_o hy hc]
    refine ⟨_, hF.1, hob.to (fun j hj => ?_)⟩
    rw [hdef D.2.2 (gset a n H.size) j hj]
    simp [vp_V, List.getD, hj]
  have S1 := SH_new (v := 1) S hfl hn hat z1 o1 (fun m hm => gcell_new hnr hm) (fun h => absurd h (by decide))
  have k2 := kk p l e R s m args below meth c D a0 L0 (gset a n H.size) H1 locs lsr Q XX F E1 E3 S1 (by rw [hls]; exact hl)
  rw [List.map_cons, hst] at k2
  rw [show ev (gset a n H.size) (gr n) = .ref H.size from by show Value.ref (gset a n H.size n) = _; rw [gset_eq]] at k2
  exact k2
theorem x_new2 {ci N n ix : Nat} {C : String} {T : u_T} {ty : Nat → FieldType} (hF : CFx ci C T N ty) (hy : ly n = (ci, N)) (hc : ci < 6) (hn : L n = 0) (hfl : M.fl = true) (hk1 : kc + 1 ≤ M.mc) (hk2 : ks + N ≤ M.ms) (hcl : Cond.classLink M.y.cls ix C ∈ WS) (hin : Cond.instantiable C N ∈ WS) (hit : Cond.initialized C ∈ WS) (hd : decode M.cc pc = .ok (.new ix, 3))
    (hdef : ∀ (eD : Nat) (a : Nat → Nat) j, j < N → defaultValue (ty j) = gfd eD a (gz A n) ci n j) (hnr : NoRef L A n) (hok : (∀ q ∈ ls, okv L q.2) ∧ ∀ v ∈ st, okv L v)
    (kk : GX X M P (kc + 1) (ks + N) (pc + 3) ls (gr n :: st) (gset L n 1) (gz A n)) : GX X M P kc ks pc ls st L A :=
  x_new hF hy hc hn hfl hk1 hk2 hcl hin hit hd hdef hnr (fun a q => List.map_congr_left (fun w hw => by rw [okv_ev hn (hok.1 w hw)])) (fun a q => List.map_congr_left (fun w hw => okv_ev hn (hok.2 w hw))) kk
theorem x_made {n : Nat} (hfl : M.fl = true) (hn : L n ≠ 0) (hr : ∀ k, k < (ly n).2 → rfk (ly n).1 k = true → A n k ≠ 0) (kk : GX X M P kc ks pc ls st (gset L n 2) A) : GX X M P kc ks pc ls st L A := by
  intro p l e R s m args below meth c D a0 L0 a H locs lsr Q XX F E1 E3 S hl
  exact kk p l e R s m args below meth c D a0 L0 a H locs lsr Q XX F E1 E3 (SH_made S hfl hn hr) hl
theorem x_wld {L2 : Nat → Nat} {A2 : Mem} (h1 : L = L2) (h2 : A = A2) (k : GX X M P kc ks pc ls st L2 A2) : GX X M P kc ks pc ls st L A := by subst h1; subst h2; exact k
end GXR
section GXK
variable {X : State → (Nat → Nat) → Prop} {M My : MD} {P P1 : Pst} {kc ks pc ix np : Nat} {ls : List (Nat × GV)} {st : List GV} {L L2 : Nat → Nat} {A A2 : Mem} {gs stk : List GV}
theorem x_callV {n ci N : Nat} {T : u_T} {ty : Nat → FieldType} (hC : Ct My (gr n :: gs) L A P1) (hM : MF My np) (hF : CFx ci My.y.cls T N ty) (hi : Cond.instanceMethod My.y ∈ WS) (hs : Cond.selects My.y.cls My.y My.y ∈ WS) (hlk : Cond.methodLink M.y.cls ix My.y ∈ WS) (hd : decode M.cc pc = .ok (.invokevirtual ix, 3)) (hdp : My.dp < M.dp)
    (hy : ly n = (ci, N)) (hc : ci < 6) (hn : L n ≠ 0) (hnp : gs.length = np) (hst : ∀ a, ((st.map (ev a)).map fun v => v.category).sum ≤ 8) (hk1 : kc + My.mc ≤ M.mc) (hk2 : ks + My.ms ≤ M.ms) (hfl : My.fl = true → M.fl = true) (hok : My.fl = false ∨ ((∀ q ∈ ls, okv L q.2) ∧ ∀ v ∈ st, okv L v))
    {stk : List GV} (hstk : stk = gs.reverse ++ gr n :: st)
    (kk : ∀ (v : Option GV) (L' : Nat → Nat) (A' : Mem), P1 (.inr v) L' A' → (My.fl = false → L' = L) → GX X M P (kc + My.mc) (ks + My.ms) (pc + 3) ls (v.toList ++ st) L' A')
    (kx : ∀ (E : String) (L' : Nat → Nat) (A' : Mem), ¬ P1 (.inl E) L' A') : GX X M P kc ks pc ls stk L A := by
  intro p l e R s m args below meth c D a0 L0 a H locs lsr Q XX F E1 E3 S hl
  subst hstk
  obtain ⟨hx, hb, hml, hown, hws, hlocks, hrt, hnm, hlt, htab, hE, hR1, hR2, hR3, hR4⟩ := id F
  have hm := hC l hlt D a H.size
  have h5 := hM.2.2.2.2.2
  refine x_core XX F E1 E3 S hl rfl (vx_runV (As := gs.map (ev a)) (b := a n) ⟨hx, hb, hml, hown, hws⟩ hm (cwV np hws (gd_cons hlk (gd_cons hi (gd_cons hs (gd_cons hM.2.2.2.1 (gd_wsd hM))))) (wsd_0 hM.2.2.2.2.1) rfl rfl ⟨rfl, hM.2.1.1, hM.2.1.2, hM.2.2.1⟩ ⟨by show 12 + My.dp + 1 ≤ R.frames; omega, by show 8 + (My.nL + 11) + (300 + 60 * My.dp) ≤ R.locals; omega⟩)
    ⟨CtP_blind, va_recv hE.1 (Wd_one S.1 hn (gcell_o hy hc)) hF.1 (q0 := 0) rfl, CtP_atL F S (gr n :: gs)⟩ rfl (by rw [List.length_map]; exact hnp) hl.1 ?_ (lv_room (hst a)) hd ⟨by omega, by omega⟩) hfl hok kk kx
  show (gs.reverse ++ gr n :: st).map (ev a) = _
  rw [List.map_append, List.map_reverse]
  rfl
theorem x_callI {n : Nat} (hC : Ct My (gr n :: gs) L A P1) (hM : MF My np) (hrt : My.rt = none) (hnm : My.y.name = "<init>") (hi : Cond.instanceMethod My.y ∈ WS) (hlk : Cond.methodLink M.y.cls ix My.y ∈ WS) (hd : decode M.cc pc = .ok (.invokespecial ix, 3)) (hdp : My.dp < M.dp)
    (hnp : gs.length = np) (hst : ∀ a, ((st.map (ev a)).map fun v => v.category).sum ≤ 8) (hk1 : kc + My.mc ≤ M.mc) (hk2 : ks + My.ms ≤ M.ms) (hfl : My.fl = true → M.fl = true) (hok : My.fl = false ∨ ((∀ q ∈ ls, okv L q.2) ∧ ∀ v ∈ st, okv L v))
    {stk : List GV} (hstk : stk = gs.reverse ++ gr n :: st)
    (kk : ∀ (v : Option GV) (L' : Nat → Nat) (A' : Mem), P1 (.inr v) L' A' → (My.fl = false → L' = L) → GX X M P (kc + My.mc) (ks + My.ms) (pc + 3) ls (v.toList ++ st) L' A')
    (kx : ∀ (E : String) (L' : Nat → Nat) (A' : Mem), ¬ P1 (.inl E) L' A') : GX X M P kc ks pc ls stk L A := by
  intro p l e R s m args below meth c D a0 L0 a H locs lsr Q XX F E1 E3 S hl
  subst hstk
  obtain ⟨hx, hb, hml, hown, hws, hlocks, hrt0, hnm0, hlt, htab, hE, hR1, hR2, hR3, hR4⟩ := id F
  have hm := hC l hlt D a H.size
  have h5 := hM.2.2.2.2.2
  have hcw := wsd_0 hM.2.2.2.2.1
  have hcd := hM.1
  rw [hrt] at hcw hcd
  refine x_core XX F E1 E3 S hl rfl (vx_runI (As := gs.map (ev a)) (b := a n) ⟨hx, hb, hml, hown, hws⟩ hm (cwI np hws (gd_wsd hM) hcw rfl rfl (hws _ hM.2.2.2.1) (hws _ hlk) (hws _ hi) hnm ⟨hM.2.1.1, hM.2.1.2, hM.2.2.1⟩ ⟨by show 12 + My.dp + 1 ≤ R.frames; omega, by show 8 + (My.nL + 11) + (300 + 60 * My.dp) ≤ R.locals; omega⟩)
    ⟨CtP_blind, CtP_atL F S (gr n :: gs)⟩ rfl (by rw [List.length_map]; exact hnp) hl.1 ?_ (lv_room (hst a)) hd ⟨by omega, by omega⟩) hfl hok kk kx
  show (gs.reverse ++ gr n :: st).map (ev a) = _
  rw [List.map_append, List.map_reverse]
  rfl
theorem x_cV_i {n ci N : Nat} {T : u_T} {ty : Nat → FieldType} {r : GV} (hC : Ct My (gr n :: gs) L A (pr (some r) L A2)) (hM : MF My np) (hF : CFx ci My.y.cls T N ty) (hi : Cond.instanceMethod My.y ∈ WS) (hs : Cond.selects My.y.cls My.y My.y ∈ WS) (hlk : Cond.methodLink M.y.cls ix My.y ∈ WS) (hd : decode M.cc pc = .ok (.invokevirtual ix, 3)) (hdp : My.dp < M.dp) (hy : ly n = (ci, N)) (hc : ci < 6) (hn : L n ≠ 0) (hnp : gs.length = np) (hst : ∀ a, ((st.map (ev a)).map fun v => v.category).sum ≤ 8) (hk1 : kc + My.mc ≤ M.mc) (hk2 : ks + My.ms ≤ M.ms) (hf : My.fl = false) (hstk : stk = gs.reverse ++ gr n :: st) (kk : GX X M P (kc + My.mc) (ks + My.ms) (pc + 3) ls (r :: st) L A2) : GX X M P kc ks pc ls stk L A :=
  x_callV hC hM hF hi hs hlk hd hdp hy hc hn hnp hst hk1 hk2 (fun h => absurd (hf.symm.trans h) (by decide)) (Or.inl hf) hstk (fun v L' A' h _ => by obtain ⟨h1, rfl, rfl⟩ := h; cases h1; exact kk) (fun E L' A' h => by obtain ⟨h1, _⟩ := h; cases h1)
theorem x_cV_v {n ci N : Nat} {T : u_T} {ty : Nat → FieldType} (hC : Ct My (gr n :: gs) L A (pr none L A2)) (hM : MF My np) (hF : CFx ci My.y.cls T N ty) (hi : Cond.instanceMethod My.y ∈ WS) (hs : Cond.selects My.y.cls My.y My.y ∈ WS) (hlk : Cond.methodLink M.y.cls ix My.y ∈ WS) (hd : decode M.cc pc = .ok (.invokevirtual ix, 3)) (hdp : My.dp < M.dp) (hy : ly n = (ci, N)) (hc : ci < 6) (hn : L n ≠ 0) (hnp : gs.length = np) (hst : ∀ a, ((st.map (ev a)).map fun v => v.category).sum ≤ 8) (hk1 : kc + My.mc ≤ M.mc) (hk2 : ks + My.ms ≤ M.ms) (hf : My.fl = false) (hstk : stk = gs.reverse ++ gr n :: st) (kk : GX X M P (kc + My.mc) (ks + My.ms) (pc + 3) ls st L A2) : GX X M P kc ks pc ls stk L A :=
  x_callV hC hM hF hi hs hlk hd hdp hy hc hn hnp hst hk1 hk2 (fun h => absurd (hf.symm.trans h) (by decide)) (Or.inl hf) hstk (fun v L' A' h _ => by obtain ⟨h1, rfl, rfl⟩ := h; cases h1; exact kk) (fun E L' A' h => by obtain ⟨h1, _⟩ := h; cases h1)
theorem x_cIB_v {n : Nat} (hC : Ct My (gr n :: gs) L A (pr none L2 A2)) (hM : MF My np) (hrt : My.rt = none) (hnm : My.y.name = "<init>") (hi : Cond.instanceMethod My.y ∈ WS) (hlk : Cond.methodLink M.y.cls ix My.y ∈ WS) (hd : decode M.cc pc = .ok (.invokespecial ix, 3)) (hdp : My.dp < M.dp) (hnp : gs.length = np) (hst : ∀ a, ((st.map (ev a)).map fun v => v.category).sum ≤ 8) (hk1 : kc + My.mc ≤ M.mc) (hk2 : ks + My.ms ≤ M.ms) (hfl : M.fl = true) (hok : (∀ q ∈ ls, okv L q.2) ∧ ∀ v ∈ st, okv L v) (hstk : stk = gs.reverse ++ gr n :: st) (kk : GX X M P (kc + My.mc) (ks + My.ms) (pc + 3) ls st L2 A2) : GX X M P kc ks pc ls stk L A :=
  x_callI hC hM hrt hnm hi hlk hd hdp hnp hst hk1 hk2 (fun _ => hfl) (Or.inr hok) hstk (fun v L' A' h _ => by obtain ⟨h1, rfl, rfl⟩ := h; cases h1; exact kk) (fun E L' A' h => by obtain ⟨h1, _⟩ := h; cases h1)
end GXK
