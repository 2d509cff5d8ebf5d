section VXIA
variable {p : Program} {l : Launch} {e : Env} {R : Room} {s : State} {m : MethodId} {args : Array Value} {below : List Frame} {meth : Method} {c : Code} {T : State} {locs : List Loc} {cells slots : Nat}
theorem vx_callI (X : Stand p l e R s m args below meth c T locs cells slots) (hexec : p.tables.exec = Jvm.exec) {own : String} {index : Nat} {y : MethodName} {bytes : ByteArray} {maxL : Nat}
    (hown : s.vm.findClass own = some m.cls) (hy1 : y.name = "<init>") (hlink : (Cond.methodLink own index y).before args s = true) (hinst : (Cond.instanceMethod y).before args s = true)
    (hcode : (Cond.code y bytes maxL none).before args s = true) (hy : y.cls ≠ "java/lang/invoke/MethodHandle" ∧ y.cls ≠ "java/lang/invoke/VarHandle")
    {W9 : Nat} {Pre : Pt → Array Value → Prop} {Post : Pt → Array Value → Option Value → Pt → Prop} {PostX : Pt → Array Value → Addr → Pt → Prop} (hK : vx_Back l R p e below s args y 3 W9 Pre Post PostX)
    {g : JFrame} (hg : g.method = m) (hsize : g.locals.size = c.maxLocals) {a : Addr} {argsL rest : List Value} (hlen : ∀ sig, parseMethodDescriptor y.desc = some sig → argsL.length = sig.parameters.length)
    (hstack : g.stack = argsL.reverse ++ .ref a :: rest) (hW : 2 * g.monitorRoom + (rest.map fun v => v.category).sum ≤ W9) (hdg : decode c.code g.pc = .ok (.invokespecial index, 3))
    (hpre : ∀ vm₁, s.WarmedH vm₁ → Pre ⟨T.setVm vm₁, locs, cells, slots⟩ (Value.ref a :: argsL).toArray) :
    (∃ (v : Option Value) (vm₁ : Vm) (B : Pt), s.WarmedH vm₁ ∧ Stand p l e R s m args below meth c B.U B.locs B.cells B.slots ∧ Post ⟨T.setVm vm₁, locs, cells, slots⟩ (Value.ref a :: argsL).toArray v B ∧
      ∀ target, Steps p.tables e below (B.U.setTop { g with pc := g.pc + 3, stack := v.toList ++ rest }) target → Steps p.tables e below (T.setTop g) target) ∨
    (∃ (q : Addr) (vm₁ : Vm) (B : Pt), s.WarmedH vm₁ ∧ Stand p l e R s m args below meth c B.U B.locs B.cells B.slots ∧ PostX ⟨T.setVm vm₁, locs, cells, slots⟩ (Value.ref a :: argsL).toArray q B ∧
      Steps p.tables e below (T.setTop g) ((B.U.setTop { g with stack := rest }).pushFrame (.throwing q))) := by
  subst hg
  have hpl : e.platform.magicAccessors = ({} : Platform).magicAccessors := by rw [X.admits.platform]
  obtain ⟨mk, methM, cM, kP, vm₁, hnamed, hmethM, hcodeM, -, hlocalsM, -, hkP, -, hW₁, hstep₁⟩ := Steps.initColdArgs (e := e) X.here hexec X.warmed hpl hown hy1 hy hlink hinst hcode (f := g) rfl hlen hstack hdg
  have X₁ := X.noted hW₁
  rcases hK g.method meth c ⟨T.setVm vm₁, locs, cells, slots⟩ { g with stack := rest } (.invokespecial index) mk (Value.ref a :: argsL).toArray X₁ rfl hsize hdg hW (X₁.named hnamed) (hpre vm₁ X₁.warmed) with ⟨v, B, X', hpost, hsteps⟩ | ⟨q, B, X', hpost, hsteps⟩
  · exact Or.inl ⟨v, vm₁, B, X₁.warmed, X', hpost, fun target h => hstep₁ _ fun acts => by rw [doInvoke_state]; exact hsteps.trans h⟩
  · exact Or.inr ⟨q, vm₁, B, X₁.warmed, X', hpost, hstep₁ _ fun acts => by rw [doInvoke_state]; exact hsteps⟩
end VXIA
section VXIB
variable {p : Program} {l : Launch} {e : Env} {R : Room} {s : State} {m : MethodId} {args : Array Value} {below : List Frame} {meth : Method} {c : Code} {H : Heap} {locs : List Loc} {cells slots : Nat}
variable {y : MethodName} {bytes cc : ByteArray} {maxL nL mc ms n index : Nat} {ret : Option FieldType} {ws : List Cond} {rm : Room} {Pc : Array Value → State → Prop} {Qc : Array Value → State → Outcome → State → Prop} {XC : String → State → State → Prop} {free : Addr → Prop} {Ts : List Cond} {own C : String} {b : Addr} {As rest : List Value} {g : JFrame}
theorem vx_runI (S : CallFix p m c cc nL s args Ts own) (hM : vx_Met l y ws rm Pc Qc XC mc ms free) (cw : CallB R s args own index y bytes maxL none ws rm mc ms n ∧ y.name = "<init>" ∧ (Cond.instanceMethod y).before args s = true) (hp : PreS s H Pc (.ref b :: As))
    (hg : g.method = m) (hn : As.length = n) (hsize : g.locals.size = nL) (hstack : g.stack = As.reverse ++ .ref b :: rest) (hW : 2 * g.monitorRoom + (rest.map fun v => v.category).sum ≤ 8) (hdg : decode cc g.pc = .ok (.invokespecial index, 3)) (hf : cells + mc ≤ R.cells ∧ slots + ms ≤ R.slots) :
    vx_Run p l e R s m args below meth c H locs cells slots mc ms g rest (Qc (Value.ref b :: As).toArray) XC free := by
  have hK : vx_Back l R p e below s args y 3 8 (PreOf R mc ms Pc) (PostOf Qc mc ms free) (vx_Post XC mc ms free) := vx_callBack cw.1 hM hp.1
  obtain ⟨⟨-, -, -, -, -, -, hcode, -, hy, hlen, hl⟩, hy1, hin⟩ := cw
  obtain ⟨hx, hb, hml, ho, -⟩ := S
  have hPc := hp.2
  intro T hT X
  rcases vx_callI X hx (bytes := bytes) (maxL := maxL) ho hy1 hl hin hcode hy hK hg (hsize.trans hml.symm) (a := b) (argsL := As) (rest := rest) (fun sig h => hn.trans (hlen sig h)) hstack hW (by rw [hb]; exact hdg)
    (fun vm₁ hW₁ => ⟨hf.1, hf.2, hPc (T.setVm vm₁) hT hW₁⟩) with ⟨v, vm₁, ⟨U', l2, c2, s2⟩, hW₁, X', ⟨g', mk, t, L, e1, e2, hq, h1, hL, h2, h3⟩, st⟩ | ⟨q, vm₁, ⟨U', l2, c2, s2⟩, hW₁, X', ⟨g', mk, t, L, E, ce, e1, e2, hq, hce, hcv, hcl, h1, hL, h2, h3⟩, st⟩
  · dsimp only [Pt.U, Pt.locs, Pt.cells, Pt.slots] at X' e1 e2 h1 h2 h3 st
    subst h1; subst h2; subst h3
    exact Or.inl ⟨v, (T.setVm vm₁).calling g' mk (Value.ref b :: As).toArray, t, U', L, hT, X', hL, e1, e2, hq, st⟩
  · dsimp only [Pt.U, Pt.locs, Pt.cells, Pt.slots] at X' e1 e2 h1 h2 h3 st hcl
    subst h1; subst h2; subst h3
    exact Or.inr ⟨q, (T.setVm vm₁).calling g' mk (Value.ref b :: As).toArray, t, U', L, E, ce, hT, X', hL, e1, e2, hq, hce, hcv, vx_cls hW₁ hcl, st⟩
end VXIB
section
variable {p : Program} {l : Launch} {e : Env} {R : Room} {s : State} {m : MethodId} {args : Array Value} {below : List Frame} {meth : Method} {c : Code} {H : Heap} {locs : List Loc} {cells slots : Nat}
variable {T : State}
theorem vx_callVN (X : Stand p l e R s m args below meth c T locs cells slots) (hexec : p.tables.exec = Jvm.exec) {own C : String} {index : Nat} {host : String} {y : MethodName} {bytes : ByteArray} {maxL : Nat} {ret : Option FieldType}
    (hown : s.vm.findClass own = some m.cls) (hlink : (Cond.methodLinkNest own index y host).before args s = true) (hinst : (Cond.instanceMethod y).before args s = true) (hsel : (Cond.selects C y y).before args s = true)
    (hcode : (Cond.code y bytes maxL ret).before args s = true) (hy : y.cls ≠ "java/lang/invoke/MethodHandle" ∧ y.cls ≠ "java/lang/invoke/VarHandle")
    {W : Nat} {Pre : Pt → Array Value → Prop} {Post : Pt → Array Value → Option Value → Pt → Prop} {PostX : Pt → Array Value → Addr → Pt → Prop} (hK : vx_Back l R p e below s args y 3 W Pre Post PostX)
    {b : Addr} {cellB : Cell} (hcell : T.heap[b]? = some cellB) (hobj : cellB.vm.isStatics = false) (hcls : s.vm.findClass C = some cellB.cls)
    {g : JFrame} (hg : g.method = m) (hsize : g.locals.size = c.maxLocals) {argsL rest : List Value} (hlen : ∀ sig, parseMethodDescriptor y.desc = some sig → argsL.length = sig.parameters.length)
    (hstack : g.stack = argsL.reverse ++ .ref b :: rest) (hW : 2 * g.monitorRoom + (rest.map fun v => v.category).sum ≤ W) (hdg : decode c.code g.pc = .ok (.invokevirtual index, 3))
    (hpre : ∀ vm₁, s.WarmedH vm₁ → Pre ⟨T.setVm vm₁, locs, cells, slots⟩ (Value.ref b :: argsL).toArray) :
    (∃ (v : Option Value) (vm₁ : Vm) (B : Pt), s.WarmedH vm₁ ∧ Stand p l e R s m args below meth c B.U B.locs B.cells B.slots ∧ Post ⟨T.setVm vm₁, locs, cells, slots⟩ (Value.ref b :: argsL).toArray v B ∧
      ∀ target, Steps p.tables e below (B.U.setTop { g with pc := g.pc + 3, stack := v.toList ++ rest }) target → Steps p.tables e below (T.setTop g) target) ∨
    (∃ (q : Addr) (vm₁ : Vm) (B : Pt), s.WarmedH vm₁ ∧ Stand p l e R s m args below meth c B.U B.locs B.cells B.slots ∧ PostX ⟨T.setVm vm₁, locs, cells, slots⟩ (Value.ref b :: argsL).toArray q B ∧
      Steps p.tables e below (T.setTop g) ((B.U.setTop { g with stack := rest }).pushFrame (.throwing q))) := by
  obtain ⟨mk, methM, hnamed, hmethM, hstM, habM⟩ := Cond.instanceMethod_spec hinst
  obtain ⟨methM', cM, hmethM', -, -, -, -, -, -, hsigM⟩ := Cond.code_spec hnamed hcode
  cases hmethM.symm.trans hmethM'
  obtain ⟨c2, r2, m2, q1, q2, q3, q4, kP, hkP, hkPi⟩ := Cond.selects_spec hsel
  cases hcls.symm.trans q1
  cases (State.methodFound?_of_named hnamed hy).symm.trans q2
  cases hnamed.symm.trans q3
  have hselP : selectMethod e.platform s.vm cellB.cls mk = .method mk := by rw [Launch.admits_selectMethod X.admits]; exact q4
  obtain ⟨vm₁, X₁, hstep₁⟩ := X.invokevirtualNest hexec hown hlink hnamed hmethM hstM hkP hkPi hy (a := b) (cell := cellB) hcell
    (fun z h => by rw [h] at hobj; cases hobj) hselP hmethM habM hkP hkPi (g := g) hg (argsL := argsL) (rest := rest) (hlen _ hsigM) hstack hdg
  rcases hK m meth c ⟨T.setVm vm₁, locs, cells, slots⟩ { g with stack := rest } (.invokevirtual index) mk (Value.ref b :: argsL).toArray X₁ hg hsize hdg hW (X₁.named hnamed) (hpre vm₁ X₁.warmed) with ⟨v, B, X', hpost, hsteps⟩ | ⟨q, B, X', hpost, hsteps⟩
  · exact Or.inl ⟨v, vm₁, B, X₁.warmed, X', hpost, fun target h => hstep₁ _ fun acts => by rw [doInvoke_state]; exact hsteps.trans h⟩
  · exact Or.inr ⟨q, vm₁, B, X₁.warmed, X', hpost, hstep₁ _ fun acts => by rw [doInvoke_state]; exact hsteps⟩
theorem vx_callSN (X : Stand p l e R s m args below meth c T locs cells slots) (hexec : p.tables.exec = Jvm.exec) {own : String} {index : Nat} {host : String} {y : MethodName} {bytes : ByteArray} {maxL : Nat} {ret : Option FieldType}
    (hown : s.vm.findClass own = some m.cls) (hlink : (Cond.methodLinkNest own index y host).before args s = true) (hstat : (Cond.static y).before args s = true) (hinit : (Cond.initialized y.cls).before args s = true)
    (hcode : (Cond.code y bytes maxL ret).before args s = true) (hy : y.cls ≠ "java/lang/invoke/MethodHandle" ∧ y.cls ≠ "java/lang/invoke/VarHandle")
    {W : Nat} {Pre : Pt → Array Value → Prop} {Post : Pt → Array Value → Option Value → Pt → Prop} {PostX : Pt → Array Value → Addr → Pt → Prop} (hK : vx_Back l R p e below s args y 3 W Pre Post PostX)
    {g : JFrame} (hg : g.method = m) (hsize : g.locals.size = c.maxLocals) {argsL rest : List Value} (hlen : ∀ sig, parseMethodDescriptor y.desc = some sig → argsL.length = sig.parameters.length)
    (hstack : g.stack = argsL.reverse ++ rest) (hW : 2 * g.monitorRoom + (rest.map fun v => v.category).sum ≤ W) (hdg : decode c.code g.pc = .ok (.invokestatic index, 3))
    (hpre : ∀ vm₁, s.WarmedH vm₁ → Pre ⟨T.setVm vm₁, locs, cells, slots⟩ argsL.toArray) :
    (∃ (v : Option Value) (vm₁ : Vm) (B : Pt), s.WarmedH vm₁ ∧ Stand p l e R s m args below meth c B.U B.locs B.cells B.slots ∧ Post ⟨T.setVm vm₁, locs, cells, slots⟩ argsL.toArray v B ∧
      ∀ target, Steps p.tables e below (B.U.setTop { g with pc := g.pc + 3, stack := v.toList ++ rest }) target → Steps p.tables e below (T.setTop g) target) ∨
    (∃ (q : Addr) (vm₁ : Vm) (B : Pt), s.WarmedH vm₁ ∧ Stand p l e R s m args below meth c B.U B.locs B.cells B.slots ∧ PostX ⟨T.setVm vm₁, locs, cells, slots⟩ argsL.toArray q B ∧
      Steps p.tables e below (T.setTop g) ((B.U.setTop { g with stack := rest }).pushFrame (.throwing q))) := by
  obtain ⟨mk, hnamed⟩ := Cond.code_named hcode
  obtain ⟨methM, cM, hmethM, -, -, -, -, -, -, hsigM⟩ := Cond.code_spec hnamed hcode
  have hstatic : methM.isStatic = true := Cond.static_spec hnamed hmethM hstat
  obtain ⟨kP, hkP, -⟩ := className_of_methodNamed hnamed
  have hinitP : kP.init = .initialized := Cond.initialized_spec (findClass_of_methodNamed hnamed) hkP hinit
  obtain ⟨vm₁, X₁, hstep₁⟩ := X.invokestaticNest hexec hown hlink hnamed hmethM hstatic hkP hinitP hy (g := g) hg (argsL := argsL) (rest := rest) (hlen _ hsigM) hstack hdg
  rcases hK m meth c ⟨T.setVm vm₁, locs, cells, slots⟩ { g with stack := rest } (.invokestatic index) mk argsL.toArray X₁ hg hsize hdg hW (X₁.named hnamed) (hpre vm₁ X₁.warmed) with ⟨v, B, X', hpost, hsteps⟩ | ⟨q, B, X', hpost, hsteps⟩
  · exact Or.inl ⟨v, vm₁, B, X₁.warmed, X', hpost, fun target h => hstep₁ _ fun acts => by rw [doInvoke_state]; exact hsteps.trans h⟩
  · exact Or.inr ⟨q, vm₁, B, X₁.warmed, X', hpost, hstep₁ _ fun acts => by rw [doInvoke_state]; exact hsteps⟩
theorem vx_runVN {y : MethodName} {bytes cc : ByteArray} {maxL nL mc ms n index : Nat} {ret : Option FieldType} {ws : List Cond} {rm : Room} {Pc : Array Value → State → Prop} {Qc : Array Value → State → Outcome → State → Prop} {XC : String → State → State → Prop} {free : Addr → Prop} {Ts : List Cond} {own C host : String} {b : Addr} {As rest : List Value} {g : JFrame}
    (S : CallFix p m c cc nL s args Ts own) (hM : vx_Met l y ws rm Pc Qc XC mc ms free) (cw : va_CN R s args own index y host bytes maxL ret ws rm mc ms n ∧ (Cond.instanceMethod y).before args s = true ∧ (Cond.selects C y y).before args s = true) (hp : PreV s H C b Pc As)
    (hg : g.method = m) (hn : As.length = n) (hsize : g.locals.size = nL) (hstack : g.stack = As.reverse ++ .ref b :: rest) (hW : 2 * g.monitorRoom + (rest.map fun v => v.category).sum ≤ 8) (hdg : decode cc g.pc = .ok (.invokevirtual index, 3)) (hf : cells + mc ≤ R.cells ∧ slots + ms ≤ R.slots) :
    vx_Run p l e R s m args below meth c H locs cells slots mc ms g rest (Qc (Value.ref b :: As).toArray) XC free := by
  obtain ⟨⟨⟨hrc, hrs, hfr, hlo, hws, hcw⟩, hcode, hini, hy, hlen, hl⟩, hx1, hx2⟩ := cw
  have hK : vx_Back l R p e below s args y 3 8 (PreOf R mc ms Pc) (PostOf Qc mc ms free) (vx_Post XC mc ms free) := vx_back (bytes := bytes) (maxL := maxL) (ret := ret) hM hp.1 hrc hrs hfr hlo hws hcw (fun a' U hW => word_at hW (Or.inl (by first | rfl | simp [Cond.onTables, Cond.keeps, Cond.steady])) hini)
  obtain ⟨hx, hb, hml, ho, -⟩ := S
  obtain ⟨-, ⟨cellB, hcB, hoB, hclB⟩, hPc⟩ := hp
  intro T hT X
  rcases vx_callVN X hx (C := C) (bytes := bytes) (maxL := maxL) (ret := ret) ho hl hx1 hx2 hcode hy hK (by rw [hT]; exact hcB) hoB hclB hg (hsize.trans hml.symm) (argsL := As) (rest := rest) (fun sig h => hn.trans (hlen sig h)) hstack hW (by rw [hb]; exact hdg)
    (fun vm₁ hW₁ => ⟨hf.1, hf.2, hPc (T.setVm vm₁) hT hW₁⟩) with ⟨v, vm₁, ⟨U', l2, c2, s2⟩, hW₁, X', ⟨g', mk, t, L, e1, e2, hq, h1, hL, h2, h3⟩, st⟩ | ⟨q, vm₁, ⟨U', l2, c2, s2⟩, hW₁, X', ⟨g', mk, t, L, E, ce, e1, e2, hq, hce, hcv, hcl, h1, hL, h2, h3⟩, st⟩
  · dsimp only [Pt.U, Pt.locs, Pt.cells, Pt.slots] at X' e1 e2 h1 h2 h3 st
    subst h1; subst h2; subst h3
    exact Or.inl ⟨v, (T.setVm vm₁).calling g' mk (Value.ref b :: As).toArray, t, U', L, hT, X', hL, e1, e2, hq, st⟩
  · dsimp only [Pt.U, Pt.locs, Pt.cells, Pt.slots] at X' e1 e2 h1 h2 h3 st hcl
    subst h1; subst h2; subst h3
    exact Or.inr ⟨q, (T.setVm vm₁).calling g' mk (Value.ref b :: As).toArray, t, U', L, E, ce, hT, X', hL, e1, e2, hq, hce, hcv, vx_cls hW₁ hcl, st⟩
theorem vx_runSN {y : MethodName} {bytes cc : ByteArray} {maxL nL mc ms n index : Nat} {ret : Option FieldType} {ws : List Cond} {rm : Room} {Pc : Array Value → State → Prop} {Qc : Array Value → State → Outcome → State → Prop} {XC : String → State → State → Prop} {free : Addr → Prop} {Ts : List Cond} {own host : String} {As rest : List Value} {g : JFrame}
    (S : CallFix p m c cc nL s args Ts own) (hM : vx_Met l y ws rm Pc Qc XC mc ms free) (cw : va_CN R s args own index y host bytes maxL ret ws rm mc ms n ∧ (Cond.static y).before args s = true ∧ True) (hp : PreS s H Pc As)
    (hg : g.method = m) (hn : As.length = n) (hsize : g.locals.size = nL) (hstack : g.stack = As.reverse ++ rest) (hW : 2 * g.monitorRoom + (rest.map fun v => v.category).sum ≤ 8) (hdg : decode cc g.pc = .ok (.invokestatic index, 3)) (hf : cells + mc ≤ R.cells ∧ slots + ms ≤ R.slots) :
    vx_Run p l e R s m args below meth c H locs cells slots mc ms g rest (Qc As.toArray) XC free := by
  obtain ⟨⟨⟨hrc, hrs, hfr, hlo, hws, hcw⟩, hcode, hini, hy, hlen, hl⟩, hx1, hx2⟩ := cw
  have hK : vx_Back l R p e below s args y 3 8 (PreOf R mc ms Pc) (PostOf Qc mc ms free) (vx_Post XC mc ms free) := vx_back (bytes := bytes) (maxL := maxL) (ret := ret) hM hp.1 hrc hrs hfr hlo hws hcw (fun a' U hW => word_at hW (Or.inl (by first | rfl | simp [Cond.onTables, Cond.keeps, Cond.steady])) hini)
  obtain ⟨hx, hb, hml, ho, -⟩ := S
  have hPc := hp.2
  intro T hT X
  rcases vx_callSN X hx (bytes := bytes) (maxL := maxL) (ret := ret) ho hl hx1 hini hcode hy hK hg (hsize.trans hml.symm) (argsL := As) (rest := rest) (fun sig h => hn.trans (hlen sig h)) hstack hW (by rw [hb]; exact hdg)
    (fun vm₁ hW₁ => ⟨hf.1, hf.2, hPc (T.setVm vm₁) hT hW₁⟩) with ⟨v, vm₁, ⟨U', l2, c2, s2⟩, hW₁, X', ⟨g', mk, t, L, e1, e2, hq, h1, hL, h2, h3⟩, st⟩ | ⟨q, vm₁, ⟨U', l2, c2, s2⟩, hW₁, X', ⟨g', mk, t, L, E, ce, e1, e2, hq, hce, hcv, hcl, h1, hL, h2, h3⟩, st⟩
  · dsimp only [Pt.U, Pt.locs, Pt.cells, Pt.slots] at X' e1 e2 h1 h2 h3 st
    subst h1; subst h2; subst h3
    exact Or.inl ⟨v, (T.setVm vm₁).calling g' mk As.toArray, t, U', L, hT, X', hL, e1, e2, hq, st⟩
  · dsimp only [Pt.U, Pt.locs, Pt.cells, Pt.slots] at X' e1 e2 h1 h2 h3 st hcl
    subst h1; subst h2; subst h3
    exact Or.inr ⟨q, (T.setVm vm₁).calling g' mk As.toArray, t, U', L, E, ce, hT, X', hL, e1, e2, hq, hce, hcv, vx_cls hW₁ hcl, st⟩
end
/-! ===== the ghost layer: names instead of addresses, whole numbers instead of ints ===== -/
abbrev Mem : Type := Nat → Nat → Int
abbrev GV : Type := Value ⊕ Nat
def gi (z : Int) : GV := Sum.inl (Value.int (Int32.ofInt z))
def gl (z : Int) : GV := Sum.inl (Value.long (Int64.ofInt z))
def gr (n : Nat) : GV := Sum.inr n
def gx (q : Nat) : GV := Sum.inl (Value.ref q)
def gnul : GV := Sum.inl Value.null
def ev (a : Nat → Nat) (v : GV) : Value := match v with
  | Sum.inl x => x
  | Sum.inr n => Value.ref (a n)
abbrev GD : Type := va_G × (ClassId × ClassId × ClassId × ClassId) × Nat
def lyT : List (Nat × Nat) := [(4,10),(2,6),(0,3),(0,3),(9,0),(9,0),(6,8),(6,8),(6,8),(6,5),(6,8),(6,16),(6,100),(6,100),(6,100),(6,100),(7,100),(6,100),(8,1),(99,0),(5,37),(99,0),(99,0),(6,100),(6,100),(6,100),(7,100),(7,100),(6,100),(7,100),(99,0),(6,12),(6,12),(6,12),(6,12),(6,12),(6,12),(6,12),(6,96),(6,96),(6,8),(6,8),(6,8),(6,8),(99,0),(6,100),(6,100),(6,100),(6,100),(6,100),(6,100),(6,100),(6,100),(6,500),(6,500),(6,5)]
/-- of a name: its kind (0 list, 1 claim, 2 ground, 3 stone, 4 field, 5 reference; 6 ints, 7 booleans, 8 longs, 9 a list's row), how many places -/
def ly (n : Nat) : Nat × Nat := if n < 100 then lyT.getD n (99, 0) else if n < 200 then (if (n - 100) % 3 = 0 then (1, 10) else (6, 8)) else (if (n - 200) % 3 = 0 then (3, 11) else (6, 5))
def rfk (c k : Nat) : Bool := match c with
  | 1 => k == 8 || k == 9
  | 2 => true
  | 3 => k == 9 || k == 10
  | 4 => k != 9
  | 5 => !(k == 0 || k == 1 || k == 9 || k == 23 || k == 35 || k == 36)
  | _ => false
def rfn (c n k : Nat) : Nat := match c with
  | 1 => n + (k - 7)
  | 2 => 12 + k
  | 3 => n + (k - 8)
  | 4 => [1, 2, 3, 6, 7, 8, 9, 10, 11].getD k 0
  | 5 => 21 + k
  | _ => 0
def eln (n j : Nat) : Nat := if n = 4 then 100 + 3 * j else 200 + 3 * j
def gfd (eD : Nat) (a : Nat → Nat) (A : Mem) (c n k : Nat) : Value :=
  if c = 0 ∧ k = 1 then (if A n 1 = 0 then .null else if A n 1 = 1 then .ref eD else .ref (a (n + 2)))
  else if rfk c k = true then (if A n k = 0 then .null else .ref (a (rfn c n k))) else .int (Int32.ofInt (A n k))
def grow_ (a : Nat → Nat) (A : Mem) (n : Nat) : Nat → Option Nat := fun j => if (j : Int) < A n 1 then some (a (eln n j)) else none
def gcell (D : GD) (a : Nat → Nat) (A : Mem) (n : Nat) : va_E := match (ly n).1 with
  | 6 => .inl (D.2.1.1, (ly n).2, .inl (fun j => Int32.ofInt (A n j)))
  | 7 => .inl (D.2.1.2.1, (ly n).2, .inl (fun j => Int32.ofInt (A n j)))
  | 8 => .inl (D.2.1.2.2.1, (ly n).2, .inr (.inl (fun j => Int64.ofInt (A n j))))
  | 9 => .inl (D.2.1.2.2.2, (A n 0).toNat, .inr (.inr (.inr (.inr (grow_ a A n)))))
  | c => .inr (c, (List.range (ly n).2).map (gfd D.2.2 a A c n))
def Wd (D : GD) (a : Nat → Nat) (L : Nat → Nat) (A : Mem) (H : Heap) : Prop :=
  (∀ n, L n ≠ 0 → va_at D.1 vwCl (a n, gcell D a A n) H) ∧ (∀ n m, L n ≠ 0 → L m ≠ 0 → a n = a m → n = m) ∧
  (∀ n k, L n = 2 → k < (ly n).2 → rfk (ly n).1 k = true → A n k ≠ 0) ∧ ∀ n k, -2147483648 ≤ A n k ∧ A n k < 2147483648
def fpt (a0 : Nat → Nat) (L0 : Nat → Nat) (sz : Nat) : Nat → Prop := fun q => (∃ n, L0 n ≠ 0 ∧ q = a0 n) ∨ sz ≤ q
def WS : List Cond := lw_tbl.filter goodWord
def EVW : List Cond := [.castable "java/lang/IndexOutOfBoundsException" "java/lang/IndexOutOfBoundsException", .castable "java/lang/IllegalArgumentException" "java/lang/IllegalArgumentException", .castable "java/lang/IllegalStateException" "java/lang/IllegalStateException",
  .methodLinkNest RX0 60 yX3_oneIf RX3, .methodLinkNest RX1 37 yX3_isCell RX3, .methodLinkNest RX1 57 yX3_oneIf RX3,
  .declares ⟨"java/lang/RuntimeException", "<init>", "(Ljava/lang/String;)V"⟩, .declares ⟨"java/lang/Exception", "<init>", "(Ljava/lang/String;)V"⟩, .declares ⟨"java/lang/Throwable", "<init>", "(Ljava/lang/String;)V"⟩]
def NCS : List (String × String) := [("java/lang/IllegalArgumentException", "java/lang/IndexOutOfBoundsException"), ("java/lang/IllegalStateException", "java/lang/IndexOutOfBoundsException"), ("java/lang/IllegalStateException", "java/lang/IllegalArgumentException")]
def STRS : List (String × Nat × String) := [("OpalField", 64, "the cell is not solid"), ("OpalField", 72, "the cell was told"), ("OpalField", 84, "there are no more hours"), ("OpalField", 91, "the rectangle leaves the ground"), ("OpalField", 98, "there are no more claims"), ("OpalField", 120, "the person is one of the people"), ("OpalField", 125, "the person witnessed it"), ("OpalField", 139, "the owner would have nothing"), ("OpalField", 148, "the cell cannot be dug"), ("OpalField", 157, "the cell is open"), ("OpalField", 162, "the claim has its shafts"), ("OpalField", 164, "the cell is not open"), ("OpalField", 170, "the cell is propped"), ("OpalField", 175, "a trap lies there"), ("OpalField", 181, "the claim has its traps"), ("OpalField", 187, "it is day"), ("OpalField", 192, "the cell cannot be ratted"), ("OpalField", 201, "the parcel has no stones"), ("OpalField", 231, "the stone is dead"), ("OpalField", 246, "the buyer has bid"), ("OpalField", 258, "no purse has what was bid"), ("OpalField", 270, "a cell is told 0 to 3 of"), ("OpalField", 281, "a claim is told 0 to 6 of"), ("OpalField", 283, "both claims are the same"), ("OpalField", 301, "a person is told 0 to 3 of"), ("OpalField", 312, "a stone is told 0 to 7 of"), ("OpalField", 323, "carats are told 0 to 5 of"), ("OpalField", 341, "no such cell"), ("OpalField", 344, "no such person"), ("OpalField", 346, "no such buyer"), ("OpalField", 348, "no such claim"), ("OpalField", 354, "no such stone"), ("OpalField", 356, "out of range"), ("OpalField", 358, "the person is barred"), ("OpalField", 360, "the person is none of the people"), ("OpalField", 362, "the claim does not hold the cell"), ("OpalField", 367, "the stone is in a parcel, or sold")]
def EvJ (U : State) : Prop := va_Dc U ∧ (∃ mi, va_Mi "[Ljava/lang/Object;" mi U) ∧ va_AO "java/lang/Object" U ∧ va_Nw (.castable "OpalField$Claim" "java/lang/Object") U ∧ va_Nw (.castable "OpalField$Stone" "java/lang/Object") U
theorem EvJ.warm {s U : State} (hW : s.WarmedH U.vm) (h : EvJ s) : EvJ U := ⟨va_Dc.moved hW.alike h.1, h.2.1.imp fun mi hm => va_Mi.moved hW.alike hm, va_AO.moved hW.alike h.2.2.1, va_Nw.warmC hW h.2.2.2.1, va_Nw.warmC hW h.2.2.2.2⟩
theorem EvJ.same {s U : State} (hv : U.vm = s.vm) (h : EvJ s) : EvJ U := by
  have ha : s.vm.Alike U.vm := by rw [hv]; exact Vm.Alike.refl s.vm
  exact ⟨va_Dc.moved ha h.1, h.2.1.imp fun mi hm => va_Mi.moved ha hm, va_AO.moved ha h.2.2.1, va_Nw.same rfl hv.symm h.2.2.2.1, va_Nw.same rfl hv.symm h.2.2.2.2⟩
def Ev (D : GD) (f : Nat → Prop) (U : State) (H : Heap) : Prop :=
  va_K D.1 vwCl [(D.2.1.1, .int), (D.2.1.2.1, .boolean), (D.2.1.2.2.1, .long), (D.2.1.2.2.2, .object "java/lang/Object")] U ∧
  vx_Zq Bundle.tN "UNASSIGNED_STACK" Bundle.steD f U H ∧ vx_Zq Bundle.tN "SUPPRESSED_SENTINEL" Bundle.listD f U H ∧
  va_Z "java/util/ArrayList" "DEFAULTCAPACITY_EMPTY_ELEMENTDATA" "[Ljava/lang/Object;" (.ref D.2.2) f U H ∧ va_T (.object "java/lang/Object") D.2.2 0 (fun _ => .null) f U H ∧
  (∀ w ∈ EVW, va_Nw w U) ∧ (∀ q ∈ NCS, va_Nc q.1 q.2 U) ∧ (∀ q ∈ STRS, ∃ sa, vk_R q.1 q.2.1 q.2.2 sa U) ∧ EvJ U
theorem EVW_warm {s U : State} (hW : s.WarmedH U.vm) (h : ∀ w ∈ EVW, va_Nw w s) : ∀ w ∈ EVW, va_Nw w U := by
  intro w hw
  have hz := h w hw
  simp only [EVW, List.mem_cons, List.not_mem_nil, or_false] at hw
  rcases hw with rfl | rfl | rfl | rfl | rfl | rfl | rfl | rfl | rfl
  · exact va_Nw.warmC hW hz
  · exact va_Nw.warmC hW hz
  · exact va_Nw.warmC hW hz
  · exact va_Nw.warmM hW hz
  · exact va_Nw.warmM hW hz
  · exact va_Nw.warmM hW hz
  · exact va_Nw.warmD hW hz
  · exact va_Nw.warmD hW hz
  · exact va_Nw.warmD hW hz
theorem EVW_same {s U : State} (hv : s.vm = U.vm) (h : ∀ w ∈ EVW, va_Nw w s) : ∀ w ∈ EVW, va_Nw w U := by
  intro w hw
  refine va_Nw.same ?_ hv (h w hw)
  simp only [EVW, List.mem_cons, List.not_mem_nil, or_false] at hw
  rcases hw with rfl | rfl | rfl | rfl | rfl | rfl | rfl | rfl | rfl <;> rfl
theorem Ev.warm {D : GD} {f : Nat → Prop} {s U : State} {H : Heap} (hW : s.WarmedH U.vm) (h : Ev D f s H) : Ev D f U H := by
  obtain ⟨h1, h2, h3, h4, h5, h6, h7, h8, h9⟩ := h
  exact ⟨va_K.moved hW.alike h1, vx_Zq.moved hW.alike h2, vx_Zq.moved hW.alike h3, va_Z.moved hW.alike h4, va_T.moved hW.alike h5, EVW_warm hW h6, fun q hq => va_Nc.moved hW.alike (h7 q hq), fun q hq => (h8 q hq).imp fun sa hs => vk_R.warm hW hs, EvJ.warm hW h9⟩
theorem Ev.same {D : GD} {f : Nat → Prop} {s U : State} {H : Heap} (hv : U.vm = s.vm) (h : Ev D f s H) : Ev D f U H := by
  obtain ⟨h1, h2, h3, h4, h5, h6, h7, h8, h9⟩ := h
  have ha : s.vm.Alike U.vm := by rw [hv]; exact Vm.Alike.refl s.vm
  exact ⟨va_K.moved ha h1, vx_Zq.moved ha h2, vx_Zq.moved ha h3, va_Z.moved ha h4, va_T.moved ha h5, EVW_same hv.symm h6, fun q hq => va_Nc.moved ha (h7 q hq), fun q hq => (h8 q hq).imp fun sa hs => vk_R.same hv hs, EvJ.same hv h9⟩
theorem Ev.kept {D : GD} {f : Nat → Prop} {U : State} {H H1 : Heap} (h : Ev D f U H) (hq : ∀ a : Nat, a < H.size → ¬ f a → H1[a]? = H[a]?) : Ev D f U H1 := by
  obtain ⟨h1, h2, h3, h4, h5, h6, h7, h8, h9⟩ := h
  exact ⟨h1, vx_Zq.kept h2 hq, vx_Zq.kept h3 hq, va_Z.kept h4 hq, va_T.kept h5 hq, h6, h7, h8, h9⟩
theorem Ev.narrow {D : GD} {f g : Nat → Prop} {U : State} {H : Heap} (h : Ev D f U H) (hfg : ∀ q, g q → f q) : Ev D g U H := by
  obtain ⟨h1, h2, h3, h4, h5, h6, h7, h8, h9⟩ := h
  exact ⟨h1, vx_Zq.narrow h2 hfg, vx_Zq.narrow h3 hfg, va_Z.narrow h4 hfg, va_T.narrow h5 hfg, h6, h7, h8, h9⟩
/-- a method: its name, code, locals, answer's type, depth, cells and slots that it may make, whether it makes named cells, its table -/
abbrev MD : Type := MethodName × ByteArray × Nat × Option FieldType × Nat × Nat × Nat × Bool × List (Nat × Nat × Nat × Nat)
abbrev Pst : Type := (String ⊕ Option GV) → (Nat → Nat) → Mem → Prop
abbrev MD.y (M : MD) : MethodName := M.1
abbrev MD.cc (M : MD) : ByteArray := M.2.1
abbrev MD.nL (M : MD) : Nat := M.2.2.1
abbrev MD.rt (M : MD) : Option FieldType := M.2.2.2.1
abbrev MD.dp (M : MD) : Nat := M.2.2.2.2.1
abbrev MD.mc (M : MD) : Nat := M.2.2.2.2.2.1
abbrev MD.ms (M : MD) : Nat := M.2.2.2.2.2.2.1
abbrev MD.fl (M : MD) : Bool := M.2.2.2.2.2.2.2.1
abbrev MD.hh (M : MD) : List (Nat × Nat × Nat × Nat) := M.2.2.2.2.2.2.2.2
def rmd (M : MD) : Room := { frames := 12 + M.dp, cells := M.mc, slots := M.ms, locals := 300 + 60 * M.dp }
def wsd (M : MD) : List Cond := (if M.hh = [] then Cond.code M.y M.cc M.nL M.rt else Cond.codeWith M.y M.cc M.nL M.rt M.hh) :: WS
/-- what stays through a method's body -/
def FX (M : MD) (p : Program) (l : Launch) (R : Room) (s : State) (m : MethodId) (args : Array Value) (meth : Method) (c : Code) (D : GD) (a0 L0 : Nat → Nat) : Prop :=
  p.tables.exec = Jvm.exec ∧ c.code = M.cc ∧ c.maxLocals = M.nL ∧ s.vm.findClass M.y.cls = some m.cls ∧ (∀ w ∈ WS, w.before args s = true) ∧ meth.locks = false ∧ meth.sig.returnType = M.rt ∧ meth.name = M.y.name ∧ l.stackTraces = false ∧
  c.exceptionTable.toList = tableOf M.hh ∧ Ev D (fpt a0 L0 s.heap.size) s s.heap ∧ 12 + M.dp ≤ R.frames ∧ 300 + 60 * M.dp ≤ R.locals ∧ M.mc ≤ R.cells ∧ M.ms ≤ R.slots
/-- the world at a place of the body -/
def SH (M : MD) (D : GD) (a0 L0 : Nat → Nat) (s : State) (a L : Nat → Nat) (A : Mem) (H : Heap) (locs : List Loc) : Prop :=
  Wd D a L A H ∧ (∀ n, L n ≠ 0 → fpt a0 L0 s.heap.size (a n)) ∧ (∀ n, L0 n ≠ 0 → (ly n).1 ≠ 9 → a n = a0 n) ∧ (∀ n, L0 n ≠ 0 → L n ≠ 0) ∧ (M.fl = false → a = a0 ∧ L = L0) ∧ va_S (fpt a0 L0 s.heap.size) s.heap H locs
/-- which end an instruction is, with which answer -/
def rtok (M : MD) (i : Instr) (v : Option GV) : Prop :=
  (i = .return_ ∧ M.rt = none ∧ v = none) ∨ (i = .ireturn ∧ ∃ z : Int, v = some (gi z) ∧ (M.rt = some .int ∨ (M.rt = some .boolean ∧ (z = 0 ∨ z = 1)))) ∨ (i = .areturn ∧ ∃ n : Nat, v = some (gr n) ∧ ((∃ t, M.rt = some (.object t)) ∨ ∃ t, M.rt = some (.array t)))
/-- the ends: what a return and a throw that leaves owe -/
def EN (M : MD) (P : Pst) (p : Program) (l : Launch) (e : Env) (R : Room) (s : State) (m : MethodId) (args : Array Value) (below : List Frame) (meth : Method) (c : Code) (D : GD) (a0 L0 : Nat → Nat) (Q : State → Prop) : Prop :=
  (∀ (a L : Nat → Nat) (A : Mem) (H : Heap) (locs : List Loc) (kc ks pc : Nat) (ls : Array Slot) (v : Option GV) (i : Instr), P (.inr v) L A → SH M D a0 L0 s a L A H locs → kc ≤ M.mc → ks ≤ M.ms → decode M.cc pc = .ok (i, 1) → rtok M i v →
    W p l e R s m args below meth c H locs kc ks Q (F0 m pc ls (v.toList.map (ev a)))) ∧
  ∀ (a L : Nat → Nat) (A : Mem) (H : Heap) (locs : List Loc) (kc ks pc : Nat) (ls : Array Slot) (st : List Value) (E : String) (q : Nat) (ce : Cell), P (.inl E) L A → SH M D a0 L0 s a L A H locs → kc ≤ M.mc → ks ≤ M.ms →
    (∀ z ∈ c.exceptionTable.toList, covers z pc = false ∨ (z.catchType ≠ 0 ∧ ∃ nm : String, (Cond.classLink M.y.cls z.catchType nm).before args s = true ∧ va_Nc E nm s)) → H[q]? = some ce → ce.vm = .none → s.vm.findClass E = some ce.cls →
    vx_W p l e R s m args below meth c H locs kc ks Q (F0 m pc ls st) q
/-- what a throw 'new E("text")' at pc asks of the tables -/
def TH (M : MD) (E : String) (pc : Nat) (names : List String) (ik is ic : Nat) (text : String) : Prop :=
  Bundle.fit E = true ∧ (∀ n ∈ names, Bundle.fit n = true) ∧ names.length ≤ 3 ∧ Cond.classLink M.y.cls ik E ∈ WS ∧ Cond.initialized E ∈ WS ∧ (M.y.cls, is, text) ∈ STRS ∧ (∀ w ∈ vx_atS M.y.cls ic E names, w ∈ WS ∨ w ∈ EVW) ∧
  (∀ w ∈ Cond.classLink M.y.cls ik E :: Cond.initialized E :: vx_atS M.y.cls ic E names, vx_ot w = true) ∧ M.hh = [] ∧ decode M.cc pc = .ok (.new ik, 3) ∧ decode M.cc (pc + 3) = .ok (.dup, 1) ∧
  ((decode M.cc (pc + 4) = .ok (.ldc is, 2) ∧ decode M.cc (pc + 6) = .ok (.invokespecial ic, 3) ∧ decode M.cc (pc + 9) = .ok (.athrow, 1)) ∨ (decode M.cc (pc + 4) = .ok (.ldc_w is, 3) ∧ decode M.cc (pc + 7) = .ok (.invokespecial ic, 3) ∧ decode M.cc (pc + 10) = .ok (.athrow, 1)))
/-- what a throw owes -/
def EN3 (M : MD) (P : Pst) (p : Program) (l : Launch) (e : Env) (R : Room) (s : State) (m : MethodId) (args : Array Value) (below : List Frame) (meth : Method) (c : Code) (D : GD) (a0 L0 : Nat → Nat) (Q : State → Prop) : Prop :=
  ∀ (a L : Nat → Nat) (A : Mem) (H : Heap) (locs : List Loc) (kc ks pc : Nat) (ls : Array Slot) (st : List Value) (E : String) (names : List String) (ik is ic : Nat) (text : String), P (.inl E) L A → SH M D a0 L0 s a L A H locs → kc + 1 ≤ M.mc → ks + 6 ≤ M.ms →
    TH M E pc names ik is ic text → ls.size = c.maxLocals → (st.map fun v => v.category).sum ≤ 20 → W p l e R s m args below meth c H locs kc ks Q (F0 m pc ls st)
def GW (M : MD) (P : Pst) (kc ks pc : Nat) (ls : List (Nat × GV)) (st : List GV) (L : Nat → Nat) (A : Mem) : Prop :=
  ∀ (p : Program) (l : Launch) (e : Env) (R : Room) (s : State) (m : MethodId) (args : Array Value) (below : List Frame) (meth : Method) (c : Code) (D : GD) (a0 L0 a : Nat → Nat) (H : Heap) (locs : List Loc) (lsr : Array Slot) (Q : State → Prop),
    FX M p l R s m args meth c D a0 L0 → EN M P p l e R s m args below meth c D a0 L0 Q → EN3 M P p l e R s m args below meth c D a0 L0 Q → SH M D a0 L0 s a L A H locs → lv_has lsr M.nL (ls.map fun q => (q.1, ev a q.2)) →
    W p l e R s m args below meth c H locs kc ks Q (F0 m pc lsr (st.map (ev a)))
def CE (M : MD) (D : GD) (a0 L0 : Nat → Nat) (sz : Nat) (a L : Nat → Nat) (A : Mem) (H : Heap) : Prop :=
  Wd D a L A H ∧ (∀ n, L n ≠ 0 → fpt a0 L0 sz (a n)) ∧ (∀ n, L0 n ≠ 0 → (ly n).1 ≠ 9 → a n = a0 n) ∧ (∀ n, L0 n ≠ 0 → L n ≠ 0) ∧ (M.fl = false → a = a0 ∧ L = L0)
def CtQ (M : MD) (D : GD) (a0 L0 : Nat → Nat) (P : Pst) (sz : Nat) : Array Value → State → Outcome → State → Prop := fun _ st oc t =>
  ∃ (v : Option GV) (a L : Nat → Nat) (A : Mem), oc = .returned (v.map (ev a)) ∧ P (.inr v) L A ∧ CE M D a0 L0 sz a L A t.heap ∧ va_F (fpt a0 L0 sz) st t
def CtX (M : MD) (D : GD) (a0 L0 : Nat → Nat) (P : Pst) (sz : Nat) : String → State → State → Prop := fun E st t =>
  ∃ (a L : Nat → Nat) (A : Mem), P (.inl E) L A ∧ CE M D a0 L0 sz a L A t.heap ∧ va_F (fpt a0 L0 sz) st t
def CtP (D : GD) (a0 L0 : Nat → Nat) (A0 : Mem) (sz : Nat) (gs : List GV) : Array Value → State → Prop := va_Pc (gs.map (ev a0)) (fun U => U.heap.size = sz ∧ Wd D a0 L0 A0 U.heap ∧ Ev D (fpt a0 L0 sz) U U.heap)
/-- a method's contract: from these arguments, names and memory it comes to an end with P -/
def Ct (M : MD) (gs : List GV) (L0 : Nat → Nat) (A0 : Mem) (P : Pst) : Prop := ∀ (l : Launch), l.stackTraces = false → ∀ (D : GD) (a0 : Nat → Nat) (sz : Nat),
  vx_Met l M.y (wsd M) (rmd M) (CtP D a0 L0 A0 sz gs) (CtQ M D a0 L0 P sz) (CtX M D a0 L0 P sz) M.mc M.ms (fpt a0 L0 sz)
theorem WS_in {w : Cond} (h : w ∈ lw_tbl) (g : goodWord w = true) : w ∈ WS := List.mem_filter.mpr ⟨h, g⟩
theorem WS_good {w : Cond} (h : w ∈ WS) : (w.onTables && w.keeps) = true ∨ ∃ ty, w = .arrayClass ty := good_of_word (List.mem_filter.mp h).2
section GE
variable {M : MD} {P : Pst} {p : Program} {l : Launch} {e : Env} {R : Room} {s : State} {m : MethodId} {args : Array Value} {below : List Frame} {meth : Method} {c : Code} {D : GD} {a0 L0 : Nat → Nat}
set_option maxHeartbeats 1000000 in
theorem en_std (hF : FX M p l R s m args meth c D a0 L0) : EN M P p l e R s m args below meth c D a0 L0 (vx_MQ below (CtQ M D a0 L0 P s.heap.size) (CtX M D a0 L0 P s.heap.size) args s M.mc M.ms (fpt a0 L0 s.heap.size)) := by
  obtain ⟨hx, hb, hml, hown, hws, hlocks, hr, hnm, hl, htab, hE, hR⟩ := hF
  refine ⟨?_, ?_⟩
  · intro a L A H locs kc ks pc ls v i hP hS hkc hks hdg hrt
    obtain ⟨hW, hf, hag, hmo, hfl, hva⟩ := hS
    refine vx_ret (W.widen (k := M.mc) (n := M.ms) hkc hks ?_)
    have key : ∀ t : State, t.heap = H → CtQ M D a0 L0 P s.heap.size args s (.returned (v.map (ev a))) t := fun t ht => ⟨v, a, L, A, rfl, hP, ⟨by rw [ht]; exact hW, hf, hag, hmo, hfl⟩, hva.F ht⟩
    rcases hrt with ⟨rfl, h1, rfl⟩ | ⟨rfl, z, rfl, h1⟩ | ⟨rfl, n, rfl, h1⟩
    · exact W.vret hx hb (hr.trans h1) (fun t ht _ => key t ht) hva.2.2 hdg
    · rcases h1 with h1 | ⟨h1, hz⟩
      · exact W.iret (v := Int32.ofInt z) hx hb (hr.trans h1) (fun t ht _ => key t ht) hva.2.2 hdg
      · exact W.zret (v := Int32.ofInt z) (ty := .boolean) hx hb (hr.trans h1) (by rcases hz with rfl | rfl <;> rfl) (fun t ht _ => key t ht) hva.2.2 hdg
    · rcases h1 with ⟨t1, h1⟩ | ⟨t1, h1⟩
      · exact W.aret (v := .ref (a n)) hx hb (hr.trans h1) (Or.inl ⟨t1, rfl⟩) (Or.inr ⟨_, rfl⟩) (fun t ht _ => key t ht) hva.2.2 hdg
      · exact W.aret (v := .ref (a n)) hx hb (hr.trans h1) (Or.inr ⟨t1, rfl⟩) (Or.inr ⟨_, rfl⟩) (fun t ht _ => key t ht) hva.2.2 hdg
  · intro a L A H locs kc ks pc ls st E q ce hP hS hkc hks hpass hce hcv hcl
    obtain ⟨hW, hf, hag, hmo, hfl, hva⟩ := hS
    exact vx_outP hown hlocks hpass hce hcv hcl (fun t ht _ => ⟨a, L, A, hP, ⟨by rw [ht]; exact hW, hf, hag, hmo, hfl⟩, hva.F ht⟩) hva.2.2 hkc hks
theorem Wd_mono {a L : Nat → Nat} {A : Mem} {H H1 : Heap} (hW : Wd D a L A H) (h : ∀ n, L n ≠ 0 → H1[a n]? = H[a n]?) : Wd D a L A H1 :=
  ⟨fun n hn => va_at.kept (hW.1 n hn) (h n hn), hW.2⟩
set_option maxHeartbeats 1000000 in
theorem en3_std (hF : FX M p l R s m args meth c D a0 L0) : EN3 M P p l e R s m args below meth c D a0 L0 (vx_MQ below (CtQ M D a0 L0 P s.heap.size) (CtX M D a0 L0 P s.heap.size) args s M.mc M.ms (fpt a0 L0 s.heap.size)) := by
  obtain ⟨hx, hb, hml, hown, hws, hlocks, hr, hnm, hl, htab, hE, hR1, hR2, hR3, hR4⟩ := hF
  intro a L A H locs kc ks pc ls st E names ik is ic text hP hS hkc hks hT hsz hst
  obtain ⟨hW, hf, hag, hmo, hfl, hva⟩ := hS
  obtain ⟨t1, t2, t3, t4, t5, t6, t7, t8, t9, d0, d3, hd⟩ := hT
  obtain ⟨e1, e2, e3, e4, e5, e6, e7, e8, e9⟩ := hE
  obtain ⟨sa, hsa⟩ := e8 _ t6
  have hout : ∀ (k : Nat), ∀ x ∈ c.exceptionTable.toList, covers x k = false := by
    intro k x hx
    rw [htab, t9] at hx
    exact absurd hx (by simp [tableOf])
  have hx' : ∀ t : State, s.vm.Alike t.vm → H.size ≤ t.heap.size → (∀ q : Nat, q < H.size → t.heap[q]? = H[q]?) → CtX M D a0 L0 P s.heap.size E s t := by
    intro t _ h1 h2
    refine ⟨a, L, A, hP, ⟨Wd_mono hW (fun n hn => h2 _ (va_at.lt (hW.1 n hn))), hf, hag, hmo, hfl⟩, Nat.le_trans hva.1 h1, fun q h3 h4 => ?_⟩
    rw [h2 q (Nat.lt_of_lt_of_le h3 hva.1)]
    exact hva.2.1 q h3 h4
  have hw1 : ∀ w ∈ vx_atS M.y.cls ic E names, w.before args s = true := by
    intro w hw
    rcases t7 w hw with h | h
    · exact hws w h
    · have h1 : w.onTables = true := by
        simp only [EVW, List.mem_cons, List.not_mem_nil, or_false] at h
        rcases h with rfl | rfl | rfl | rfl | rfl | rfl | rfl | rfl | rfl <;> rfl
      exact va_Nw.use h1 (e6 w h)
  rcases hd with ⟨d4, d6, d9⟩ | ⟨d4, d7, d10⟩
  · exact vx_throwS (names := names) hx hb hl hown t1 t2 (hws _ t4) (hws _ t5) hsa hw1 t8 e2 e3 hva hsz d0 d3 d4 d6 d9 (hout _) (by omega) (by omega) (by omega) (by omega) hlocks hx' hva.2.2 hkc hks
  · exact vx_throwSW (names := names) hx hb hl hown t1 t2 (hws _ t4) (hws _ t5) hsa hw1 t8 e2 e3 hva hsz d0 d3 d4 d7 d10 (hout _) (by omega) (by omega) (by omega) (by omega) hlocks hx' hva.2.2 hkc hks
end GE
set_option maxHeartbeats 1000000 in
/-- a contract out of the body's walk -/
theorem Ct_of {M : MD} {gs : List GV} {ls : List (Nat × GV)} {L : Nat → Nat} {A : Mem} {P : Pst} (hh : M.hh = []) (hy : plainName M.y.cls = true) (hls : ∀ a, lv_args 0 (gs.map (ev a)) = ls.map fun q => (q.1, ev a q.2)) (hle : ∀ a, (lg_sl (gs.map (ev a))).length ≤ M.nL)
    (k : GW M P 0 0 0 ls [] L A) : Ct M gs L A P := by
  intro l hl D a0 sz
  refine vx_ofW (cc := M.cc) (maxL := M.nL) (ret := M.rt) (ws' := WS) hy (by unfold wsd; rw [if_pos hh]) ?_
  intro p e s m args below meth c s₁ B hml hex hv
  obtain ⟨rfl, hsz, hW, hE⟩ := hv
  subst hsz
  have hts := atoms_spec (ws := wsd M) B.pre
  have hF : FX M p l (headSpec (wsd M) (rmd M)).room s m (gs.map (ev a0)).toArray meth c D a0 L := by
    refine ⟨B.exec, B.bytes, hml, findClass_of_methodNamed B.named, fun w hw => hts w (List.mem_cons_of_mem _ hw), B.notSynchronized, B.returns, (name_of_methodNamed B.named B.method).1, hl, ?_, hE, Nat.le_refl _, Nat.le_refl _, Nat.le_refl _, Nat.le_refl _⟩
    rw [hh]
    cases h9 : c.exceptionTable.toList with
    | nil => rfl
    | cons x r => exact absurd (by rw [h9]; exact List.mem_cons_self) (fun h => hex x h)
  have hl0 := lv_entry (gs.map (ev a0)) (n := M.nL) (hle a0)
  rw [lg_entry_eq]
  generalize (lg_sl (gs.map (ev a0)) ++ List.replicate (M.nL - (lg_sl (gs.map (ev a0))).length) Slot.unset).toArray = lsr at hl0 ⊢
  rw [hls] at hl0
  exact k p l e _ s m _ below meth c D a0 L a0 s.heap [] lsr _ hF (en_std hF) (en3_std hF) ⟨hW, fun n hn => Or.inl ⟨n, hn, rfl⟩, fun _ _ _ => rfl, fun _ h => h, fun _ => ⟨rfl, rfl⟩, va_S.rf⟩ hl0
