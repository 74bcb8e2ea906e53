/-! rows for methods that may throw a made exception, and for a call of such a method under a catch -/
section FXJ
variable {p : Program} {l : Launch} {e : Env} {R : Room} {s : State} {m : MethodId} {args : Array Value} {below : List Frame} {meth : Method} {c : Code} {H : Heap} {locs : List Loc} {cells slots : Nat} {Q : State → Prop} {pc : Nat} {ls : Array Slot} {st : List Value}
/-- two roads meet at J with an int on top: what holds of it there -/
theorem jn_i {J : Nat} {rest : List Value} (f : Int32 → Prop) (K : ∀ v : Int32, f v → W p l e R s m args below meth c H locs cells slots Q (F0 m J ls (.int v :: rest))) (h : (∀ v : Int32, f v → W p l e R s m args below meth c H locs cells slots Q (F0 m J ls (.int v :: rest))) → W p l e R s m args below meth c H locs cells slots Q (F0 m pc ls st)) : W p l e R s m args below meth c H locs cells slots Q (F0 m pc ls st) := h K
theorem jn_l {J : Nat} {rest : List Value} (f : Int64 → Prop) (K : ∀ v : Int64, f v → W p l e R s m args below meth c H locs cells slots Q (F0 m J ls (.long v :: rest))) (h : (∀ v : Int64, f v → W p l e R s m args below meth c H locs cells slots Q (F0 m J ls (.long v :: rest))) → W p l e R s m args below meth c H locs cells slots Q (F0 m pc ls st)) : W p l e R s m args below meth c H locs cells slots Q (F0 m pc ls st) := h K
/-- a loop at J: a measure n that falls, an invariant I -/
theorem lp_W {σ : Type} {nL J : Nat} (F : σ → List (Nat × Value)) (I : Nat → σ → Prop)
    (step : ∀ (n : Nat) (x : σ), I n x → (∀ (n' : Nat) (x' : σ), n' < n → I n' x' → ∀ ls : Array Slot, lv_has ls nL (F x') → W p l e R s m args below meth c H locs cells slots Q (F0 m J ls [])) → ∀ ls : Array Slot, lv_has ls nL (F x) → W p l e R s m args below meth c H locs cells slots Q (F0 m J ls []))
    (n : Nat) (x : σ) (h0 : I n x) (hl : lv_has ls nL (F x)) : W p l e R s m args below meth c H locs cells slots Q (F0 m J ls []) := by
  induction n using Nat.strongRecOn generalizing x ls with
  | ind n ih => exact step n x h0 (fun n' x' hn hI ls' hl' => ih n' hn x' hI hl') ls hl
end FXJ
/-- what the whole of a contract gives that may throw -/
def th_E (Qc : Array Value → State → Outcome → State → Prop) (mc ms : Nat) : Array Value → State → Outcome → State → Prop := fun a st o t => Qc a st o t ∧ st.WarmedH t.vm ∧ st.sameButNew ({ t with vm := st.vm } : State) [] mc ms
def MetT (l : Launch) (y : MethodName) (ws : List Cond) (rm : Room) (Pc : Array Value → State → Prop) (Qc : Array Value → State → Outcome → State → Prop) (mc ms : Nat) : Prop :=
  MetFree l y (headSpec ws rm) Pc (fun _ _ _ _ _ => True) (th_E Qc mc ms)
def MQT (below : List Frame) (Qc : Array Value → State → Outcome → State → Prop) (a : Array Value) (s : State) (mc ms : Nat) : State → Prop := fun t => ∃ o, t.status = .running ∧ Ended t below o ∧ th_E Qc mc ms a s o t
theorem th_toT {below : List Frame} {Qc : Array Value → State → Outcome → State → Prop} {a : Array Value} {s : State} {mc ms : Nat} {t : State} (h : MQ below Qc a s mc ms (fun _ => False) t) : MQT below Qc a s mc ms t := by
  obtain ⟨o, h1, h2, h3, L, ⟨-, hW, hS⟩, hL⟩ := h
  have e0 : L = [] := List.eq_nil_iff_forall_not_mem.mpr (fun q hq => hL q hq)
  subst e0
  exact ⟨o, h1, h2, h3, hW, hS⟩
theorem MetT.ofW {l : Launch} {y : MethodName} {ws ws' : List Cond} {rm : Room} {Pc : Array Value → State → Prop} {Qc : Array Value → State → Outcome → State → Prop} {mc ms : Nat} {cc : ByteArray} {maxL : Nat} {ret : Option FieldType}
    (hy : plainName y.cls = true) (hw : ws = Cond.code y cc maxL ret :: ws')
    (body : ∀ p e s m args below meth c s₁, BodyLoose p l y (headSpec ws rm) cc maxL ret e s m args below meth c s₁ → c.maxLocals = maxL → Pc args s →
      W p l e (headSpec ws rm).room s m args below meth c s.heap [] 0 0 (MQT below Qc args s mc ms) (entryFrame m args maxL)) : MetT l y ws rm Pc Qc mc ms := by
  refine MetFree.of_bodyS (code := cc) (maxLocals := maxL) (ret := ret) hy ?_ ?_
  · intro args s m h hn
    obtain ⟨meth, c, h1, h2, h3, h4, h5, h6, -, -⟩ := Cond.code_spec hn (atoms_spec (ws := ws) h _ (by rw [hw]; exact List.mem_cons_self))
    exact ⟨meth, c, h1, h2, h3, h4, h5, h6⟩
  · intro p e s m args below meth c s₁ B hml hP _
    have hh0 : s₁.heap = s.heap := by rw [B.state]; rfl
    obtain ⟨t, a1, o, b1, b2, b3⟩ := body p e s m args below meth c s₁ B hml hP s₁ hh0 (Stand.of_body B)
    exact ⟨t, o, a1, b1, b2, b3⟩
theorem th_kept {s s' : State} {k n : Nat} (h : s.sameButNew s' [] k n) : ∀ q : Nat, q < s.heap.size → s'.heap[q]? = s.heap[q]? := by
  intro q hq
  obtain ⟨cell, hc⟩ : ∃ cell, s.heap[q]? = some cell := ⟨_, Array.getElem?_eq_getElem hq⟩
  obtain ⟨c', h1, h2, h3, h4⟩ := h.2.2.2.2.2 q cell hc
  have h5 : c'.slots = cell.slots := Array.ext_getElem? (fun i => h4 i (by simp))
  rw [h1, hc, h2, h5]
section THW
variable {p : Program} {l : Launch} {e : Env} {R : Room} {s : State} {m : MethodId} {args : Array Value} {below : List Frame} {meth : Method} {c : Code} {H : Heap} {cells slots : Nat} {Qc : Array Value → State → Outcome → State → Prop}
variable {cc : ByteArray} {pc : Nat} {ls : Array Slot}
theorem th_W2 (hexec : p.tables.exec = Jvm.exec) (hb : c.code = cc) (htr : e.platform.stackTraces = false) {own cls : String} {names : List String} {ic q a : Nat} (hown : s.vm.findClass own = some m.cls)
    (hcls : Bundle.fit cls = true) (hnames : ∀ n ∈ names, Bundle.fit n = true) (hat : ∀ a ∈ Bundle.ownAtoms own ic cls names, a.before args s = true) (hlocks : meth.locks = false) (hsz : ls.size = c.maxLocals)
    (hno : ∀ x ∈ c.exceptionTable.toList, covers x (pc + 3) = false) (hfr : names.length + 3 < R.frames) (hlo : 13 * names.length + 57 ≤ R.locals)
    {cX : ClassId} {kX : Class} (hfX : s.vm.findClass cls = some cX) (hkX : s.vm.classes[cX]? = some kX) (hcell : H[a]? = some (freshCell cX kX)) (hnew : s.heap.size ≤ a)
    (d6 : decode cc pc = .ok (.invokespecial ic, 3)) (d9 : decode cc (pc + 3) = .ok (.athrow, 1))
    (hq : ∀ (t : State) (ce : Cell), t.heap[a]? = some ce → s.vm.findClass cls = some ce.cls → ce.vm = .none → s.WarmedH t.vm → Qc args s (.threw a) t) :
    W p l e R s m args below meth c H [] cells slots (MQT below Qc args s cells slots) (F0 m pc ls [.ref q, .ref a, .ref a]) := by
  intro T hT X
  obtain ⟨V, hsteps, hrun, hend, hW, hsame, ce, hce, K⟩ := X.ctorThrowS hexec htr (own := own) (cls := cls) (names := names) (ic := ic) hown hcls hnames hat (fun y hy => by cases hy) hfX hkX (a := a) (by rw [hT]; exact hcell) hnew (msg := .ref q) rfl
    (g := F0 m pc ls [.ref q, .ref a, .ref a]) rfl hsz rfl rfl (rest := []) rfl (by rw [hb]; exact d6) (by rw [hb]; exact d9) hno hfr (by show 2 * 0 + _ + _ ≤ _; simp [Value.category]; omega) hlocks
  exact ⟨V, hsteps, .threw a, hrun, hend, hq V ce hce K.cls K.vm hW, hW, hsame⟩
/-- new E; dup; ldc text; E.<init>(String); athrow -/
theorem th_W (hexec : p.tables.exec = Jvm.exec) (hb : c.code = cc) (htr : e.platform.stackTraces = false) {own cls tx : String} {names : List String} {ic inew istr q : Nat} (hown : s.vm.findClass own = some m.cls)
    (hcls : Bundle.fit cls = true) (hnames : ∀ n ∈ names, Bundle.fit n = true) (hat : ∀ a ∈ Bundle.ownAtoms own ic cls names, a.before args s = true) (hlocks : meth.locks = false) (hsz : ls.size = c.maxLocals)
    (hlink : (Cond.classLink own inew cls).before args s = true) (hini : (Cond.initialized cls).before args s = true) (hZ : vk_R own istr tx q s)
    (hno : ∀ x ∈ c.exceptionTable.toList, covers x (pc + 9) = false) (hfr : names.length + 3 < R.frames) (hlo : 13 * names.length + 57 ≤ R.locals) (hc : 1 ≤ R.cells) (hs : 6 ≤ R.slots)
    (d0 : decode cc pc = .ok (.new inew, 3)) (d3 : decode cc (pc + 3) = .ok (.dup, 1)) (d4 : decode cc (pc + 4) = .ok (.ldc istr, 2)) (d6 : decode cc (pc + 6) = .ok (.invokespecial ic, 3)) (d9 : decode cc (pc + 9) = .ok (.athrow, 1))
    (hq : ∀ (t : State) (a : Addr) (ce : Cell), t.heap[a]? = some ce → s.vm.findClass cls = some ce.cls → ce.vm = .none → s.WarmedH t.vm → Qc args s (.threw a) t) :
    W p l e R s m args below meth c s.heap [] 0 0 (MQT below Qc args s 1 6) (F0 m pc ls []) := by
  intro T hT X
  obtain ⟨vm₁, cX, kX, hfX, hkX, -, hn6, X₁, st1⟩ := X.newCold hexec (own := own) (C := cls) (index := inew) (n := 6) hown hlink (hat (.instantiable cls 6) (by simp [Bundle.ownAtoms])) hini (g := F0 m pc ls []) rfl (by rw [hb]; exact d0) (by omega) (by omega)
  generalize hU : (T.setVm vm₁).pushCell { cls := cX, slots := kX.instanceTypes.map defaultValue, vm := .none } = U at X₁ st1
  have hcell : U.heap[T.heap.size]? = some (freshCell cX kX) := by rw [← hU]; exact State.heap_pushCell_size _ _
  have k1 : W p l e R s m args below meth c U.heap [] 1 6 (MQT below Qc args s 1 6) (F0 m (pc + 3) ls [.ref T.heap.size]) := by
    refine lv_dup hexec hb d3 rfl ?_
    refine va_ldcS hexec hb hown hZ d4 ?_
    exact th_W2 hexec hb htr hown hcls hnames hat hlocks hsz hno hfr hlo hfX hkX hcell (by rw [hT]; exact Nat.le_refl _) d6 d9 (fun t ce h1 h2 h3 h4 => hq t _ ce h1 h2 h3 h4)
  obtain ⟨t, a1, b1⟩ := k1 U rfl (by simpa using X₁)
  exact ⟨t, st1 t a1, b1⟩
end THW
/-! a catch whose class may still be unresolved -/
section THC
theorem th_find {E : CtlPost} {e : Env} {d : Bool} {acts : List Action} {s : State} {f : JFrame} {a : Addr} {Q : Handler → Pre} {meth : Method} {code : Code} (hm : s.vm.method? f.method = some meth) (hc : meth.code = some code) {x : ExceptionTableEntry} (hx1 : code.exceptionTable.toList = [x]) (hx : covers x f.pc = true) (h0 : x.catchType ≠ 0) {cl : ClassId} {cell : Cell} {vm' : Vm}
    (hg : (Jvm.resolveClass f.method.cls x.catchType).Gives e.toSetting s.vm (.ok cl) vm') (hcell : s.heap[a]? = some cell) (hobj : ∀ k, cell.vm ≠ .statics k) (hk : ∃ k, vm'.classes[cell.cls]? = some k) (hcl : ∃ k, vm'.classes[cl]? = some k) (hfit : vm'.assignable cell.cls cl = true) (hsz : vm'.classes.size ≤ s.vm.classes.size) :
    wp (findHandler f a) Q E e d acts s ↔ Q (.found x.handlerPc) d acts (s.setVm vm') := by
  rw [W.findHandler_eq hm hc, hx1]
  obtain ⟨ha, ht⟩ := hg.op (op := VmOp.resolveClass f.method.cls x.catchType) rfl
  simp only [covers] at hx
  simp [findHandler.go, hx, h0, ha, ht, hsz, hcell, hobj, hk, hcl, hfit, VmOp.dirties, VmOp.acts]
end THC
section THD
theorem th_step {e : Env} {s : State} {a : Addr} {f : JFrame} {r : List Frame} {pc : Nat} {vm' : Vm} (hfind : ∀ (Q : Handler → Pre) (E : CtlPost) (d : Bool) (acts : List Action), wp (findHandler f a) Q E e d acts s ↔ Q (.found pc) d acts (s.setVm vm')) :
    (stepThrowing e s a (.java f :: r)).1 = (s.setVm vm').setFrames (.java { f with pc := pc, stack := [.ref a] } :: r) := by
  simp only [stepThrowing, searchFrame, vmDo]
  generalize hr : Sem.go _ e false [] s = res
  obtain ⟨as, rfl, ha⟩ := Sem.eq_ok_of hr (a := Handler.found pc) (s' := s.setVm vm') (acts' := []) (by simp [hfind _ _ _ _])
  rfl
variable {p : Program} {l : Launch} {e : Env} {R : Room} {s : State} {m : MethodId} {args : Array Value} {below : List Frame} {meth : Method} {c : Code} {T : State} {locs : List Loc} {cells slots : Nat}
/-- the exception at a, noted over the frame g, is caught by the one entry x of the method's table: the walk goes on at its handler -/
theorem th_caught (X : Stand p l e R s m args below meth c T locs cells slots) {g : JFrame} (hg : g.method = m) {x : ExceptionTableEntry} (hx1 : c.exceptionTable.toList = [x]) (hx : covers x g.pc = true) (h0 : x.catchType ≠ 0)
    {own E : String} (hown : s.vm.findClass own = some m.cls) (hlink : (Cond.classLink own x.catchType E).before args s = true) {cl : ClassId} (hE : s.vm.findClass E = some cl) {a : Addr} {cell : Cell} (hcell : T.heap[a]? = some cell) (hobj : cell.vm = .none) (hcc : cell.cls = cl) (hself : s.vm.assignable cl cl = true) :
    ∃ vm', Stand p l e R s m args below meth c (T.setVm vm') locs cells slots ∧ ∀ target, Steps p.tables e below ((T.setVm vm').setTop { g with pc := x.handlerPc, stack := [.ref a] }) target → Steps p.tables e below ((T.setTop g).pushFrame (.throwing a)) target := by
  subst hg
  have hpl : e.platform.magicAccessors = ({} : Platform).magicAccessors := by rw [X.admits.platform]
  obtain ⟨c2, hfcc, hcl⟩ := Cond.classLink_spec hown hlink e.platform hpl
  cases hE.symm.trans hfcc
  obtain ⟨hg₁, hwarm₁, hready₁⟩ := State.classEntry (e := e) X.warmed hcl
  generalize hv : T.vm.noted g.method.cls x.catchType (.cls cl) = vm₁ at hg₁ hwarm₁ hready₁
  have hal : T.vm.Alike vm₁ := X.warmed.alike.symm.trans hwarm₁.alike
  have X₁ := X.noted hwarm₁
  refine ⟨vm₁, X₁, fun target hrest => ?_⟩
  obtain ⟨hgo, hw⟩ := X.here.throwing (g := g) a
  refine Steps.head hgo hw ?_
  obtain ⟨kc, hkc⟩ := Vm.classAt_of_findClass hE
  obtain ⟨k₁, hk₁, -⟩ := hwarm₁.alike.2.2 _ _ hkc
  have hvmT : ((T.setTop g).pushFrame (.throwing a)).vm = T.vm := Stand.throwing_vm T g a
  have hhT : ((T.setTop g).pushFrame (.throwing a)).heap = T.heap := Stand.throwing_heap T g a
  rw [stepThread_throwing (frames_entered X.here.top _), th_step (s := (T.setTop g).pushFrame (.throwing a)) (pc := x.handlerPc) (vm' := vm₁) (fun Q E d acts => th_find (meth := meth) (code := c) (by rw [hvmT]; exact X.method') X.code hx1 hx h0 (cl := cl) (cell := cell) (by rw [hvmT]; exact hg₁) (by rw [hhT]; exact hcell) (fun k h => by rw [hobj] at h; cases h) (by rw [hcc]; exact ⟨k₁, hk₁⟩) ⟨k₁, hk₁⟩ (by rw [hcc, hwarm₁.alike.assignable]; exact hself) (by rw [hvmT]; exact hal.size_le))]
  obtain ⟨g₀, hg0⟩ := Option.isSome_iff_exists.mp X.here.top
  obtain ⟨r, hr⟩ := State.topJava?_eq_some.mp hg0
  have hr' : (T.setVm vm₁).frames = .java g₀ :: r := hr
  rw [State.setTop_of_frames _ hr'] at hrest
  have e1 : (((T.setTop g).pushFrame (.throwing a)).setVm vm₁).setFrames (.java { g with pc := x.handlerPc, stack := [.ref a] } :: T.frames.tail) = (T.setVm vm₁).setFrames (.java { g with pc := x.handlerPc, stack := [.ref a] } :: r) := by
    rw [State.pushFrame, State.setTop_of_frames _ hr, State.setFrames_setFrames]
    have e0 : ∀ A : List Frame, (T.setFrames A).setVm vm₁ = (T.setVm vm₁).setFrames A := fun _ => rfl
    rw [e0, State.setFrames_setFrames, hr]
    rfl
  rw [e1]
  exact hrest
end THD
section THV
variable {p : Program} {l : Launch} {e : Env} {R : Room} {s : State} {m : MethodId} {args : Array Value} {below : List Frame} {meth : Method} {c : Code} {H : Heap} {locs : List Loc} {cells slots : Nat} {Q : State → Prop}
variable {y : MethodName} {bytes cc : ByteArray} {maxL nL mc ms n index : Nat} {ret : Option FieldType} {ws : List Cond} {rm : Room} {Pc : Array Value → State → Prop} {Qc : Array Value → State → Outcome → State → Prop} {Ts : List Cond} {own C : String} {b : Addr} {As rest : List Value} {g : JFrame}
/-- invokevirtual of a method that may throw E, under a catch of E -/
theorem th_tryV (S : CallFix p m c cc nL s args Ts own) (hM : MetT l y ws rm Pc Qc mc ms) (cw : CallW R s args own C index y bytes maxL ret ws rm mc ms n) (hp : PreV s H C b Pc As)
    (hg : g.method = m) (hn : As.length = n) (hsize : g.locals.size = nL) (hstack : g.stack = As.reverse ++ .ref b :: rest) (hW : 2 * g.monitorRoom + (rest.map fun v => v.category).sum ≤ 8) (hdg : decode cc g.pc = .ok (.invokevirtual index, 3)) (hf : cells + mc ≤ R.cells ∧ slots + ms ≤ R.slots)
    {x : ExceptionTableEntry} (hx1 : c.exceptionTable.toList = [x]) (hx : covers x g.pc = true) (h0 : x.catchType ≠ 0) {E : String} (hlink : (Cond.classLink own x.catchType E).before args s = true) {cl : ClassId} (hE : s.vm.findClass E = some cl) (hself : s.vm.assignable cl cl = true)
    (hthr : ∀ (a : Addr) (st t : State), st.heap = H → s.WarmedH st.vm → s.WarmedH t.vm → Qc (Value.ref b :: As).toArray st (.threw a) t → ∃ cell, t.heap[a]? = some cell ∧ cell.vm = .none ∧ cell.cls = cl)
    (kr : ∀ (v : Option Value) (st t : State), st.heap = H → s.WarmedH st.vm → s.WarmedH t.vm → Qc (Value.ref b :: As).toArray st (.returned v) t → (∀ q : Nat, q < H.size → t.heap[q]? = H[q]?) → H.size ≤ t.heap.size → W p l e R s m args below meth c t.heap locs (cells + mc) (slots + ms) Q { g with pc := g.pc + 3, stack := v.toList ++ rest })
    (kt : ∀ (a : Addr) (st t : State), st.heap = H → s.WarmedH st.vm → s.WarmedH t.vm → Qc (Value.ref b :: As).toArray st (.threw a) t → (∀ q : Nat, q < H.size → t.heap[q]? = H[q]?) → H.size ≤ t.heap.size → W p l e R s m args below meth c t.heap locs (cells + mc) (slots + ms) Q { g with pc := x.handlerPc, stack := [.ref a] }) :
    W p l e R s m args below meth c H locs cells slots Q g := by
  obtain ⟨⟨hrc, hrs, hfr0, hlo0, hws, hcin, hcode, hini, hy, hlen, hl⟩, hin, hsel⟩ := cw
  obtain ⟨hexec, hb, hml, hown, -⟩ := S
  obtain ⟨hblind, ⟨cellB, hcB, hoB, hclB⟩, hPc⟩ := hp
  intro T hT X
  obtain ⟨mk, methM, hnamed, hmethM, hstM, habM⟩ := Cond.instanceMethod_spec hin
  obtain ⟨methM', cM, hmethM', hcM, -, hlM, -, -, -, hsigM⟩ := Cond.code_spec hnamed hcode
  cases hmethM.symm.trans hmethM'
  obtain ⟨c2, r2, m2, q1, q2, q3, q4, kP, hkP, hkPi⟩ := Cond.selects_spec hsel
  cases hclB.symm.trans q1
  cases (State.methodFound?_of_named hnamed hy).symm.trans q2
  cases hnamed.symm.trans q3
  have hselP : selectMethod e.platform s.vm cellB.cls mk = .method mk := by rw [Launch.admits_selectMethod X.admits]; exact q4
  obtain ⟨vm₁, X₁, hstep₁⟩ := X.invokevirtual hexec hown hl hnamed hmethM hstM hkP hkPi hy (a := b) (cell := cellB) (by rw [hT]; exact hcB)
    (fun z h => by rw [h] at hoB; cases hoB) hselP hmethM habM hkP hkPi (g := g) hg (argsL := As) (rest := rest) (hn.trans (hlen _ hsigM)) hstack (by rw [hb]; exact hdg)
  generalize hU : T.setVm vm₁ = U at X₁ hstep₁
  have hUh : U.heap = H := by rw [← hU]; exact hT
  have hdg' : decode c.code g.pc = .ok (.invokevirtual index, 3) := by rw [hb]; exact hdg
  have hsz' : g.locals.size = c.maxLocals := hsize.trans hml.symm
  subst hg
  have hnU : U.methodNamed? y = some mk := X₁.named hnamed
  obtain ⟨kY, hkY, -⟩ := className_of_methodNamed hnU
  have hinitY : kY.init = .initialized := Cond.initialized_spec (findClass_of_methodNamed hnU) hkY (word_at (a' := args) X₁.warmed (Or.inl (by first | rfl | simp [Cond.onTables, Cond.keeps, Cond.steady])) hini)
  have hmU : U.vm.method? mk = some methM := by rw [X₁.warmed.alike.method?]; exact hmethM
  have h : At U g.method c below := X₁.here
  have happ : (headSpec ws rm).appliesLoose y e.platform (U.calling { g with stack := rest } mk (Value.ref b :: As).toArray) = true :=
    Spec.appliesLoose_calling (g := { g with stack := rest }) h hdg' hnU hkY hinitY
      (X₁.room_calling (g := { g with stack := rest }) (R' := (headSpec ws rm).room) hsz' hmU hcM hfr0 (by rw [hlM]; exact Nat.le_trans (by show _ ≤ 8 + (maxL + 11) + rm.locals; have hW' : 2 * ({ g with stack := rest } : JFrame).monitorRoom + (rest.map fun v => v.category).sum ≤ 8 := hW; show 2 * ({ g with stack := rest } : JFrame).monitorRoom + (rest.map fun v => v.category).sum + (maxL + 11) + rm.locals ≤ _; omega) hlo0) (by rw [show (headSpec ws rm).room.cells = mc from hrc]; exact hf.1) (by rw [show (headSpec ws rm).room.slots = ms from hrs]; exact hf.2))
      (atoms_intro fun w hw => hws w hw _ _ X₁.warmed)
  obtain ⟨mid, hmid⟩ := h.above
  have hfr : (U.setTop { g with stack := rest }).frames = (.java { g with stack := rest } :: mid) ++ below := by rw [State.frames_setTop' _ h.top, hmid]; rfl
  obtain ⟨o, s₂, hsteps, -, hend, hq⟩ := Steps.callFree hM p X₁.admits X₁.cas X₁.clock (acts := []) hfr happ (hblind _ _ _ _ (hPc U hUh X₁.warmed)) trivial
  have hq' : th_E Qc mc ms (Value.ref b :: As).toArray (U.calling { g with stack := rest } mk (Value.ref b :: As).toArray) o s₂ := hq
  rw [State.frames_setTop' _ h.top] at hend
  obtain ⟨hQ, hW₂, hS₂⟩ := hq'
  have hkeep : ∀ q : Nat, q < H.size → s₂.heap[q]? = H[q]? := by
    intro q hq9
    have := th_kept hS₂ q (by show q < U.heap.size; rw [hUh]; exact hq9)
    rw [← hUh]
    exact this
  have hgrow : H.size ≤ s₂.heap.size := by rw [← hUh]; exact hS₂.2.1
  have hWs : s.WarmedH s₂.vm := State.WarmedH.trans X₁.warmed (show U.WarmedH s₂.vm from hW₂)
  obtain ⟨st0, hst0⟩ : ∃ q, q = U.calling { g with stack := rest } mk (Value.ref b :: As).toArray := ⟨_, rfl⟩
  have hst1 : st0.heap = H := by rw [hst0]; exact hUh
  have hst2 : s.WarmedH st0.vm := by rw [hst0]; exact X₁.warmed
  cases o with
  | returned v =>
    obtain ⟨e2, q2, q3, q4, q5, q6⟩ := id hS₂
    have e3 : s₂ = ({ (U.calling { g with stack := rest } mk (Value.ref b :: As).toArray).setFrames s₂.frames with heap := s₂.heap, slotsUsed := s₂.slotsUsed } : State).setVm s₂.vm := by
      have : s₂ = ({ s₂ with vm := (U.calling { g with stack := rest } mk (Value.ref b :: As).toArray).vm } : State).setVm s₂.vm := rfl
      rw [e2] at this
      exact this
    obtain ⟨c₂, i₂, len₂, hc₂, hd₂, hf₂⟩ := hend
    have hW' : U.WarmedH s₂.vm := hW₂
    have hcc : c₂ = c := by
      have h1 : s₂.code? g.method = U.code? g.method := by
        rw [State.code?_eq, State.code?_eq, hW'.alike.method?]
      exact Option.some.inj (hc₂.symm.trans (h1.trans h.code))
    subst hcc
    have hlen2 : len₂ = 3 := by
      have hd3 : decode c₂.code g.pc = .ok (i₂, len₂) := hd₂
      rw [hdg'] at hd3; cases hd3; rfl
    subst hlen2
    obtain ⟨g₀, hg0⟩ := Option.isSome_iff_exists.mp h.top
    obtain ⟨r, hr⟩ := State.topJava?_eq_some.mp hg0
    have hs₂ : s₂ = (({ U with heap := s₂.heap, slotsUsed := s₂.slotsUsed } : State).setVm s₂.vm).setTop { g with pc := g.pc + 3, stack := v.toList ++ rest } := by
      have hr' : (({ U with heap := s₂.heap, slotsUsed := s₂.slotsUsed } : State).setVm s₂.vm).frames = .java g₀ :: r := hr
      refine e3.trans ?_
      rw [hf₂, State.calling_eq h.top, State.setFrames_setFrames, State.setTop_of_frames _ hr', hr]
      rfl
    have hsame : U.sameButNew ({ U with heap := s₂.heap, slotsUsed := s₂.slotsUsed } : State) [] mc ms := by
      refine ⟨?_, q2, q3, q4, q5, q6⟩
      obtain ⟨t, ht, -⟩ := State.frames_cons hr
      show ({ U with heap := s₂.heap, slotsUsed := s₂.slotsUsed } : State) = { U.setFrames U.frames with heap := s₂.heap, slotsUsed := s₂.slotsUsed }
      rw [State.setFrames_self ht]
    have X₂ : Stand p l e R s g.method args below meth c₂ (({ U with heap := s₂.heap, slotsUsed := s₂.slotsUsed } : State).setVm s₂.vm) (locs ++ []) (cells + mc) (slots + ms) :=
      ⟨X₁.admits, X₁.cas, X₁.clock, X₁.frames, X₁.room, X₁.hears, X₁.method, X₁.code, (X₁.here.setHeapUsed s₂.heap s₂.slotsUsed).setVm hW'.alike, X₁.tail, State.WarmedH.trans X₁.warmed hW', X₁.limits, X₁.bytes, X₁.same.trans (hsame.setVm s.vm)⟩
    rw [List.append_nil] at X₂
    obtain ⟨t, a1, b1⟩ := kr v st0 s₂ hst1 hst2 hWs (by rw [hst0]; exact hQ) hkeep hgrow (({ U with heap := s₂.heap, slotsUsed := s₂.slotsUsed } : State).setVm s₂.vm) rfl X₂
    refine ⟨t, hstep₁ _ fun acts => ?_, b1⟩
    rw [doInvoke_state]
    rw [hs₂] at hsteps
    exact hsteps.trans a1
  | threw a =>
    obtain ⟨T', X₂, hW3, hS3, ht⟩ := X₁.outOfThrown (g := { g with stack := rest }) rfl (by rw [X₁.tail] at hend; exact hend) hW₂ hS₂
    rw [List.append_nil] at X₂
    have hh2 : T'.heap = s₂.heap := by rw [ht]; exact (Stand.throwing_heap T' _ a).symm
    obtain ⟨cell, hc1, hc2, hc3⟩ := hthr a st0 s₂ hst1 hst2 hWs (by rw [hst0]; exact hQ)
    obtain ⟨vm', X₃, hst⟩ := th_caught X₂ (g := { g with stack := rest }) rfl hx1 hx h0 hown hlink hE (a := a) (cell := cell) (by rw [hh2]; exact hc1) hc2 hc3 hself
    obtain ⟨t, a1, b1⟩ := kt a st0 s₂ hst1 hst2 hWs (by rw [hst0]; exact hQ) hkeep hgrow (T'.setVm vm') hh2 X₃
    refine ⟨t, hstep₁ _ fun acts => ?_, b1⟩
    rw [doInvoke_state]
    rw [ht] at hsteps
    exact hsteps.trans (hst t a1)
/-- invokestatic, in the own class, of a method with an exception table -/
theorem th_runSW {hh : List (Nat × Nat × Nat × Nat)} {free : Addr → Prop} (S : CallFix p m c cc nL s args Ts own) (hM : Met l y ws rm Pc Qc mc ms free)
    (hcw : rm.cells = mc ∧ rm.slots = ms ∧ rm.frames + 1 ≤ R.frames ∧ 8 + (maxL + 11) + rm.locals ≤ R.locals ∧ (∀ w ∈ ws, ∀ (a' : Array Value) (U : State), s.WarmedH U.vm → w.before a' U = true) ∧ Cond.codeWith y bytes maxL ret hh ∈ ws ∧ (Cond.codeWith y bytes maxL ret hh).before args s = true ∧ (Cond.initialized y.cls).before args s = true ∧ (y.cls ≠ "java/lang/invoke/MethodHandle" ∧ y.cls ≠ "java/lang/invoke/VarHandle") ∧ (∀ sig, parseMethodDescriptor y.desc = some sig → n = sig.parameters.length) ∧ (Cond.methodLink own index y).before args s = true)
    (hstat : (Cond.static y).before args s = true) (hp : PreS s H Pc As)
    (hg : g.method = m) (hn : As.length = n) (hsize : g.locals.size = nL) (hstack : g.stack = As.reverse ++ rest) (hW : 2 * g.monitorRoom + (rest.map fun v => v.category).sum ≤ 8) (hdg : decode cc g.pc = .ok (.invokestatic index, 3)) (hf : cells + mc ≤ R.cells ∧ slots + ms ≤ R.slots) :
    va_Run p l e R s m args below meth c H locs cells slots mc ms g rest (Qc As.toArray) (free) := by
  obtain ⟨hrc, hrs, hfr, hlo, hws, hcin, hcode, hini, hy, hlen, hl⟩ := hcw
  have hK : Back l R p e below s args y 3 8 (PreOf R mc ms Pc) (PostOf Qc mc ms free) := va_backW (hh := hh) (bytes := bytes) (maxL := maxL) (ret := ret) hM hp.1 hrc hrs hfr hlo hws hcin (fun a' U hW => word_at hW (Or.inl (by first | rfl | simp [Cond.onTables, Cond.keeps, Cond.steady])) hini)
  obtain ⟨hx, hb, hml, ho, -⟩ := S
  intro T hT X
  obtain ⟨mk, methM, cM, hnamed, hmethM, -, -, -, -, -, -, hsigM⟩ := Cond.codeWith_spec hcode
  have hstatic : methM.isStatic = true := Cond.static_spec hnamed hmethM hstat
  obtain ⟨kP, hkP, -⟩ := className_of_methodNamed hnamed
  have hinitP : kP.init = .initialized := Cond.initialized_spec (findClass_of_methodNamed hnamed) hkP hini
  obtain ⟨vm₁, X₁, hstep₁⟩ := X.invokestatic hx ho hl hnamed hmethM hstatic hkP hinitP hy (g := g) hg (argsL := As) (rest := rest) (hn.trans (hlen _ hsigM)) hstack (by rw [hb]; exact hdg)
  obtain ⟨v, ⟨U', l2, c2, s2⟩, X', ⟨g', mk', t, L, e1, e2, hq, h1, hL, h2, h3⟩, hsteps⟩ := hK m meth c ⟨T.setVm vm₁, locs, cells, slots⟩ { g with stack := rest } (.invokestatic index) mk As.toArray X₁ hg (hsize.trans hml.symm) (by rw [hb]; exact hdg) hW (X₁.named hnamed) ⟨hf.1, hf.2, hp.2 (T.setVm vm₁) hT X₁.warmed⟩
  dsimp only [Pt.U, Pt.locs, Pt.cells, Pt.slots] at X' e1 e2 h1 h2 h3 hsteps
  subst h1; subst h2; subst h3
  exact ⟨v, (T.setVm vm₁).calling g' mk' As.toArray, t, U', L, hT, X', hL, e1, e2, hq, fun target h => hstep₁ _ fun acts => by rw [doInvoke_state]; exact hsteps.trans h⟩
end THV
def thN : List String := ["java/lang/RuntimeException", "java/lang/Exception"]
def th_Qi (E : String) (ok : Int32 → Prop) (no : Prop) : Array Value → State → Outcome → State → Prop := fun _ st o t => (∃ r : Int32, o = .returned (some (.int r)) ∧ ok r ∧ t.heap = st.heap) ∨ (∃ (a : Addr) (ce : Cell), o = .threw a ∧ no ∧ t.heap[a]? = some ce ∧ ce.vm = .none ∧ st.vm.findClass E = some ce.cls)
def th_Ql (E : String) (ok : Int64 → Prop) (no : Prop) : Array Value → State → Outcome → State → Prop := fun _ st o t => (∃ r : Int64, o = .returned (some (.long r)) ∧ ok r ∧ t.heap = st.heap) ∨ (∃ (a : Addr) (ce : Cell), o = .threw a ∧ no ∧ t.heap[a]? = some ce ∧ ce.vm = .none ∧ st.vm.findClass E = some ce.cls)
theorem th_ret {p : Program} {l : Launch} {e : Env} {R : Room} {s : State} {m : MethodId} {args : Array Value} {below : List Frame} {meth : Method} {c : Code} {H : Heap} {locs : List Loc} {cells slots mc ms : Nat} {Qc : Array Value → State → Outcome → State → Prop} {g : JFrame}
    (k : W p l e R s m args below meth c H locs cells slots (MQ below Qc args s mc ms (fun _ => False)) g) : W p l e R s m args below meth c H locs cells slots (MQT below Qc args s mc ms) g := fun T hT X => by
  obtain ⟨t, a, b⟩ := k T hT X
  exact ⟨t, a, th_toT b⟩
theorem th_str {own tx : String} {k : Nat} {s : State} {args : Array Value} {m : MethodId} (hown : s.vm.findClass own = some m.cls) (h : (Cond.stringRef own k tx).before args s = true) : ∃ q, vk_R own k tx q s := by
  obtain ⟨-, -, -, sa, -, -, -, -, -, hev⟩ := Cond.stringRef_spec hown h
  exact ⟨sa, vk_R.of h hev⟩
/-- where a static field lies: its class's statics cell -/
def th_L (C n d : String) (A : Nat → Prop) (U : State) (H : Heap) : Prop := ∃ (c : ClassId) (k : Class) (i : Nat) (f : Field) (a : Nat) (cell : Cell), U.vm.findClass C = some c ∧ U.fieldFound? C n d = some (c, k, i, f) ∧ f.isStatic = true ∧ k.statics = some a ∧ H[a]? = some cell ∧ cell.vm.isStatics = true ∧ cell.cls = c ∧ f.slot < cell.slots.size ∧ k.staticTypes[f.slot]? = some f.type ∧ ¬ A a
theorem th_L.to {C n d : String} {A : Nat → Prop} {u U : State} {H H1 : Heap} (hvm : u.vm.Alike U.vm) (hq : ∀ a : Nat, a < H.size → ¬ A a → H1[a]? = H[a]?) (h : th_L C n d A u H) : th_L C n d A U H1 := by
  obtain ⟨c, k, i, f, a, cell, h1, h2, h3, h4, h5, h6, h7, h8, h9, h10⟩ := h
  obtain ⟨k', hi', he⟩ := State.fieldFound?_setVm hvm h2
  exact ⟨c, k', i, f, a, cell, by rw [hvm.findClass]; exact h1, hi', h3, by rw [he]; exact h4, by rw [hq a (Array.getElem?_eq_some_iff.mp h5).1 h10]; exact h5, h6, h7, h8, by rw [he]; exact h9, h10⟩
theorem th_L.word {C n d : String} {A : Nat → Prop} {s : State} {args : Array Value} (h : th_L C n d A s s.heap) : (Cond.laysStatic C n d).before args s = true := by
  obtain ⟨c, k, i, f, a, cell, h1, h2, h3, h4, h5, h6, h7, h8, h9, -⟩ := h
  show (Cond.laysStatic C n d).holds args s none s [] = true
  exact Cond.laysStatic_of h1 h2 h3 h4 h5 h6 h7 h8 h9
theorem th_L.of {C n d : String} {A : Nat → Prop} {s : State} {args : Array Value} (hl : (Cond.laysStatic C n d).before args s = true) (hA : ∀ a : Nat, a < s.heap.size → ¬ A a) : th_L C n d A s s.heap := by
  obtain ⟨c, k, i, f, a, cell, h1, h2, h3, h4, h5, h6, h7, h8, h9⟩ := Cond.laysStatic_spec hl
  exact ⟨c, k, i, f, a, cell, h1, h2, h3, h4, h5, h6, h7, h8, h9, hA a (Array.getElem?_eq_some_iff.mp h5).1⟩
/-- the words of the tables that stay true under warmer tables, the good ones and those on members -/
def th_k (w : Cond) : Bool := w.onTables && w.keepsFace
def th_T (U : State) : Prop := ∀ w ∈ lw_tbl, th_k w = true → w.before #[] U = true
theorem th_T.to {s U : State} (hW : s.WarmedH U.vm) (h : th_T s) : th_T U := by
  intro w hw hk
  have hk2 := hk
  unfold th_k at hk2
  rw [Bool.and_eq_true] at hk2
  have h1 : w.before #[] (s.setVm U.vm) = true := Cond.before_shiftedFace (State.Shifted.of_warmed hW) w hk2.2 (h w hw hk)
  exact va_tabs hk2.1 (rfl : (s.setVm U.vm).vm = U.vm) h1
theorem th_T.same {s U : State} (hv : s.vm = U.vm) (h : th_T s) : th_T U := fun w hw hk => by
  have hk2 := hk
  unfold th_k at hk2
  rw [Bool.and_eq_true] at hk2
  exact va_tabs hk2.1 hv (h w hw hk)
def thS : List (Nat × String) := [(30, "the divisor is 0"), (46, "a long can't hold the ratio"), (62, "d is not above 0"), (65, "n is not 0 .. d"), (80, "c is not 0 .. 255"), (86, "x or y is not 0 .. 255")]
/-- what a throw needs of the state: two statics of Throwable, the tables' words, the texts -/
def th_Z (sz : Nat) (U : State) : Prop := (va_Zq Bundle.tN "UNASSIGNED_STACK" Bundle.steD (fun q => sz ≤ q) U U.heap ∧ va_Zq Bundle.tN "SUPPRESSED_SENTINEL" Bundle.listD (fun q => sz ≤ q) U U.heap) ∧ (th_L Bundle.tN "UNASSIGNED_STACK" Bundle.steD (fun q => sz ≤ q) U U.heap ∧ th_L Bundle.tN "SUPPRESSED_SENTINEL" Bundle.listD (fun q => sz ≤ q) U U.heap) ∧ th_T U ∧ ∀ z ∈ thS, ∃ q, vk_R R_F z.1 z.2 q U
theorem th_Z.to {sz : Nat} {s U : State} (h : th_Z sz s) (hW : s.WarmedH U.vm) (hq : ∀ q : Nat, q < s.heap.size → ¬ sz ≤ q → U.heap[q]? = s.heap[q]?) : th_Z sz U :=
  ⟨⟨(va_Zq.moved hW.alike h.1.1).kept hq, (va_Zq.moved hW.alike h.1.2).kept hq⟩, ⟨th_L.to hW.alike hq h.2.1.1, th_L.to hW.alike hq h.2.1.2⟩, th_T.to hW h.2.2.1, fun z hz => by
    obtain ⟨q, hq⟩ := h.2.2.2 z hz
    exact ⟨q, vk_R.warm hW hq⟩⟩
theorem th_Z.call {sz : Nat} {U : State} {g : JFrame} {mk : MethodId} {a : Array Value} (h : th_Z sz U) : th_Z sz (U.calling g mk a) :=
  ⟨⟨va_Zq.moved (Vm.Alike.refl U.vm) h.1.1, va_Zq.moved (Vm.Alike.refl U.vm) h.1.2⟩, ⟨th_L.to (Vm.Alike.refl U.vm) (fun _ _ _ => rfl) h.2.1.1, th_L.to (Vm.Alike.refl U.vm) (fun _ _ _ => rfl) h.2.1.2⟩, th_T.same (s := U) (U := U.calling g mk a) rfl h.2.2.1, fun z hz => by
    obtain ⟨q, hq⟩ := h.2.2.2 z hz
    exact ⟨q, vk_R.same (u := U) rfl hq⟩⟩
theorem th_isRef {C n d : String} {A : Nat → Prop} {U : State} {args : Array Value} (h : va_Zq C n d A U U.heap) : (Cond.isRef (.static C n d)).before args U = true := by
  rcases h with ⟨cf, kf, fi, f, a, cell, h1, h2, h3, h4, h5, h6, h7, h8⟩ | ⟨t, cf, kf, fi, f, a, cell, h1, h2, h3, h4, h5, h6, h7, h8⟩ <;> simp [Cond.before, Cond.holds, Cond.value, Term.eval, State.fieldNamed?, h1, h2, h4, h5, h6, h7]
theorem th_at {own : String} {ic : Nat} {X : String} {names : List String} {s : State} {args : Array Value} {sz : Nat} (hmem : (Bundle.ownAtoms own ic X names).all (fun w => decide (w = .isRef (.static Bundle.tN "UNASSIGNED_STACK" Bundle.steD)) || decide (w = .isRef (.static Bundle.tN "SUPPRESSED_SENTINEL" Bundle.listD)) || decide (w = .laysStatic Bundle.tN "UNASSIGNED_STACK" Bundle.steD) || decide (w = .laysStatic Bundle.tN "SUPPRESSED_SENTINEL" Bundle.listD) || (decide (w ∈ lw_tbl) && th_k w)) = true)
    (hZ : th_Z sz s) : ∀ a ∈ Bundle.ownAtoms own ic X names, a.before args s = true := by
  intro a ha
  have h := List.all_eq_true.mp hmem a ha
  rw [Bool.or_eq_true, Bool.or_eq_true, Bool.or_eq_true, Bool.or_eq_true, Bool.and_eq_true] at h
  rcases h with (((h | h) | h) | h) | h
  · rw [of_decide_eq_true h]
    exact th_isRef hZ.1.1
  · rw [of_decide_eq_true h]
    exact th_isRef hZ.1.2
  · rw [of_decide_eq_true h]
    exact th_L.word hZ.2.1.1
  · rw [of_decide_eq_true h]
    exact th_L.word hZ.2.1.2
  · have hk2 := h.2
    unfold th_k at hk2
    rw [Bool.and_eq_true] at hk2
    exact va_tabs hk2.1 rfl (hZ.2.2.1 a (of_decide_eq_true h.1) h.2)
theorem th_off {l : Launch} {e : Env} (hf : l.flags = flags0) (ha : l.admits e) : e.platform.stackTraces = false := Launch.traces_off hf ha
set_option maxRecDepth 20000 in
theorem th_at_32 {s : State} {args : Array Value} {sz : Nat} (hZ : th_Z sz s) : ∀ a ∈ Bundle.ownAtoms R_F 32 "java/lang/ArithmeticException" thN, a.before args s = true := th_at (by decide +kernel) hZ
set_option maxRecDepth 20000 in
theorem th_at_64 {s : State} {args : Array Value} {sz : Nat} (hZ : th_Z sz s) : ∀ a ∈ Bundle.ownAtoms R_F 64 "java/lang/IllegalArgumentException" thN, a.before args s = true := th_at (by decide +kernel) hZ
