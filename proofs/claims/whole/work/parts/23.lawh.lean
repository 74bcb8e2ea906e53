/-! THE CLAIM OUT OF ONE WALK OF THE LAW'S BODY. Your part is whole_start (and what it stands on); all else here is the same for every law, but numbers. -/
def R_law : String := "FixedNumbersLaw"
def lw_P (b : Addr) (xs : List Int32) (args : Array Value) (s : State) : Prop := args = #[.ref b] ∧ s.IntsAt b xs ∧ xs.length ≤ 3584 ∧ (Jvm.Cond.and given_1 narrow_1).before args s = true
def lw_Q (_ : Array Value) (s : State) (o : Outcome) (t : State) : Prop := o = .returned (some (.int 1)) ∧ Framed s o t [] 1034 8239
def lw_Z (below : List Frame) (a : Array Value) (s : State) : State → Prop := fun t => ∃ o, t.status = .running ∧ Ended t below o ∧ lw_Q a s o t
/-- the law's own end, with 1 on the stack, nothing written that was there before, its room as the claim has it -/
theorem lw_ret {p : Program} {l : Launch} {e : Env} {s : State} {m : MethodId} {below : List Frame} {meth : Method} {c : Code} {b : Nat} (hx : p.tables.exec = Jvm.exec) (hb : c.code = code) (hr : meth.sig.returnType = ret) (hlocks : meth.locks = false) {pc : Nat} {H : Heap} {ls : Array Slot} (hdg : decode code pc = .ok (.ireturn, 1)) : W p l e room_1 s m #[Value.ref b] below meth c H [] 1034 8239 (lw_Z below #[Value.ref b] s) (F0 m pc ls [.int 1]) := by
  intro T hT X
  obtain ⟨fs, hret, hrun, hended, hW, hframe⟩ := X.leave (v := some (.int 1)) (hlocks := hlocks) (fun h => by rw [hr] at h; cases h)
  have hmeth' : T.vm.method? m = some meth := X.method'
  refine ⟨T.setFrames fs, ?_, .returned (some (.int 1)), hrun, hended, rfl, ⟨_, rfl⟩, hW, hframe⟩
  jvm_step X.here [X.here.top, hx, hb, hdg, hmeth', hr, ret, narrow_b1]
  (try refine ⟨rfl, ?_⟩); (try refine ⟨rfl, ?_⟩)
  first | (intro acts; rw [hret _ acts rfl rfl rfl]) | rw [hret _ _ rfl rfl rfl]
  exact Steps.refl _
/-- what holds at the law's entry: the machine, the code, the tables' words (any of lw_tbl by 'hts w (by decide +kernel)'), the script of L ints xs at the cell b, what the Statement gives of the start (any of its parts by flat_of_before) -/
def lw_At (p : Program) (s : State) (m : MethodId) (meth : Method) (c : Code) (b L : Nat) (xs : Nat → Int32) : Prop :=
  p.tables.exec = Jvm.exec ∧ c.code = code ∧ meth.sig.returnType = ret ∧ c.maxLocals = 8 ∧ s.vm.findClass R_law = some m.cls ∧ (∀ w ∈ lw_tbl, w.before #[Value.ref b] s = true) ∧ va_X b L xs s s.heap ∧ b < s.heap.size ∧ meth.locks = false ∧ (Jvm.Cond.and given_1 narrow_1).before #[Value.ref b] s = true
/-! what the law's walk uses -/
section LWR
variable {p : Program} {l : Launch} {e : Env} {R : Room} {s : State} {m : MethodId} {args : Array Value} {below : List Frame} {meth : Method} {c : Code} {H : Heap} {locs : List Loc} {cells slots : Nat} {Q : State → Prop} {pc : Nat} {ls : Array Slot} {rest : List Value}
theorem lw_ld (hexec : p.tables.exec = Jvm.exec) (hb : c.code = code) {b L : Nat} {xs : Nat → Int32} (hX : va_X b L xs s s.heap) (hbl : b < s.heap.size) (hS : va_S (fun q : Nat => s.heap.size ≤ q) s.heap H locs) (hL : L ≤ 3584) {i : Int32} {j : Nat} {X : Int32} (hj : j < L) (hi : i = nI j) (hXj : X = xs j) (hdg : decode code pc = .ok (.iaload, 1))
    (kk : W p l e R s m args below meth c H locs cells slots Q (F0 m (pc + 1) ls (.int X :: rest))) : W p l e R s m args below meth c H locs cells slots Q (F0 m pc ls (.int i :: .ref b :: rest)) := by
  subst hi
  refine va_sld hexec hb hX hbl (show ¬ (fun q : Nat => s.heap.size ≤ q) b from Nat.not_le.mpr hbl) hS (vp_in_nI hj (by omega)) hdg ?_
  rw [nI_clamp (by omega), ← hXj]
  exact kk
end LWR
theorem th_cwSW {R : Room} {s : State} {args : Array Value} {own : String} {index : Nat} {y : MethodName} {bytes : ByteArray} {maxL mc ms : Nat} {ret : Option FieldType} {hh : List (Nat × Nat × Nat × Nat)} {Ts ws ws' : List Cond} {rm : Room} (n : Nat) (ht : ∀ w ∈ Ts, w.before args s = true) (hT : GoodIn Ts (wsS own index y ws)) (hw : ws = Cond.codeWith y bytes maxL ret hh :: ws') (hrc : rm.cells = mc) (hrs : rm.slots = ms)
    (hd : y.cls = own ∧ y.cls ≠ "java/lang/invoke/MethodHandle" ∧ y.cls ≠ "java/lang/invoke/VarHandle" ∧ (parseMethodDescriptor y.desc).map (fun d => d.parameters.length) = some n) (hR : rm.frames + 1 ≤ R.frames ∧ 8 + (maxL + 11) + rm.locals ≤ R.locals) :
    (rm.cells = mc ∧ rm.slots = ms ∧ rm.frames + 1 ≤ R.frames ∧ 8 + (maxL + 11) + rm.locals ≤ R.locals ∧ (∀ w ∈ ws, ∀ (a' : Array Value) (U : State), s.WarmedH U.vm → w.before a' U = true) ∧ Cond.codeWith y bytes maxL ret hh ∈ ws ∧ (Cond.codeWith y bytes maxL ret hh).before args s = true ∧ (Cond.initialized y.cls).before args s = true ∧ (y.cls ≠ "java/lang/invoke/MethodHandle" ∧ y.cls ≠ "java/lang/invoke/VarHandle") ∧ (∀ sig, parseMethodDescriptor y.desc = some sig → n = sig.parameters.length) ∧ (Cond.methodLink own index y).before args s = true) ∧ (Cond.static y).before args s = true := by
  obtain ⟨hC, hd⟩ := hd
  have ok : ∀ w ∈ wsS own index y ws, w.before args s = true := fun w h => ht w (hT w h).1
  have hG : GoodIn Ts ws := fun w h => hT w (by unfold wsS; exact List.mem_append_right _ h)
  have hc : Cond.codeWith y bytes maxL ret hh ∈ ws := by rw [hw]; exact List.mem_cons_self
  refine ⟨⟨hrc, hrs, hR.1, hR.2, pay_in ht hG, hc, ht _ (hG _ hc).1, by rw [hC]; exact ok _ (by simp [wsS]), ⟨hd.1, hd.2.1⟩, fun sig h => ?_, ok _ (by simp [wsS])⟩, ok _ (by simp [wsS])⟩
  have h2 := hd.2.2
  rw [h] at h2
  exact (Option.some.inj h2).symm
/-- two ints of the script as a long -/
def lw_j (a b : Int32) : Int64 := (a.toInt64 <<< ((32 : Int32).toInt64 &&& 63)) ||| (b.toInt64 &&& 4294967295)
theorem lw_k {k r th : Int32} {OK1 OK2 NO : Prop} (h1 : (k = 0 ∧ OK1) ∨ (k = 1 ∧ NO)) (h2 : (th = 0 ∧ OK2) ∨ (th = 1 ∧ NO)) (a1 : OK1 → ¬ NO) (a2 : OK2 → ¬ NO) (hr : r = th) : r = k := by
  rw [hr]
  rcases h1 with ⟨e1, x1⟩ | ⟨e1, x1⟩ <;> rcases h2 with ⟨e2, x2⟩ | ⟨e2, x2⟩
  · rw [e1, e2]
  · exact absurd x2 (a1 x1)
  · exact absurd x1 (a2 x2)
  · rw [e1, e2]
theorem lw_g {g : Nat → Int64} : g (0 : Int32).toNatClampNeg = g 0 := by rw [show (0 : Int32).toNatClampNeg = 0 by decide]
theorem lw_v {ok : Int32 → Prop} {NO : Prop} {k th r : Int32} {g : Nat → Int64} {w z : Int64} (h1 : (k = 0 ∧ ∃ v : Int32, ok v ∧ g 0 = v.toInt64) ∨ (k = 1 ∧ NO)) (h2 : (th = 0 ∧ ok r) ∨ (th = 1 ∧ NO)) (one : ∀ x y, ok x → ok y → x = y) (ap : ∀ x, ok x → ¬ NO) (ck : k = 0) (ew : w = g (0 : Int32).toNatClampNeg) (ez : z = r.toInt64) : w = z := by
  rcases h1 with ⟨-, v, x1, x2⟩ | ⟨e1, x1⟩
  · rcases h2 with ⟨-, y1⟩ | ⟨-, y1⟩
    · rw [ew, ez, lw_g (g := g), x2, one v r x1 y1]
    · exact absurd y1 (ap v x1)
  · rw [ck] at e1
    exact absurd e1 (by decide)
theorem lw_v4 {ok : Int64 → Prop} {NO : Prop} {k th : Int32} {g : Nat → Int64} {w r : Int64} (h1 : (k = 0 ∧ ∃ v : Int64, ok v ∧ g 0 = v) ∨ (k = 1 ∧ NO)) (h2 : (th = 0 ∧ ok r) ∨ (th = 1 ∧ NO)) (one : ∀ x y, ok x → ok y → x = y) (ap : ∀ x, ok x → ¬ NO) (ck : k = 0) (ew : w = g (0 : Int32).toNatClampNeg) : w = r := by
  rcases h1 with ⟨-, v, x1, x2⟩ | ⟨e1, x1⟩
  · rcases h2 with ⟨-, y1⟩ | ⟨-, y1⟩
    · rw [ew, lw_g (g := g), x2, one v r x1 y1]
    · exact absurd y1 (ap v x1)
  · rw [ck] at e1
    exact absurd e1 (by decide)
theorem lw_q1 {a b d : Int} (x y : Int64) (hx : sp_rok a b d x.toInt) (hy : sp_rok a b d y.toInt) : x = y := Int64.toInt_inj.mp (hx.2.trans hy.2.symm)
theorem lw_q0 {a b d : Int} (x : Int64) (hx : sp_rok a b d x.toInt) : ¬ sp_rno a b d := by
  have h := fx_i64 x
  exact sp_r_apart hx (by omega) (by omega)
theorem lw_b0 {n d : Int} (h : 0 < d ∧ 0 ≤ n ∧ n ≤ d) : ¬ sp_bno n d := by
  unfold sp_bno
  omega
abbrev WX (q0 q1 q2 : Nat) (cA : ClassId) (th : Int32) (up lo le : Int64) (f : Nat → Int64) : va_W := [(q0, .inr (0, [])), (q1, .inr (1, [.int th, .long up, .long lo, .long le])), (q2, .inl (cA, 1, .inr (.inl f)))]
