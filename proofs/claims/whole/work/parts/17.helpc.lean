/-! constructors; the law's helpers: a call of the class under a catch -/
theorem th_one {y : MethodName} {bytes : ByteArray} {ml : Nat} {ret : Option FieldType} {a b d k : Nat} {s : State} {m : MethodId} {meth : Method} {c : Code} {args : Array Value} (hn : s.methodNamed? y = some m) (hm : s.vm.method? m = some meth) (hc : meth.code = some c) (h : (Cond.codeWith y bytes ml ret [(a, b, d, k)]).before args s = true) : ∃ x : ExceptionTableEntry, c.exceptionTable.toList = [x] ∧ x.startPc = a ∧ x.endPc = b ∧ x.handlerPc = d ∧ x.catchType = k := by
  obtain ⟨m2, meth2, c2, h1, h2, h3, -, -, h4, -⟩ := Cond.codeWith_spec h
  cases hn.symm.trans h1
  cases hm.symm.trans h2
  cases hc.symm.trans h3
  cases hl : c.exceptionTable.toList with
  | nil => rw [hl] at h4; cases h4
  | cons x r =>
    rw [hl] at h4
    cases r with
    | nil =>
      simp at h4
      exact ⟨x, rfl, h4.1, h4.2.1, h4.2.2.1, h4.2.2.2⟩
    | cons z w => simp at h4
theorem th_cov {x : ExceptionTableEntry} {a b n : Nat} (h1 : x.startPc = a) (h2 : x.endPc = b) (h3 : a ≤ n) (h4 : n < b) : covers x n = true := by
  unfold covers
  simp [h1, h2, h3, h4]
theorem th_g0 {f : Nat → Int64} {x : Int64} : vp_updL f (0 : Int32).toNatClampNeg x 0 = x := by
  rw [show (0 : Int32).toNatClampNeg = 0 by decide]
  exact pk_uLs
theorem i_O : Cond.code Lib.objectInit ⟨#[0xb1]⟩ 1 none ∈ lw_tbl := List.mem_of_getElem? (i := 20) rfl
abbrev at_X (dC : Nat → ClassId) (dI : Nat → Nat → Nat) (A : Nat → Prop) (h0 h1 : Nat) (cA : ClassId) (g : Nat → Int64) (t : State) : Prop := va_P (dC, dI) classes [(h0, .inr (0, [])), (h1, .inl (cA, 1, .inr (.inl g)))] t.heap ∧ va_K (dC, dI) classes [(cA, .long)] t ∧ va_D A [(h0, .inr (0, [])), (h1, .inl (cA, 1, .inr (.inl g)))]

set_option maxHeartbeats 4000000 in
set_option maxRecDepth 100000 in
theorem c_F_init (l : Launch) (h0 : Nat) : Met l y_F_init w_F_init ({ frames := 1, cells := 0, slots := 0, locals := 12 }) (fun v _ => v = [Value.ref h0].toArray) (va_Qv (fun _ : Unit => True) (fun _ _ => True) (fun _ => False)) 0 0 (fun _ => False) := by
  refine Met.ofW (cc := b_F_init) (maxL := 1) (ret := none) (by decide) rfl ?_
  intro p e s m args below meth c s₁ B hml hv
  subst hv
  have hx := B.exec
  have hb := B.bytes
  have hr := B.returns
  have hts := atoms_spec (ws := w_F_init) B.pre
  have hown : s.vm.findClass R_F = some m.cls := findClass_of_methodNamed B.named
  have hlocks := B.notSynchronized
  have hl := lv_entry ([.ref h0]) (n := 1) (Nat.le_of_ble_eq_true rfl)
  rw [lg_entry_eq]
  generalize (lg_sl ([.ref h0]) ++ List.replicate (1 - (lg_sl ([.ref h0])).length) Slot.unset).toArray = ls at hl ⊢
  have hl : lv_has ls 1 [(0, .ref h0)] := hl
  refine lv_aload_n hx hb d_F_init_0 rfl (lv_at hl 0 rfl) ?_
  refine W.objInit hx hb hown (hts (.methodLink R_F 1 Lib.objectInit) (List.mem_cons_of_mem _ (tm (by decide +kernel) rfl))) (hts (.instanceMethod Lib.objectInit) (List.mem_cons_of_mem _ (tm (by decide +kernel) rfl))) (hts _ (List.mem_cons_of_mem _ (tm i_O rfl))) rfl (by rw [hml]; exact hl.1) rfl d_F_init_1 (Nat.le_of_ble_eq_true rfl) (Nat.le_of_ble_eq_true rfl) ?_
  refine W.eq (g2 := F0 m 4 ls []) rfl ?_
  exact W.vret hx hb hr (fun t ht hW => ⟨⟨(), rfl, trivial, trivial⟩, ⟨by rw [ht]; exact Nat.le_refl _, fun q _ _ => by rw [ht]⟩⟩) (fun _ h => by cases h) d_F_init_4

set_option maxHeartbeats 4000000 in
set_option maxRecDepth 100000 in
theorem c_M_init (l : Launch) (h0 : Nat) : Met l y_M_init w_M_init ({ frames := 1, cells := 0, slots := 0, locals := 12 }) (fun v _ => v = [Value.ref h0].toArray) (va_Qv (fun _ : Unit => True) (fun _ _ => True) (fun _ => False)) 0 0 (fun _ => False) := by
  refine Met.ofW (cc := b_M_init) (maxL := 1) (ret := none) (by decide) rfl ?_
  intro p e s m args below meth c s₁ B hml hv
  subst hv
  have hx := B.exec
  have hb := B.bytes
  have hr := B.returns
  have hts := atoms_spec (ws := w_M_init) B.pre
  have hown : s.vm.findClass R_M = some m.cls := findClass_of_methodNamed B.named
  have hlocks := B.notSynchronized
  have hl := lv_entry ([.ref h0]) (n := 1) (Nat.le_of_ble_eq_true rfl)
  rw [lg_entry_eq]
  generalize (lg_sl ([.ref h0]) ++ List.replicate (1 - (lg_sl ([.ref h0])).length) Slot.unset).toArray = ls at hl ⊢
  have hl : lv_has ls 1 [(0, .ref h0)] := hl
  refine lv_aload_n hx hb d_M_init_0 rfl (lv_at hl 0 rfl) ?_
  refine W.objInit hx hb hown (hts (.methodLink R_M 1 Lib.objectInit) (List.mem_cons_of_mem _ (tm (by decide +kernel) rfl))) (hts (.instanceMethod Lib.objectInit) (List.mem_cons_of_mem _ (tm (by decide +kernel) rfl))) (hts _ (List.mem_cons_of_mem _ (tm i_O rfl))) rfl (by rw [hml]; exact hl.1) rfl d_M_init_1 (Nat.le_of_ble_eq_true rfl) (Nat.le_of_ble_eq_true rfl) ?_
  refine W.eq (g2 := F0 m 4 ls []) rfl ?_
  exact W.vret hx hb hr (fun t ht hW => ⟨⟨(), rfl, trivial, trivial⟩, ⟨by rw [ht]; exact Nat.le_refl _, fun q _ _ => by rw [ht]⟩⟩) (fun _ h => by cases h) d_M_init_4

set_option maxHeartbeats 4000000 in
set_option maxRecDepth 100000 in
theorem c_L_ratio (l : Launch) (hfl : l.flags = flags0) (dC : Nat → ClassId) (dI : Nat → Nat → Nat) (Z h0 h1 sz : Nat) (cA : ClassId) (f : Nat → Int64) (a b d : Int64) : Met l y_L_ratio w_L_ratio ({ frames := 7, cells := 1, slots := 6, locals := 140 }) (va_Pc [.ref h0, .long a, .long b, .long d, .ref h1] (fun U => U.heap.size = sz ∧ va_P (dC, dI) classes [(h0, .inr (0, [])), (h1, .inl (cA, 1, .inr (.inl f)))] U.heap ∧ va_K (dC, dI) classes [(cA, .long)] U ∧ va_D (fun _ => True) [(h0, .inr (0, [])), (h1, .inl (cA, 1, .inr (.inl f)))] ∧ th_Z Z U)) (va_Qi (fun (r : Int32) (g : Nat → Int64) => (r = 0 ∧ ∃ v : Int64, sp_rok a.toInt b.toInt d.toInt v.toInt ∧ g 0 = v) ∨ (r = 1 ∧ sp_rno a.toInt b.toInt d.toInt)) (at_X dC dI (va_A [(h0, .inr (0, [])), (h1, .inl (cA, 1, .inr (.inl f)))] sz) h0 h1 cA) (va_A [(h0, .inr (0, [])), (h1, .inl (cA, 1, .inr (.inl f)))] sz)) 1 6 (va_A [(h0, .inr (0, [])), (h1, .inl (cA, 1, .inr (.inl f)))] sz) := by
  refine va_MetW (cc := b_L_ratio) (maxL := 9) (ret := some .int) (hh := [(0, 12, 15, 13)]) (by decide) rfl ?_
  intro p e s m args below meth c s₁ B hml hv
  obtain ⟨rfl, hsz, hP, hK, hD0, hZ⟩ := hv
  have hx := B.exec
  have hb := B.bytes
  have hr := B.returns
  have hts := atoms_spec (ws := w_L_ratio) B.pre
  have hown : s.vm.findClass R_L = some m.cls := findClass_of_methodNamed B.named
  have hlocks := B.notSynchronized
  subst hsz
  have hD := hD0.self (sz := s.heap.size)
  generalize hAe : va_A [(h0, .inr (0, [])), (h1, .inl (cA, 1, .inr (.inl f)))] s.heap.size = A at hD ⊢
  have hA : ∀ q : Nat, s.heap.size ≤ q → A q := fun q h => by rw [← hAe]; exact Or.inr h
  have hS : va_S A s.heap s.heap [] := va_S.rf
  have hP : va_P (dC, dI) classes [(h0, .inr (0, [])), (h1, .inl (cA, 1, .inr (.inl f)))] s.heap := hP
  obtain ⟨x, hx1, hxa, hxb, hxh, hxc⟩ := th_one B.named B.method (Stand.of_body B).code (hts _ List.mem_cons_self)
  obtain ⟨cl, -, hE, -⟩ := Cond.instantiable_spec (hts (.instantiable "java/lang/ArithmeticException" 6) (List.mem_cons_of_mem _ (tm (by decide +kernel) rfl)))
  have hl := lv_entry ([.ref h0, .long a, .long b, .long d, .ref h1]) (n := 9) (Nat.le_of_ble_eq_true rfl)
  rw [lg_entry_eq]
  generalize (lg_sl ([.ref h0, .long a, .long b, .long d, .ref h1]) ++ List.replicate (9 - (lg_sl ([.ref h0, .long a, .long b, .long d, .ref h1])).length) Slot.unset).toArray = ls at hl ⊢
  have hl : lv_has ls 9 [(0, .ref h0), (1, .long a), (3, .long b), (5, .long d), (7, .ref h1)] := hl
  refine lv_aload hx hb d_L_ratio_0 (lv_at hl 4 rfl) ?_
  refine lv_iconst (v := 0) hx hb d_L_ratio_2 (by decide) ?_
  refine lv_aload_n hx hb d_L_ratio_3 rfl (lv_at hl 0 rfl) ?_
  refine lv_lload_n hx hb d_L_ratio_4 rfl (lv_at hl 1 rfl) ?_
  refine lv_lload_n hx hb d_L_ratio_5 rfl (lv_at hl 2 rfl) ?_
  refine lv_lload hx hb d_L_ratio_6 (lv_at hl 3 rfl) ?_
  refine th_tryV (As := [.long a, .long b, .long d]) (rest := [.int 0, .ref h1]) ⟨hx, hb, hml, hown, hts⟩ (c_F_ratio l hfl Z h0 a b d) (cwV 3 hts g_L_7 rfl rfl rfl (by decide +kernel) ⟨Nat.le_of_ble_eq_true rfl, Nat.le_of_ble_eq_true rfl⟩) ⟨fun _ U g mk q => ⟨q.1, th_Z.call q.2⟩, va_recv hK hP (ci := 0) (q0 := 0) rfl rfl, fun U hU hW => ⟨rfl, th_Z.to hZ hW (fun q _ _ => by rw [hU])⟩⟩ rfl rfl hl.1 rfl (lv_room (Nat.le_of_ble_eq_true rfl)) d_L_ratio_8 ⟨Nat.le_of_ble_eq_true rfl, Nat.le_of_ble_eq_true rfl⟩ hx1 (th_cov (n := 8) hxa hxb (by decide) (by decide)) (by rw [hxc]; decide) (E := "java/lang/ArithmeticException") (by rw [hxc]; exact hts (.classLink R_L 13 "java/lang/ArithmeticException") (List.mem_cons_of_mem _ (tm (by decide +kernel) rfl))) hE (Vm.assignable_self _ _) (fun a9 st t q1 q2 q3 q4 => ?_) (fun v9 st t q1 q2 q3 q4 q5 q6 => ?_) (fun a9 st t q1 q2 q3 q4 q5 q6 => ?_)
  · rcases q4 with ⟨r9, hv9, hok9, hh9⟩ | ⟨a8, ce, ha9, hno, g1, g2, g3⟩
    · cases hv9
    · cases ha9
      exact ⟨ce, g1, g2, Option.some.inj (g3.symm.trans (by rw [q2.alike.findClass]; exact hE))⟩
  · rcases q4 with ⟨r9, hv9, hok9, hh9⟩ | ⟨a8, ce, ha9, hno, g1, g2, g3⟩
    · cases hv9
      rw [hh9.trans q1]
      refine W.eq (g2 := F0 m 11 ls [.long r9, .int 0, .ref h1]) rfl ?_
      refine va_last hx hb hK hP hD hS 1 0 rfl rfl (i := 0) (pk_in 0 1 (by decide)) d_L_ratio_11 (fun H locs hP hD hS => ?_)
      have hP : va_P (dC, dI) classes [(h0, .inr (0, [])), (h1, .inl (cA, 1, .inr (.inl (vp_updL f (0 : Int32).toNatClampNeg r9))))] H := hP
      have hD : va_D A [(h0, .inr (0, [])), (h1, .inl (cA, 1, .inr (.inl (vp_updL f (0 : Int32).toNatClampNeg r9))))] := hD
      refine lv_goto (tgt := 19) hx hb d_L_ratio_12 (by decide) ?_
      refine lv_iconst (v := 0) hx hb d_L_ratio_19 (by decide) ?_
      exact W.iret (v := 0) hx hb hr (fun t ht hW => ⟨⟨0, (vp_updL f (0 : Int32).toNatClampNeg r9), rfl, Or.inl ⟨rfl, r9, hok9, by rw [th_g0]⟩, by rw [ht]; exact hP, va_K.moved hW.alike hK, hD⟩, hS.F ht⟩) hS.2.2 d_L_ratio_20
    · cases ha9
  · rcases q4 with ⟨r9, hv9, hok9, hh9⟩ | ⟨a8, ce, ha9, hno, g1, g2, g3⟩
    · cases hv9
    · have hP := hP.kept (H1 := t.heap) (fun k9 q9 hq9 => q5 _ ((hP k9 q9 hq9).lt))
      have hS : va_S A s.heap t.heap [] := ⟨q6, fun q hq _ => q5 q hq, fun _ h => by cases h⟩
      generalize t.heap = H at hP hS ⊢
      refine W.eq (g2 := F0 m 15 ls [.ref a9]) (by rw [hxh]) ?_
      refine lv_astore (lv' := [(8, .ref a9), (0, .ref h0), (1, .long a), (3, .long b), (5, .long d), (7, .ref h1)]) hx hb d_L_ratio_15 hl (by decide) rfl (fun ls hl => ?_)
      refine lv_iconst (v := 1) hx hb d_L_ratio_17 (by decide) ?_
      exact W.iret (v := 1) hx hb hr (fun t ht hW => ⟨⟨1, f, rfl, Or.inr ⟨rfl, hno⟩, by rw [ht]; exact hP, va_K.moved hW.alike hK, hD⟩, hS.F ht⟩) hS.2.2 d_L_ratio_18
set_option maxHeartbeats 4000000 in
set_option maxRecDepth 100000 in
theorem c_L_between (l : Launch) (hfl : l.flags = flags0) (dC : Nat → ClassId) (dI : Nat → Nat → Nat) (Z h0 h1 sz : Nat) (cA : ClassId) (f : Nat → Int64) (a b : Int32) (n d : Int64) : Met l y_L_between w_L_between ({ frames := 7, cells := 1, slots := 6, locals := 140 }) (va_Pc [.ref h0, .int a, .int b, .long n, .long d, .ref h1] (fun U => U.heap.size = sz ∧ va_P (dC, dI) classes [(h0, .inr (0, [])), (h1, .inl (cA, 1, .inr (.inl f)))] U.heap ∧ va_K (dC, dI) classes [(cA, .long)] U ∧ va_D (fun _ => True) [(h0, .inr (0, [])), (h1, .inl (cA, 1, .inr (.inl f)))] ∧ th_Z Z U)) (va_Qi (fun (r : Int32) (g : Nat → Int64) => (r = 0 ∧ ∃ v : Int32, ((0 < d.toInt ∧ 0 ≤ n.toInt ∧ n.toInt ≤ d.toInt) ∧ v.toInt = sp_betw a.toInt b.toInt n.toInt d.toInt) ∧ g 0 = v.toInt64) ∨ (r = 1 ∧ sp_bno n.toInt d.toInt)) (at_X dC dI (va_A [(h0, .inr (0, [])), (h1, .inl (cA, 1, .inr (.inl f)))] sz) h0 h1 cA) (va_A [(h0, .inr (0, [])), (h1, .inl (cA, 1, .inr (.inl f)))] sz)) 1 6 (va_A [(h0, .inr (0, [])), (h1, .inl (cA, 1, .inr (.inl f)))] sz) := by
  refine va_MetW (cc := b_L_between) (maxL := 9) (ret := some .int) (hh := [(0, 14, 17, 19)]) (by decide) rfl ?_
  intro p e s m args below meth c s₁ B hml hv
  obtain ⟨rfl, hsz, hP, hK, hD0, hZ⟩ := hv
  have hx := B.exec
  have hb := B.bytes
  have hr := B.returns
  have hts := atoms_spec (ws := w_L_between) B.pre
  have hown : s.vm.findClass R_L = some m.cls := findClass_of_methodNamed B.named
  have hlocks := B.notSynchronized
  subst hsz
  have hD := hD0.self (sz := s.heap.size)
  generalize hAe : va_A [(h0, .inr (0, [])), (h1, .inl (cA, 1, .inr (.inl f)))] s.heap.size = A at hD ⊢
  have hA : ∀ q : Nat, s.heap.size ≤ q → A q := fun q h => by rw [← hAe]; exact Or.inr h
  have hS : va_S A s.heap s.heap [] := va_S.rf
  have hP : va_P (dC, dI) classes [(h0, .inr (0, [])), (h1, .inl (cA, 1, .inr (.inl f)))] s.heap := hP
  obtain ⟨x, hx1, hxa, hxb, hxh, hxc⟩ := th_one B.named B.method (Stand.of_body B).code (hts _ List.mem_cons_self)
  obtain ⟨cl, -, hE, -⟩ := Cond.instantiable_spec (hts (.instantiable "java/lang/IllegalArgumentException" 6) (List.mem_cons_of_mem _ (tm (by decide +kernel) rfl)))
  have hl := lv_entry ([.ref h0, .int a, .int b, .long n, .long d, .ref h1]) (n := 9) (Nat.le_of_ble_eq_true rfl)
  rw [lg_entry_eq]
  generalize (lg_sl ([.ref h0, .int a, .int b, .long n, .long d, .ref h1]) ++ List.replicate (9 - (lg_sl ([.ref h0, .int a, .int b, .long n, .long d, .ref h1])).length) Slot.unset).toArray = ls at hl ⊢
  have hl : lv_has ls 9 [(0, .ref h0), (1, .int a), (2, .int b), (3, .long n), (5, .long d), (7, .ref h1)] := hl
  refine lv_aload hx hb d_L_between_0 (lv_at hl 5 rfl) ?_
  refine lv_iconst (v := 0) hx hb d_L_between_2 (by decide) ?_
  refine lv_aload_n hx hb d_L_between_3 rfl (lv_at hl 0 rfl) ?_
  refine lv_iload_n hx hb d_L_between_4 rfl (lv_at hl 1 rfl) ?_
  refine lv_iload_n hx hb d_L_between_5 rfl (lv_at hl 2 rfl) ?_
  refine lv_lload_n hx hb d_L_between_6 rfl (lv_at hl 3 rfl) ?_
  refine lv_lload hx hb d_L_between_7 (lv_at hl 4 rfl) ?_
  refine th_tryV (As := [.int a, .int b, .long n, .long d]) (rest := [.int 0, .ref h1]) ⟨hx, hb, hml, hown, hts⟩ (c_F_between l hfl Z h0 a b n d) (cwV 4 hts g_L_15 rfl rfl rfl (by decide +kernel) ⟨Nat.le_of_ble_eq_true rfl, Nat.le_of_ble_eq_true rfl⟩) ⟨fun _ U g mk q => ⟨q.1, th_Z.call q.2⟩, va_recv hK hP (ci := 0) (q0 := 0) rfl rfl, fun U hU hW => ⟨rfl, th_Z.to hZ hW (fun q _ _ => by rw [hU])⟩⟩ rfl rfl hl.1 rfl (lv_room (Nat.le_of_ble_eq_true rfl)) d_L_between_9 ⟨Nat.le_of_ble_eq_true rfl, Nat.le_of_ble_eq_true rfl⟩ hx1 (th_cov (n := 9) hxa hxb (by decide) (by decide)) (by rw [hxc]; decide) (E := "java/lang/IllegalArgumentException") (by rw [hxc]; exact hts (.classLink R_L 19 "java/lang/IllegalArgumentException") (List.mem_cons_of_mem _ (tm (by decide +kernel) rfl))) hE (Vm.assignable_self _ _) (fun a9 st t q1 q2 q3 q4 => ?_) (fun v9 st t q1 q2 q3 q4 q5 q6 => ?_) (fun a9 st t q1 q2 q3 q4 q5 q6 => ?_)
  · rcases q4 with ⟨r9, hv9, hok9, hh9⟩ | ⟨a8, ce, ha9, hno, g1, g2, g3⟩
    · cases hv9
    · cases ha9
      exact ⟨ce, g1, g2, Option.some.inj (g3.symm.trans (by rw [q2.alike.findClass]; exact hE))⟩
  · rcases q4 with ⟨r9, hv9, hok9, hh9⟩ | ⟨a8, ce, ha9, hno, g1, g2, g3⟩
    · cases hv9
      rw [hh9.trans q1]
      refine W.eq (g2 := F0 m 12 ls [.int r9, .int 0, .ref h1]) rfl ?_
      refine lv_i2l hx hb d_L_between_12 rfl ?_
      refine lv_topl (fun v12 e12 => ?_)
      refine va_last hx hb hK hP hD hS 1 0 rfl rfl (i := 0) (pk_in 0 1 (by decide)) d_L_between_13 (fun H locs hP hD hS => ?_)
      have hP : va_P (dC, dI) classes [(h0, .inr (0, [])), (h1, .inl (cA, 1, .inr (.inl (vp_updL f (0 : Int32).toNatClampNeg v12))))] H := hP
      have hD : va_D A [(h0, .inr (0, [])), (h1, .inl (cA, 1, .inr (.inl (vp_updL f (0 : Int32).toNatClampNeg v12))))] := hD
      refine lv_goto (tgt := 21) hx hb d_L_between_14 (by decide) ?_
      refine lv_iconst (v := 0) hx hb d_L_between_21 (by decide) ?_
      exact W.iret (v := 0) hx hb hr (fun t ht hW => ⟨⟨0, (vp_updL f (0 : Int32).toNatClampNeg v12), rfl, Or.inl ⟨rfl, r9, hok9, by rw [th_g0]; exact e12⟩, by rw [ht]; exact hP, va_K.moved hW.alike hK, hD⟩, hS.F ht⟩) hS.2.2 d_L_between_22
    · cases ha9
  · rcases q4 with ⟨r9, hv9, hok9, hh9⟩ | ⟨a8, ce, ha9, hno, g1, g2, g3⟩
    · cases hv9
    · have hP := hP.kept (H1 := t.heap) (fun k9 q9 hq9 => q5 _ ((hP k9 q9 hq9).lt))
      have hS : va_S A s.heap t.heap [] := ⟨q6, fun q hq _ => q5 q hq, fun _ h => by cases h⟩
      generalize t.heap = H at hP hS ⊢
      refine W.eq (g2 := F0 m 17 ls [.ref a9]) (by rw [hxh]) ?_
      refine lv_astore (lv' := [(8, .ref a9), (0, .ref h0), (1, .int a), (2, .int b), (3, .long n), (5, .long d), (7, .ref h1)]) hx hb d_L_between_17 hl (by decide) rfl (fun ls hl => ?_)
      refine lv_iconst (v := 1) hx hb d_L_between_19 (by decide) ?_
      exact W.iret (v := 1) hx hb hr (fun t ht hW => ⟨⟨1, f, rfl, Or.inr ⟨rfl, hno⟩, by rw [ht]; exact hP, va_K.moved hW.alike hK, hD⟩, hS.F ht⟩) hS.2.2 d_L_between_20
set_option maxHeartbeats 4000000 in
set_option maxRecDepth 100000 in
theorem c_L_fixed (l : Launch) (hfl : l.flags = flags0) (dC : Nat → ClassId) (dI : Nat → Nat → Nat) (Z h0 h1 sz : Nat) (cA : ClassId) (f : Nat → Int64) (a : Int32) : Met l y_L_fixed w_L_fixed ({ frames := 7, cells := 1, slots := 6, locals := 140 }) (va_Pc [.ref h0, .int a, .ref h1] (fun U => U.heap.size = sz ∧ va_P (dC, dI) classes [(h0, .inr (0, [])), (h1, .inl (cA, 1, .inr (.inl f)))] U.heap ∧ va_K (dC, dI) classes [(cA, .long)] U ∧ va_D (fun _ => True) [(h0, .inr (0, [])), (h1, .inl (cA, 1, .inr (.inl f)))] ∧ th_Z Z U)) (va_Qi (fun (r : Int32) (g : Nat → Int64) => (r = 0 ∧ ∃ v : Int32, (sp_byte a.toInt ∧ v.toInt = (2 * (65536 * a.toInt) + 255) / 510) ∧ g 0 = v.toInt64) ∨ (r = 1 ∧ ¬ sp_byte a.toInt)) (at_X dC dI (va_A [(h0, .inr (0, [])), (h1, .inl (cA, 1, .inr (.inl f)))] sz) h0 h1 cA) (va_A [(h0, .inr (0, [])), (h1, .inl (cA, 1, .inr (.inl f)))] sz)) 1 6 (va_A [(h0, .inr (0, [])), (h1, .inl (cA, 1, .inr (.inl f)))] sz) := by
  refine va_MetW (cc := b_L_fixed) (maxL := 4) (ret := some .int) (hh := [(0, 9, 12, 19)]) (by decide) rfl ?_
  intro p e s m args below meth c s₁ B hml hv
  obtain ⟨rfl, hsz, hP, hK, hD0, hZ⟩ := hv
  have hx := B.exec
  have hb := B.bytes
  have hr := B.returns
  have hts := atoms_spec (ws := w_L_fixed) B.pre
  have hown : s.vm.findClass R_L = some m.cls := findClass_of_methodNamed B.named
  have hlocks := B.notSynchronized
  subst hsz
  have hD := hD0.self (sz := s.heap.size)
  generalize hAe : va_A [(h0, .inr (0, [])), (h1, .inl (cA, 1, .inr (.inl f)))] s.heap.size = A at hD ⊢
  have hA : ∀ q : Nat, s.heap.size ≤ q → A q := fun q h => by rw [← hAe]; exact Or.inr h
  have hS : va_S A s.heap s.heap [] := va_S.rf
  have hP : va_P (dC, dI) classes [(h0, .inr (0, [])), (h1, .inl (cA, 1, .inr (.inl f)))] s.heap := hP
  obtain ⟨x, hx1, hxa, hxb, hxh, hxc⟩ := th_one B.named B.method (Stand.of_body B).code (hts _ List.mem_cons_self)
  obtain ⟨cl, -, hE, -⟩ := Cond.instantiable_spec (hts (.instantiable "java/lang/IllegalArgumentException" 6) (List.mem_cons_of_mem _ (tm (by decide +kernel) rfl)))
  have hl := lv_entry ([.ref h0, .int a, .ref h1]) (n := 4) (Nat.le_of_ble_eq_true rfl)
  rw [lg_entry_eq]
  generalize (lg_sl ([.ref h0, .int a, .ref h1]) ++ List.replicate (4 - (lg_sl ([.ref h0, .int a, .ref h1])).length) Slot.unset).toArray = ls at hl ⊢
  have hl : lv_has ls 4 [(0, .ref h0), (1, .int a), (2, .ref h1)] := hl
  refine lv_aload_n hx hb d_L_fixed_0 rfl (lv_at hl 2 rfl) ?_
  refine lv_iconst (v := 0) hx hb d_L_fixed_1 (by decide) ?_
  refine lv_aload_n hx hb d_L_fixed_2 rfl (lv_at hl 0 rfl) ?_
  refine lv_iload_n hx hb d_L_fixed_3 rfl (lv_at hl 1 rfl) ?_
  refine th_tryV (As := [.int a]) (rest := [.int 0, .ref h1]) ⟨hx, hb, hml, hown, hts⟩ (c_F_fixed l hfl Z h0 a) (cwV 1 hts g_L_21 rfl rfl rfl (by decide +kernel) ⟨Nat.le_of_ble_eq_true rfl, Nat.le_of_ble_eq_true rfl⟩) ⟨fun _ U g mk q => ⟨q.1, th_Z.call q.2⟩, va_recv hK hP (ci := 0) (q0 := 0) rfl rfl, fun U hU hW => ⟨rfl, th_Z.to hZ hW (fun q _ _ => by rw [hU])⟩⟩ rfl rfl hl.1 rfl (lv_room (Nat.le_of_ble_eq_true rfl)) d_L_fixed_4 ⟨Nat.le_of_ble_eq_true rfl, Nat.le_of_ble_eq_true rfl⟩ hx1 (th_cov (n := 4) hxa hxb (by decide) (by decide)) (by rw [hxc]; decide) (E := "java/lang/IllegalArgumentException") (by rw [hxc]; exact hts (.classLink R_L 19 "java/lang/IllegalArgumentException") (List.mem_cons_of_mem _ (tm (by decide +kernel) rfl))) hE (Vm.assignable_self _ _) (fun a9 st t q1 q2 q3 q4 => ?_) (fun v9 st t q1 q2 q3 q4 q5 q6 => ?_) (fun a9 st t q1 q2 q3 q4 q5 q6 => ?_)
  · rcases q4 with ⟨r9, hv9, hok9, hh9⟩ | ⟨a8, ce, ha9, hno, g1, g2, g3⟩
    · cases hv9
    · cases ha9
      exact ⟨ce, g1, g2, Option.some.inj (g3.symm.trans (by rw [q2.alike.findClass]; exact hE))⟩
  · rcases q4 with ⟨r9, hv9, hok9, hh9⟩ | ⟨a8, ce, ha9, hno, g1, g2, g3⟩
    · cases hv9
      rw [hh9.trans q1]
      refine W.eq (g2 := F0 m 7 ls [.int r9, .int 0, .ref h1]) rfl ?_
      refine lv_i2l hx hb d_L_fixed_7 rfl ?_
      refine lv_topl (fun v7 e7 => ?_)
      refine va_last hx hb hK hP hD hS 1 0 rfl rfl (i := 0) (pk_in 0 1 (by decide)) d_L_fixed_8 (fun H locs hP hD hS => ?_)
      have hP : va_P (dC, dI) classes [(h0, .inr (0, [])), (h1, .inl (cA, 1, .inr (.inl (vp_updL f (0 : Int32).toNatClampNeg v7))))] H := hP
      have hD : va_D A [(h0, .inr (0, [])), (h1, .inl (cA, 1, .inr (.inl (vp_updL f (0 : Int32).toNatClampNeg v7))))] := hD
      refine lv_goto (tgt := 15) hx hb d_L_fixed_9 (by decide) ?_
      refine lv_iconst (v := 0) hx hb d_L_fixed_15 (by decide) ?_
      exact W.iret (v := 0) hx hb hr (fun t ht hW => ⟨⟨0, (vp_updL f (0 : Int32).toNatClampNeg v7), rfl, Or.inl ⟨rfl, r9, hok9, by rw [th_g0]; exact e7⟩, by rw [ht]; exact hP, va_K.moved hW.alike hK, hD⟩, hS.F ht⟩) hS.2.2 d_L_fixed_16
    · cases ha9
  · rcases q4 with ⟨r9, hv9, hok9, hh9⟩ | ⟨a8, ce, ha9, hno, g1, g2, g3⟩
    · cases hv9
    · have hP := hP.kept (H1 := t.heap) (fun k9 q9 hq9 => q5 _ ((hP k9 q9 hq9).lt))
      have hS : va_S A s.heap t.heap [] := ⟨q6, fun q hq _ => q5 q hq, fun _ h => by cases h⟩
      generalize t.heap = H at hP hS ⊢
      refine W.eq (g2 := F0 m 12 ls [.ref a9]) (by rw [hxh]) ?_
      refine lv_astore_n (lv' := [(3, .ref a9), (0, .ref h0), (1, .int a), (2, .ref h1)]) hx hb d_L_fixed_12 rfl hl (by decide) rfl (fun ls hl => ?_)
      refine lv_iconst (v := 1) hx hb d_L_fixed_13 (by decide) ?_
      exact W.iret (v := 1) hx hb hr (fun t ht hW => ⟨⟨1, f, rfl, Or.inr ⟨rfl, hno⟩, by rw [ht]; exact hP, va_K.moved hW.alike hK, hD⟩, hS.F ht⟩) hS.2.2 d_L_fixed_14
set_option maxHeartbeats 4000000 in
set_option maxRecDepth 100000 in
theorem c_L_shade (l : Launch) (hfl : l.flags = flags0) (dC : Nat → ClassId) (dI : Nat → Nat → Nat) (Z h0 h1 sz : Nat) (cA : ClassId) (f : Nat → Int64) (a b : Int32) : Met l y_L_shade w_L_shade ({ frames := 7, cells := 1, slots := 6, locals := 140 }) (va_Pc [.ref h0, .int a, .int b, .ref h1] (fun U => U.heap.size = sz ∧ va_P (dC, dI) classes [(h0, .inr (0, [])), (h1, .inl (cA, 1, .inr (.inl f)))] U.heap ∧ va_K (dC, dI) classes [(cA, .long)] U ∧ va_D (fun _ => True) [(h0, .inr (0, [])), (h1, .inl (cA, 1, .inr (.inl f)))] ∧ th_Z Z U)) (va_Qi (fun (r : Int32) (g : Nat → Int64) => (r = 0 ∧ ∃ v : Int32, (sp_byte a.toInt ∧ sp_byte b.toInt ∧ v.toInt = (2 * (a.toInt * b.toInt) + 255) / 510) ∧ g 0 = v.toInt64) ∨ (r = 1 ∧ (¬ sp_byte a.toInt ∨ ¬ sp_byte b.toInt))) (at_X dC dI (va_A [(h0, .inr (0, [])), (h1, .inl (cA, 1, .inr (.inl f)))] sz) h0 h1 cA) (va_A [(h0, .inr (0, [])), (h1, .inl (cA, 1, .inr (.inl f)))] sz)) 1 6 (va_A [(h0, .inr (0, [])), (h1, .inl (cA, 1, .inr (.inl f)))] sz) := by
  refine va_MetW (cc := b_L_shade) (maxL := 5) (ret := some .int) (hh := [(0, 10, 13, 19)]) (by decide) rfl ?_
  intro p e s m args below meth c s₁ B hml hv
  obtain ⟨rfl, hsz, hP, hK, hD0, hZ⟩ := hv
  have hx := B.exec
  have hb := B.bytes
  have hr := B.returns
  have hts := atoms_spec (ws := w_L_shade) B.pre
  have hown : s.vm.findClass R_L = some m.cls := findClass_of_methodNamed B.named
  have hlocks := B.notSynchronized
  subst hsz
  have hD := hD0.self (sz := s.heap.size)
  generalize hAe : va_A [(h0, .inr (0, [])), (h1, .inl (cA, 1, .inr (.inl f)))] s.heap.size = A at hD ⊢
  have hA : ∀ q : Nat, s.heap.size ≤ q → A q := fun q h => by rw [← hAe]; exact Or.inr h
  have hS : va_S A s.heap s.heap [] := va_S.rf
  have hP : va_P (dC, dI) classes [(h0, .inr (0, [])), (h1, .inl (cA, 1, .inr (.inl f)))] s.heap := hP
  obtain ⟨x, hx1, hxa, hxb, hxh, hxc⟩ := th_one B.named B.method (Stand.of_body B).code (hts _ List.mem_cons_self)
  obtain ⟨cl, -, hE, -⟩ := Cond.instantiable_spec (hts (.instantiable "java/lang/IllegalArgumentException" 6) (List.mem_cons_of_mem _ (tm (by decide +kernel) rfl)))
  have hl := lv_entry ([.ref h0, .int a, .int b, .ref h1]) (n := 5) (Nat.le_of_ble_eq_true rfl)
  rw [lg_entry_eq]
  generalize (lg_sl ([.ref h0, .int a, .int b, .ref h1]) ++ List.replicate (5 - (lg_sl ([.ref h0, .int a, .int b, .ref h1])).length) Slot.unset).toArray = ls at hl ⊢
  have hl : lv_has ls 5 [(0, .ref h0), (1, .int a), (2, .int b), (3, .ref h1)] := hl
  refine lv_aload_n hx hb d_L_shade_0 rfl (lv_at hl 3 rfl) ?_
  refine lv_iconst (v := 0) hx hb d_L_shade_1 (by decide) ?_
  refine lv_aload_n hx hb d_L_shade_2 rfl (lv_at hl 0 rfl) ?_
  refine lv_iload_n hx hb d_L_shade_3 rfl (lv_at hl 1 rfl) ?_
  refine lv_iload_n hx hb d_L_shade_4 rfl (lv_at hl 2 rfl) ?_
  refine th_tryV (As := [.int a, .int b]) (rest := [.int 0, .ref h1]) ⟨hx, hb, hml, hown, hts⟩ (c_F_shade l hfl Z h0 a b) (cwV 2 hts g_L_25 rfl rfl rfl (by decide +kernel) ⟨Nat.le_of_ble_eq_true rfl, Nat.le_of_ble_eq_true rfl⟩) ⟨fun _ U g mk q => ⟨q.1, th_Z.call q.2⟩, va_recv hK hP (ci := 0) (q0 := 0) rfl rfl, fun U hU hW => ⟨rfl, th_Z.to hZ hW (fun q _ _ => by rw [hU])⟩⟩ rfl rfl hl.1 rfl (lv_room (Nat.le_of_ble_eq_true rfl)) d_L_shade_5 ⟨Nat.le_of_ble_eq_true rfl, Nat.le_of_ble_eq_true rfl⟩ hx1 (th_cov (n := 5) hxa hxb (by decide) (by decide)) (by rw [hxc]; decide) (E := "java/lang/IllegalArgumentException") (by rw [hxc]; exact hts (.classLink R_L 19 "java/lang/IllegalArgumentException") (List.mem_cons_of_mem _ (tm (by decide +kernel) rfl))) hE (Vm.assignable_self _ _) (fun a9 st t q1 q2 q3 q4 => ?_) (fun v9 st t q1 q2 q3 q4 q5 q6 => ?_) (fun a9 st t q1 q2 q3 q4 q5 q6 => ?_)
  · rcases q4 with ⟨r9, hv9, hok9, hh9⟩ | ⟨a8, ce, ha9, hno, g1, g2, g3⟩
    · cases hv9
    · cases ha9
      exact ⟨ce, g1, g2, Option.some.inj (g3.symm.trans (by rw [q2.alike.findClass]; exact hE))⟩
  · rcases q4 with ⟨r9, hv9, hok9, hh9⟩ | ⟨a8, ce, ha9, hno, g1, g2, g3⟩
    · cases hv9
      rw [hh9.trans q1]
      refine W.eq (g2 := F0 m 8 ls [.int r9, .int 0, .ref h1]) rfl ?_
      refine lv_i2l hx hb d_L_shade_8 rfl ?_
      refine lv_topl (fun v8 e8 => ?_)
      refine va_last hx hb hK hP hD hS 1 0 rfl rfl (i := 0) (pk_in 0 1 (by decide)) d_L_shade_9 (fun H locs hP hD hS => ?_)
      have hP : va_P (dC, dI) classes [(h0, .inr (0, [])), (h1, .inl (cA, 1, .inr (.inl (vp_updL f (0 : Int32).toNatClampNeg v8))))] H := hP
      have hD : va_D A [(h0, .inr (0, [])), (h1, .inl (cA, 1, .inr (.inl (vp_updL f (0 : Int32).toNatClampNeg v8))))] := hD
      refine lv_goto (tgt := 17) hx hb d_L_shade_10 (by decide) ?_
      refine lv_iconst (v := 0) hx hb d_L_shade_17 (by decide) ?_
      exact W.iret (v := 0) hx hb hr (fun t ht hW => ⟨⟨0, (vp_updL f (0 : Int32).toNatClampNeg v8), rfl, Or.inl ⟨rfl, r9, hok9, by rw [th_g0]; exact e8⟩, by rw [ht]; exact hP, va_K.moved hW.alike hK, hD⟩, hS.F ht⟩) hS.2.2 d_L_shade_18
    · cases ha9
  · rcases q4 with ⟨r9, hv9, hok9, hh9⟩ | ⟨a8, ce, ha9, hno, g1, g2, g3⟩
    · cases hv9
    · have hP := hP.kept (H1 := t.heap) (fun k9 q9 hq9 => q5 _ ((hP k9 q9 hq9).lt))
      have hS : va_S A s.heap t.heap [] := ⟨q6, fun q hq _ => q5 q hq, fun _ h => by cases h⟩
      generalize t.heap = H at hP hS ⊢
      refine W.eq (g2 := F0 m 13 ls [.ref a9]) (by rw [hxh]) ?_
      refine lv_astore (lv' := [(4, .ref a9), (0, .ref h0), (1, .int a), (2, .int b), (3, .ref h1)]) hx hb d_L_shade_13 hl (by decide) rfl (fun ls hl => ?_)
      refine lv_iconst (v := 1) hx hb d_L_shade_15 (by decide) ?_
      exact W.iret (v := 1) hx hb hr (fun t ht hW => ⟨⟨1, f, rfl, Or.inr ⟨rfl, hno⟩, by rw [ht]; exact hP, va_K.moved hW.alike hK, hD⟩, hS.F ht⟩) hS.2.2 d_L_shade_16
