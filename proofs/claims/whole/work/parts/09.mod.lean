/-! the reference's object: its fields, its cell -/
def F_F : u_T := fun k => match k with
  | _ => ("", "", "", false)
def t_F : Nat → FieldType := fun k => match k with
  | _ => .int
def F_M : u_T := fun k => match k with
  | 0 => ("FixedNumbersModel", "thrown", "I", false)
  | 1 => ("FixedNumbersModel", "upper", "J", false)
  | 2 => ("FixedNumbersModel", "lower", "J", false)
  | _ => ("FixedNumbersModel", "left", "J", false)
def t_M : Nat → FieldType := fun k => match k with
  | 0 => .int
  | _ => .long
theorem n_M : ∀ a, a < 4 → ∀ b, b < 4 → a ≠ b → (F_M a).2.1 ≠ (F_M b).2.1 := by decide +kernel
theorem t_M_ok : ∀ k, k < 4 → parseFieldDescriptor (F_M k).2.2.1 = some (t_M k) := by decide +kernel
theorem i_M0 : ∀ w ∈ u_ws R_M F_M 4, w ∈ lw_tbl := by decide +kernel
theorem i_M1 : ∀ w ∈ u_ws R_M F_M 4, goodWord w = true := by decide +kernel
theorem i_M : ∀ w ∈ u_ws R_M F_M 4, w ∈ WS := fun w h => tm (i_M0 w h) (i_M1 w h)
abbrev classes : List vw_C := [(R_F, F_F, 0), (R_M, F_M, 4)]
abbrev MS : Type := Int32 × Int64 × Int64 × Int64
abbrev at_M (dC : Nat → ClassId) (dI : Nat → Nat → Nat) (A : Nat → Prop) (h0 : Nat) (u : MS) (t : State) : Prop := va_P (dC, dI) classes [(h0, .inr (1, [.int u.1, .long u.2.1, .long u.2.2.1, .long u.2.2.2]))] t.heap ∧ va_K (dC, dI) classes [] t ∧ va_D A [(h0, .inr (1, [.int u.1, .long u.2.1, .long u.2.2.1, .long u.2.2.2]))]
section LPH
variable {p : Program} {l : Launch} {e : Env} {R : Room} {s : State} {m : MethodId} {args : Array Value} {below : List Frame} {meth : Method} {c : Code} {cells slots : Nat} {Q : State → Prop} {ls : Array Slot}
/-- a loop at J that writes: the heap rides along -/
theorem lp_H {σ : Type} {nL J : Nat} (F : σ → List (Nat × Value)) (I : Nat → σ → Heap → List Loc → Prop)
    (step : ∀ (n : Nat) (x : σ) (H : Heap) (locs : List Loc), I n x H locs → (∀ (n' : Nat) (x' : σ) (H' : Heap) (locs' : List Loc), n' < n → I n' x' H' locs' → ∀ ls : Array Slot, lv_has ls nL (F x') → W p l e R s m args below meth c H' locs' cells slots Q (F0 m J ls [])) → ∀ ls : Array Slot, lv_has ls nL (F x) → W p l e R s m args below meth c H locs cells slots Q (F0 m J ls []))
    (n : Nat) (x : σ) {H : Heap} {locs : List Loc} (h0 : I n x H locs) (hl : lv_has ls nL (F x)) : W p l e R s m args below meth c H locs cells slots Q (F0 m J ls []) := by
  induction n using Nat.strongRecOn generalizing x ls H locs with
  | ind n ih => exact step n x H locs h0 (fun n' x' H' locs' hn hI ls' hl' => ih n' hn x' hI hl') ls hl
end LPH
set_option maxHeartbeats 4000000 in
set_option maxRecDepth 100000 in
theorem c_M_below (l : Launch) (x y : Int64)  : Met l y_M_below w_M_below ({ frames := 0, cells := 0, slots := 0, locals := 0 }) (fun v _ => v = [.long x, .long y].toArray) (vp_Si (fun r => r = if uN x < uN y then 1 else 0)) 0 0 (fun _ => False) := by
  refine Met.ofW (cc := b_M_below) (maxL := 4) (ret := some .boolean) (by decide +kernel) rfl ?_
  intro p e s m args below meth c s₁ B hml hv
  subst hv
  have hx := B.exec
  have hb := B.bytes
  have hr := B.returns
  have hts := atoms_spec (ws := w_M_below) B.pre
  have hown : s.vm.findClass R_M = some m.cls := findClass_of_methodNamed B.named
  have hlocks := B.notSynchronized
  have hl := lv_entry ([.long x, .long y]) (n := 4) (Nat.le_of_ble_eq_true rfl)
  rw [lg_entry_eq]
  generalize (lg_sl ([.long x, .long y]) ++ List.replicate (4 - (lg_sl ([.long x, .long y])).length) Slot.unset).toArray = ls at hl ⊢
  have hl : lv_has ls 4 [(0, .long x), (2, .long y)] := hl
  refine lv_lload_n hx hb d_M_below_0 rfl (lv_at hl 0 rfl) ?_
  refine lv_ldc2 (v := (-9223372036854775808)) hx hb hown (hts (.constantLong R_M 14 (-9223372036854775808)) (List.mem_cons_of_mem _ (tm (by decide +kernel) rfl))) d_M_below_1 ?_
  refine lv_lxor hx hb d_M_below_4 ?_
  refine lv_topl (fun v4 e4 => ?_)
  refine lv_lload_n hx hb d_M_below_5 rfl (lv_at hl 1 rfl) ?_
  refine lv_ldc2 (v := (-9223372036854775808)) hx hb hown (hts (.constantLong R_M 14 (-9223372036854775808)) (List.mem_cons_of_mem _ (tm (by decide +kernel) rfl))) d_M_below_6 ?_
  refine lv_lxor hx hb d_M_below_9 ?_
  refine lv_topl (fun v9 e9 => ?_)
  refine W.lcmp hx hb d_M_below_10 ?_
  refine lv_if_ge (tgt := 18) hx hb d_M_below_11 (by decide) (fun c11 => ?_) (fun c11 => ?_)
  · skip
    have c11 := (lg_cmp_ge _ _).mp c11
    refine lv_iconst (v := 0) hx hb d_M_below_18 (by decide) ?_
    refine W.zret (v := 0) hx hb hr (by first | rfl | decide) (fun t ht hW => ⟨_, rfl, ?_, ht⟩) (fun _ h => by cases h) d_M_below_19
    show (0 : Int32) = if uN x < uN y then 1 else 0
    exact fx_below0 x y v4 v9 e4 e9 c11
  · skip
    have c11 := (not_congr (lg_cmp_ge _ _)).mp c11
    refine lv_iconst (v := 1) hx hb d_M_below_14 (by decide) ?_
    refine lv_goto (tgt := 19) hx hb d_M_below_15 (by decide) ?_
    refine W.zret (v := 1) hx hb hr (by first | rfl | decide) (fun t ht hW => ⟨_, rfl, ?_, ht⟩) (fun _ h => by cases h) d_M_below_19
    show (1 : Int32) = if uN x < uN y then 1 else 0
    exact fx_below1 x y v4 v9 e4 e9 c11
set_option maxHeartbeats 4000000 in
set_option maxRecDepth 100000 in
theorem c_M_size (l : Launch) (x : Int64)  : Met l y_M_size w_M_size ({ frames := 0, cells := 0, slots := 0, locals := 0 }) (fun v _ => v = [.long x].toArray) (vp_Sl (fun r => uN r = x.toInt.natAbs)) 0 0 (fun _ => False) := by
  refine Met.ofW (cc := b_M_size) (maxL := 2) (ret := some .long) (by decide +kernel) rfl ?_
  intro p e s m args below meth c s₁ B hml hv
  subst hv
  have hx := B.exec
  have hb := B.bytes
  have hr := B.returns
  have hts := atoms_spec (ws := w_M_size) B.pre
  have hown : s.vm.findClass R_M = some m.cls := findClass_of_methodNamed B.named
  have hlocks := B.notSynchronized
  have hl := lv_entry ([.long x]) (n := 2) (Nat.le_of_ble_eq_true rfl)
  rw [lg_entry_eq]
  generalize (lg_sl ([.long x]) ++ List.replicate (2 - (lg_sl ([.long x])).length) Slot.unset).toArray = ls at hl ⊢
  have hl : lv_has ls 2 [(0, .long x)] := hl
  refine lv_lload_n hx hb d_M_size_0 rfl (lv_at hl 0 rfl) ?_
  refine lv_lconst (v := 0) hx hb d_M_size_1 (by decide) ?_
  refine W.lcmp hx hb d_M_size_2 ?_
  refine lv_if_ge (tgt := 11) hx hb d_M_size_3 (by decide) (fun c3 => ?_) (fun c3 => ?_)
  · skip
    have c3 := (lg_cmp_ge _ _).mp c3
    refine lv_lload_n hx hb d_M_size_11 rfl (lv_at hl 0 rfl) ?_
    refine W.lret (v := x) hx hb hr (fun t ht hW => ⟨_, rfl, ?_, ht⟩) (fun _ h => by cases h) d_M_size_12
    show uN x = x.toInt.natAbs
    exact fx_abs2 x (Int64.not_lt.mpr c3)
  · skip
    have c3 := (not_congr (lg_cmp_ge _ _)).mp c3
    refine lv_lload_n hx hb d_M_size_6 rfl (lv_at hl 0 rfl) ?_
    refine lv_lneg hx hb d_M_size_7 ?_
    refine lv_topl (fun v7 e7 => ?_)
    refine lv_goto (tgt := 12) hx hb d_M_size_8 (by decide) ?_
    refine W.lret (v := v7) hx hb hr (fun t ht hW => ⟨_, rfl, ?_, ht⟩) (fun _ h => by cases h) d_M_size_12
    show uN v7 = x.toInt.natAbs
    exact fx_abs1 x v7 (Int64.not_le.mp c3) e7
set_option maxHeartbeats 4000000 in
set_option maxRecDepth 100000 in
theorem c_M_nearest (l : Launch) (x y : Int32) (a b : Nat) (hx9 : x = nI a) (hy9 : y = nI b) (ha : a < 1073741824) (hb0 : 0 < b) (hb9 : b < 1073741824) : Met l y_M_nearest w_M_nearest ({ frames := 0, cells := 0, slots := 0, locals := 0 }) (fun v _ => v = [.int x, .int y].toArray) (vp_Si (fun r => r = nI (a / b + (if b ≤ 2 * (a % b) then 1 else 0)))) 0 0 (fun _ => False) := by
  refine Met.ofW (cc := b_M_nearest) (maxL := 3) (ret := some .int) (by decide +kernel) rfl ?_
  intro p e s m args below meth c s₁ B hml hv
  subst hv
  have hx := B.exec
  have hb := B.bytes
  have hr := B.returns
  have hts := atoms_spec (ws := w_M_nearest) B.pre
  have hown : s.vm.findClass R_M = some m.cls := findClass_of_methodNamed B.named
  have hlocks := B.notSynchronized
  have hl := lv_entry ([.int x, .int y]) (n := 3) (Nat.le_of_ble_eq_true rfl)
  rw [lg_entry_eq]
  generalize (lg_sl ([.int x, .int y]) ++ List.replicate (3 - (lg_sl ([.int x, .int y])).length) Slot.unset).toArray = ls at hl ⊢
  have hl : lv_has ls 3 [(0, .int x), (1, .int y)] := hl
  refine lv_iload_n hx hb d_M_nearest_0 rfl (lv_at hl 0 rfl) ?_
  refine lv_iload_n hx hb d_M_nearest_1 rfl (lv_at hl 1 rfl) ?_
  refine lv_idiv hx hb d_M_nearest_2 (nr_nz hy9 hb0 hb9) ?_
  refine lv_topi (fun v2 e2 => ?_)
  refine lv_istore_n (lv' := [(2, .int v2), (0, .int x), (1, .int y)]) hx hb d_M_nearest_3 rfl hl (by decide) rfl (fun ls hl => ?_)
  refine lv_iconst (v := 2) hx hb d_M_nearest_4 (by decide) ?_
  refine lv_iload_n hx hb d_M_nearest_5 rfl (lv_at hl 1 rfl) ?_
  refine lv_iload_n hx hb d_M_nearest_6 rfl (lv_at hl 2 rfl) ?_
  refine lv_irem hx hb d_M_nearest_7 (nr_nz hy9 hb0 hb9) ?_
  refine lv_topi (fun v7 e7 => ?_)
  refine lv_imul hx hb d_M_nearest_8 ?_
  refine lv_topi (fun v8 e8 => ?_)
  refine lv_iload_n hx hb d_M_nearest_9 rfl (lv_at hl 2 rfl) ?_
  refine lv_icmp_lt (tgt := 19) hx hb d_M_nearest_10 (by decide) (fun c10 => ?_) (fun c10 => ?_)
  · skip
    refine lv_iload_n hx hb d_M_nearest_19 rfl (lv_at hl 0 rfl) ?_
    refine W.iret (v := v2) hx hb hr (fun t ht hW => ⟨_, rfl, ?_, ht⟩) (fun _ h => by cases h) d_M_nearest_20
    show v2 = nI (a / b + (if b ≤ 2 * (a % b) then 1 else 0))
    exact nr_no hx9 hy9 ha hb0 hb9 e2 e7 e8 c10
  · skip
    refine lv_iload_n hx hb d_M_nearest_13 rfl (lv_at hl 0 rfl) ?_
    refine lv_iconst (v := 1) hx hb d_M_nearest_14 (by decide) ?_
    refine lv_iadd hx hb d_M_nearest_15 ?_
    refine lv_topi (fun v15 e15 => ?_)
    refine lv_goto (tgt := 20) hx hb d_M_nearest_16 (by decide) ?_
    refine W.iret (v := v15) hx hb hr (fun t ht hW => ⟨_, rfl, ?_, ht⟩) (fun _ h => by cases h) d_M_nearest_20
    show v15 = nI (a / b + (if b ≤ 2 * (a % b) then 1 else 0))
    exact nr_yes hx9 hy9 ha hb0 hb9 e2 e7 e8 (Int32.not_lt.mp c10) e15
set_option maxHeartbeats 4000000 in
set_option maxRecDepth 100000 in
theorem c_M_scaled (l : Launch) (h : Int32)  : Met l y_M_scaled w_M_scaled ({ frames := 0, cells := 0, slots := 0, locals := 0 }) (fun v _ => v = [.int h].toArray) (vp_Sl (fun r => r = lN (sp_sc h.toBitVec.toNat))) 0 0 (fun _ => False) := by
  refine Met.ofW (cc := b_M_scaled) (maxL := 4) (ret := some .long) (by decide +kernel) rfl ?_
  intro p e s m args below meth c s₁ B hml hv
  subst hv
  have hx := B.exec
  have hb := B.bytes
  have hr := B.returns
  have hts := atoms_spec (ws := w_M_scaled) B.pre
  have hown : s.vm.findClass R_M = some m.cls := findClass_of_methodNamed B.named
  have hlocks := B.notSynchronized
  have hl := lv_entry ([.int h]) (n := 4) (Nat.le_of_ble_eq_true rfl)
  rw [lg_entry_eq]
  generalize (lg_sl ([.int h]) ++ List.replicate (4 - (lg_sl ([.int h])).length) Slot.unset).toArray = ls at hl ⊢
  have hl : lv_has ls 4 [(0, .int h)] := hl
  refine lv_iload_n hx hb d_M_scaled_0 rfl (lv_at hl 0 rfl) ?_
  refine lv_bipush (v := 10) hx hb d_M_scaled_1 (by decide) ?_
  refine lv_ishr hx hb d_M_scaled_3 ?_
  refine lv_topi (fun v3 e3 => ?_)
  refine lv_bipush (v := 31) hx hb d_M_scaled_4 (by decide) ?_
  refine lv_iand hx hb d_M_scaled_6 ?_
  refine lv_topi (fun v6 e6 => ?_)
  have f4 := fh_e h v3 v6 e3 e6
  refine lv_istore_n (lv' := [(1, .int v6), (0, .int h)]) hx hb d_M_scaled_7 rfl hl (by decide) rfl (fun ls hl => ?_)
  refine lv_iload_n hx hb d_M_scaled_8 rfl (lv_at hl 1 rfl) ?_
  refine lv_sipush (v := 1023) hx hb d_M_scaled_9 (by decide) ?_
  refine lv_iand hx hb d_M_scaled_12 ?_
  refine lv_topi (fun v12 e12 => ?_)
  have f12 := fh_f h v12 e12
  refine lv_i2l hx hb d_M_scaled_13 rfl ?_
  refine lv_topl (fun v13 e13 => ?_)
  refine lv_lstore_n (lv' := [(2, .long v13), (1, .int v6), (0, .int h)]) hx hb d_M_scaled_14 rfl hl (by decide) rfl (fun ls hl => ?_)
  refine lv_iload_n hx hb d_M_scaled_15 rfl (lv_at hl 1 rfl) ?_
  refine lv_if_ne (tgt := 23) hx hb d_M_scaled_16 (by decide) (fun c16 => ?_) (fun c16 => ?_)
  · skip
    refine lv_ldc2 (v := 1024) hx hb hown (hts (.constantLong R_M 63 1024) (List.mem_cons_of_mem _ (tm (by decide +kernel) rfl))) d_M_scaled_23 ?_
    refine lv_lload_n hx hb d_M_scaled_26 rfl (lv_at hl 0 rfl) ?_
    refine lv_ladd hx hb d_M_scaled_27 ?_
    refine lv_topl (fun v27 e27 => ?_)
    refine lv_iload_n hx hb d_M_scaled_28 rfl (lv_at hl 1 rfl) ?_
    refine lv_iconst (v := 1) hx hb d_M_scaled_29 (by decide) ?_
    refine lv_isub hx hb d_M_scaled_30 ?_
    refine lv_topi (fun v30 e30 => ?_)
    refine lv_lshl hx hb d_M_scaled_31 rfl ?_
    refine lv_topl (fun v31 e31 => ?_)
    refine W.lret (v := v31) hx hb hr (fun t ht hW => ⟨_, rfl, ?_, ht⟩) (fun _ h => by cases h) d_M_scaled_32
    show v31 = lN (sp_sc h.toBitVec.toNat)
    exact sc_1 f4 f12 c16 e13 e27 e30 e31
  · skip
    refine lv_lload_n hx hb d_M_scaled_19 rfl (lv_at hl 0 rfl) ?_
    refine lv_goto (tgt := 32) hx hb d_M_scaled_20 (by decide) ?_
    refine W.lret (v := v13) hx hb hr (fun t ht hW => ⟨_, rfl, ?_, ht⟩) (fun _ h => by cases h) d_M_scaled_32
    show v13 = lN (sp_sc h.toBitVec.toNat)
    exact sc_0 f4 f12 c16 e13
set_option maxHeartbeats 4000000 in
set_option maxRecDepth 100000 in
theorem c_M_thrown (l : Launch) (dC : Nat → ClassId) (dI : Nat → Nat → Nat) (h0 sz : Nat) (th : Int32) (up lo le : Int64)   : Met l y_M_thrown w_M_thrown ({ frames := 0, cells := 0, slots := 0, locals := 0 }) (va_Pc [.ref h0] (fun U => U.heap.size = sz ∧ va_P (dC, dI) classes [(h0, .inr (1, [.int th, .long up, .long lo, .long le]))] U.heap ∧ va_K (dC, dI) classes [] U ∧ va_D (fun _ => True) [(h0, .inr (1, [.int th, .long up, .long lo, .long le]))])) (va_Qi (fun (r : Int32) (u : MS) => r = th ∧ u.1 = th) (at_M dC dI (va_A [(h0, .inr (1, [.int th, .long up, .long lo, .long le]))] sz) h0) (va_A [(h0, .inr (1, [.int th, .long up, .long lo, .long le]))] sz)) 0 0 (va_A [(h0, .inr (1, [.int th, .long up, .long lo, .long le]))] sz) := by
  refine Met.ofW (cc := b_M_thrown) (maxL := 1) (ret := some .int) (by decide) rfl ?_
  intro p e s m args below meth c s₁ B hml hv
  obtain ⟨rfl, hsz, hP, hK, hD0⟩ := hv
  have hx := B.exec
  have hb := B.bytes
  have hr := B.returns
  have hts := atoms_spec (ws := w_M_thrown) B.pre
  have hown : s.vm.findClass R_M = some m.cls := findClass_of_methodNamed B.named
  have hlocks := B.notSynchronized
  subst hsz
  have hD := hD0.self (sz := s.heap.size)
  generalize hAe : va_A [(h0, .inr (1, [.int th, .long up, .long lo, .long le]))] s.heap.size = A at hD ⊢
  have hA : ∀ q : Nat, s.heap.size ≤ q → A q := fun q h => by rw [← hAe]; exact Or.inr h
  have hS : va_S A s.heap s.heap [] := va_S.rf
  have hP : va_P (dC, dI) classes [(h0, .inr (1, [.int th, .long up, .long lo, .long le]))] s.heap := hP
  have hl := lv_entry ([.ref h0]) (n := 1) (Nat.le_of_ble_eq_true rfl)
  rw [lg_entry_eq]
  generalize (lg_sl ([.ref h0]) ++ List.replicate (1 - (lg_sl ([.ref h0])).length) Slot.unset).toArray = ls at hl ⊢
  have hl : lv_has ls 1 [(0, .ref h0)] := hl
  refine lv_aload_n hx hb d_M_thrown_0 rfl (lv_at hl 0 rfl) ?_
  refine va_get (D := (dC, dI)) (ci := 1) (v := .int th) (C := R_M) (T := F_M) (N := 4) hx hb hts (fun w h => List.mem_cons_of_mem _ (i_M w h)) hown hK hP 0 rfl rfl 0 (by decide) (hts (.fieldLink R_M 7 R_M "thrown" "I") (List.mem_cons_of_mem _ (tm (by decide +kernel) rfl))) (fun _ h9 => h9) rfl d_M_thrown_1 ?_
  refine W.iret (v := th) hx hb hr (fun t ht hW => ⟨⟨_, (th, up, lo, le), rfl, ?_, by rw [ht]; exact hP, va_K.moved hW.alike hK, hD⟩, hS.F ht⟩) hS.2.2 d_M_thrown_4
  show th = th ∧ th = th
  exact ⟨rfl, rfl⟩
set_option maxHeartbeats 4000000 in
set_option maxRecDepth 100000 in
theorem c_M_product (l : Launch) (dC : Nat → ClassId) (dI : Nat → Nat → Nat) (h0 sz : Nat) (th : Int32) (up lo le : Int64) (a b : Int32)  : Met l y_M_product w_M_product ({ frames := 0, cells := 0, slots := 0, locals := 0 }) (va_Pc [.ref h0, .int a, .int b] (fun U => U.heap.size = sz ∧ va_P (dC, dI) classes [(h0, .inr (1, [.int th, .long up, .long lo, .long le]))] U.heap ∧ va_K (dC, dI) classes [] U ∧ va_D (fun _ => True) [(h0, .inr (1, [.int th, .long up, .long lo, .long le]))])) (va_Qi (fun (r : Int32) (u : MS) => r.toInt = (a.toInt * b.toInt / 65536).bmod (2 ^ 32)) (at_M dC dI (va_A [(h0, .inr (1, [.int th, .long up, .long lo, .long le]))] sz) h0) (va_A [(h0, .inr (1, [.int th, .long up, .long lo, .long le]))] sz)) 0 0 (va_A [(h0, .inr (1, [.int th, .long up, .long lo, .long le]))] sz) := by
  refine Met.ofW (cc := b_M_product) (maxL := 7) (ret := some .int) (by decide) rfl ?_
  intro p e s m args below meth c s₁ B hml hv
  obtain ⟨rfl, hsz, hP, hK, hD0⟩ := hv
  have hx := B.exec
  have hb := B.bytes
  have hr := B.returns
  have hts := atoms_spec (ws := w_M_product) B.pre
  have hown : s.vm.findClass R_M = some m.cls := findClass_of_methodNamed B.named
  have hlocks := B.notSynchronized
  subst hsz
  have hD := hD0.self (sz := s.heap.size)
  generalize hAe : va_A [(h0, .inr (1, [.int th, .long up, .long lo, .long le]))] s.heap.size = A at hD ⊢
  have hA : ∀ q : Nat, s.heap.size ≤ q → A q := fun q h => by rw [← hAe]; exact Or.inr h
  have hS : va_S A s.heap s.heap [] := va_S.rf
  have hP : va_P (dC, dI) classes [(h0, .inr (1, [.int th, .long up, .long lo, .long le]))] s.heap := hP
  have hl := lv_entry ([.ref h0, .int a, .int b]) (n := 7) (Nat.le_of_ble_eq_true rfl)
  rw [lg_entry_eq]
  generalize (lg_sl ([.ref h0, .int a, .int b]) ++ List.replicate (7 - (lg_sl ([.ref h0, .int a, .int b])).length) Slot.unset).toArray = ls at hl ⊢
  have hl : lv_has ls 7 [(0, .ref h0), (1, .int a), (2, .int b)] := hl
  refine lv_aload_n hx hb d_M_product_0 rfl (lv_at hl 0 rfl) ?_
  refine lv_iconst (v := 0) hx hb d_M_product_1 (by decide) ?_
  refine va_put (D := (dC, dI)) (ci := 1) (v := .int 0) (ty := .int) (C := R_M) (T := F_M) (N := 4) hx hb hts (fun w h => List.mem_cons_of_mem _ (i_M w h)) t_M t_M_ok n_M hown hK hP hD hS 0 rfl rfl 0 (by decide) (hts (.fieldLink R_M 7 R_M "thrown" "I") (List.mem_cons_of_mem _ (tm (by decide +kernel) rfl))) (fun _ h9 => h9) rfl (by decide +kernel) rfl rfl (Nat.le_of_ble_eq_true rfl) d_M_product_2 (fun H locs hP hD hS => ?_)
  have hP : va_P (dC, dI) classes [(h0, .inr (1, [.int 0, .long up, .long lo, .long le]))] H := hP
  have hD : va_D A [(h0, .inr (1, [.int 0, .long up, .long lo, .long le]))] := hD
  refine lv_iload_n hx hb d_M_product_5 rfl (lv_at hl 1 rfl) ?_
  refine lv_bipush (v := 16) hx hb d_M_product_6 (by decide) ?_
  refine lv_ishr hx hb d_M_product_8 ?_
  refine lv_topi (fun v8 e8 => ?_)
  refine lv_istore_n (lv' := [(3, .int v8), (0, .ref h0), (1, .int a), (2, .int b)]) hx hb d_M_product_9 rfl hl (by decide) rfl (fun ls hl => ?_)
  refine lv_iload_n hx hb d_M_product_10 rfl (lv_at hl 2 rfl) ?_
  refine lv_ldc (v := 65535) hx hb hown (hts (.constant R_M 13 65535) (List.mem_cons_of_mem _ (tm (by decide +kernel) rfl))) d_M_product_11 ?_
  refine lv_iand hx hb d_M_product_13 ?_
  refine lv_topi (fun v13 e13 => ?_)
  refine lv_istore (lv' := [(4, .int v13), (3, .int v8), (0, .ref h0), (1, .int a), (2, .int b)]) hx hb d_M_product_14 hl (by decide) rfl (fun ls hl => ?_)
  refine lv_iload_n hx hb d_M_product_16 rfl (lv_at hl 4 rfl) ?_
  refine lv_bipush (v := 16) hx hb d_M_product_17 (by decide) ?_
  refine lv_ishr hx hb d_M_product_19 ?_
  refine lv_topi (fun v19 e19 => ?_)
  refine lv_istore (lv' := [(5, .int v19), (4, .int v13), (3, .int v8), (0, .ref h0), (1, .int a), (2, .int b)]) hx hb d_M_product_20 hl (by decide) rfl (fun ls hl => ?_)
  refine lv_iload_n hx hb d_M_product_22 rfl (lv_at hl 5 rfl) ?_
  refine lv_ldc (v := 65535) hx hb hown (hts (.constant R_M 13 65535) (List.mem_cons_of_mem _ (tm (by decide +kernel) rfl))) d_M_product_23 ?_
  refine lv_iand hx hb d_M_product_25 ?_
  refine lv_topi (fun v25 e25 => ?_)
  refine lv_istore (lv' := [(6, .int v25), (5, .int v19), (4, .int v13), (3, .int v8), (0, .ref h0), (1, .int a), (2, .int b)]) hx hb d_M_product_26 hl (by decide) rfl (fun ls hl => ?_)
  refine lv_iload_n hx hb d_M_product_28 rfl (lv_at hl 3 rfl) ?_
  refine lv_iload hx hb d_M_product_29 (lv_at hl 1 rfl) ?_
  refine lv_imul hx hb d_M_product_31 ?_
  refine lv_topi (fun v31 e31 => ?_)
  refine lv_bipush (v := 16) hx hb d_M_product_32 (by decide) ?_
  refine lv_ishl hx hb d_M_product_34 ?_
  refine lv_topi (fun v34 e34 => ?_)
  refine lv_iload_n hx hb d_M_product_35 rfl (lv_at hl 3 rfl) ?_
  refine lv_iload hx hb d_M_product_36 (lv_at hl 0 rfl) ?_
  refine lv_imul hx hb d_M_product_38 ?_
  refine lv_topi (fun v38 e38 => ?_)
  refine lv_iadd hx hb d_M_product_39 ?_
  refine lv_topi (fun v39 e39 => ?_)
  refine lv_iload hx hb d_M_product_40 (lv_at hl 2 rfl) ?_
  refine lv_iload hx hb d_M_product_42 (lv_at hl 1 rfl) ?_
  refine lv_imul hx hb d_M_product_44 ?_
  refine lv_topi (fun v44 e44 => ?_)
  refine lv_iadd hx hb d_M_product_45 ?_
  refine lv_topi (fun v45 e45 => ?_)
  refine lv_iload hx hb d_M_product_46 (lv_at hl 2 rfl) ?_
  refine lv_iload hx hb d_M_product_48 (lv_at hl 0 rfl) ?_
  refine lv_imul hx hb d_M_product_50 ?_
  refine lv_topi (fun v50 e50 => ?_)
  refine lv_bipush (v := 16) hx hb d_M_product_51 (by decide) ?_
  refine lv_iushr hx hb d_M_product_53 rfl ?_
  refine lv_topi (fun v53 e53 => ?_)
  refine lv_iadd hx hb d_M_product_54 ?_
  refine lv_topi (fun v54 e54 => ?_)
  refine W.iret (v := v54) hx hb hr (fun t ht hW => ⟨⟨_, (0, up, lo, le), rfl, ?_, by rw [ht]; exact hP, va_K.moved hW.alike hK, hD⟩, hS.F ht⟩) hS.2.2 d_M_product_55
  show v54.toInt = (a.toInt * b.toInt / 65536).bmod (2 ^ 32)
  exact mp_all a b v8 v13 v19 v25 v31 v34 v38 v39 v44 v45 v50 v53 v54 e8 e13 e19 e25 e31 e34 e38 e39 e44 e45 e50 e53 e54
set_option maxHeartbeats 4000000 in
set_option maxRecDepth 100000 in
theorem c_M_channel (l : Launch) (dC : Nat → ClassId) (dI : Nat → Nat → Nat) (h0 sz : Nat) (th : Int32) (up lo le : Int64) (a : Int32)  : Met l y_M_channel w_M_channel ({ frames := 1, cells := 0, slots := 0, locals := 30 }) (va_Pc [.ref h0, .int a] (fun U => U.heap.size = sz ∧ va_P (dC, dI) classes [(h0, .inr (1, [.int th, .long up, .long lo, .long le]))] U.heap ∧ va_K (dC, dI) classes [] U ∧ va_D (fun _ => True) [(h0, .inr (1, [.int th, .long up, .long lo, .long le]))])) (va_Qi (fun (r : Int32) (u : MS) => r.toInt = sp_chan a.toInt) (at_M dC dI (va_A [(h0, .inr (1, [.int th, .long up, .long lo, .long le]))] sz) h0) (va_A [(h0, .inr (1, [.int th, .long up, .long lo, .long le]))] sz)) 0 0 (va_A [(h0, .inr (1, [.int th, .long up, .long lo, .long le]))] sz) := by
  refine Met.ofW (cc := b_M_channel) (maxL := 2) (ret := some .int) (by decide) rfl ?_
  intro p e s m args below meth c s₁ B hml hv
  obtain ⟨rfl, hsz, hP, hK, hD0⟩ := hv
  have hx := B.exec
  have hb := B.bytes
  have hr := B.returns
  have hts := atoms_spec (ws := w_M_channel) B.pre
  have hown : s.vm.findClass R_M = some m.cls := findClass_of_methodNamed B.named
  have hlocks := B.notSynchronized
  subst hsz
  have hD := hD0.self (sz := s.heap.size)
  generalize hAe : va_A [(h0, .inr (1, [.int th, .long up, .long lo, .long le]))] s.heap.size = A at hD ⊢
  have hA : ∀ q : Nat, s.heap.size ≤ q → A q := fun q h => by rw [← hAe]; exact Or.inr h
  have hS : va_S A s.heap s.heap [] := va_S.rf
  have hP : va_P (dC, dI) classes [(h0, .inr (1, [.int th, .long up, .long lo, .long le]))] s.heap := hP
  have hl := lv_entry ([.ref h0, .int a]) (n := 2) (Nat.le_of_ble_eq_true rfl)
  rw [lg_entry_eq]
  generalize (lg_sl ([.ref h0, .int a]) ++ List.replicate (2 - (lg_sl ([.ref h0, .int a])).length) Slot.unset).toArray = ls at hl ⊢
  have hl : lv_has ls 2 [(0, .ref h0), (1, .int a)] := hl
  refine lv_aload_n hx hb d_M_channel_0 rfl (lv_at hl 0 rfl) ?_
  refine lv_iconst (v := 0) hx hb d_M_channel_1 (by decide) ?_
  refine va_put (D := (dC, dI)) (ci := 1) (v := .int 0) (ty := .int) (C := R_M) (T := F_M) (N := 4) hx hb hts (fun w h => List.mem_cons_of_mem _ (i_M w h)) t_M t_M_ok n_M hown hK hP hD hS 0 rfl rfl 0 (by decide) (hts (.fieldLink R_M 7 R_M "thrown" "I") (List.mem_cons_of_mem _ (tm (by decide +kernel) rfl))) (fun _ h9 => h9) rfl (by decide +kernel) rfl rfl (Nat.le_of_ble_eq_true rfl) d_M_channel_2 (fun H locs hP hD hS => ?_)
  have hP : va_P (dC, dI) classes [(h0, .inr (1, [.int 0, .long up, .long lo, .long le]))] H := hP
  have hD : va_D A [(h0, .inr (1, [.int 0, .long up, .long lo, .long le]))] := hD
  refine lv_iload_n hx hb d_M_channel_5 rfl (lv_at hl 1 rfl) ?_
  refine lv_if_ge (tgt := 13) hx hb d_M_channel_6 (by decide) (fun c6 => ?_) (fun c6 => ?_)
  · skip
    refine lv_iload_n hx hb d_M_channel_13 rfl (lv_at hl 1 rfl) ?_
    refine lv_ldc (v := 65536) hx hb hown (hts (.constant R_M 58 65536) (List.mem_cons_of_mem _ (tm (by decide +kernel) rfl))) d_M_channel_14 ?_
    refine lv_icmp_le (tgt := 25) hx hb d_M_channel_16 (by decide) (fun c16 => ?_) (fun c16 => ?_)
    · skip
      refine lv_sipush (v := 255) hx hb d_M_channel_25 (by decide) ?_
      refine lv_iload_n hx hb d_M_channel_28 rfl (lv_at hl 1 rfl) ?_
      refine lv_imul hx hb d_M_channel_29 ?_
      refine lv_topi (fun v29 e29 => ?_)
      refine lv_ldc (v := 65536) hx hb hown (hts (.constant R_M 58 65536) (List.mem_cons_of_mem _ (tm (by decide +kernel) rfl))) d_M_channel_30 ?_
      refine vp_callSi (W.runS (As := [.int v29, .int 65536]) (rest := []) ⟨hx, hb, hml, hown, hts⟩ (c_M_nearest l v29 65536 (255 * a.toInt.toNat) 65536 (mc_x a v29 c6 c16 e29) rfl (mc_b a c6 c16) (by decide) (by decide)) (cwS 2 hts g_M_59 rfl rfl rfl (by decide +kernel) ⟨Nat.le_of_ble_eq_true rfl, Nat.le_of_ble_eq_true rfl⟩) preEq rfl rfl hl.1 rfl (lv_room (Nat.le_of_ble_eq_true rfl)) d_M_channel_32 ⟨Nat.zero_le _, Nat.zero_le _⟩) (fun v32 e32 => ?_)
      try dsimp only at e32
      refine W.iret (v := v32) hx hb hr (fun t ht hW => ⟨⟨_, (0, up, lo, le), rfl, ?_, by rw [ht]; exact hP, va_K.moved hW.alike hK, hD⟩, hS.F ht⟩) hS.2.2 d_M_channel_35
      show v32.toInt = sp_chan a.toInt
      exact mc_2 a v32 c6 c16 e32
    · skip
      refine lv_sipush (v := 255) hx hb d_M_channel_19 (by decide) ?_
      refine lv_goto (tgt := 35) hx hb d_M_channel_22 (by decide) ?_
      refine W.iret (v := 255) hx hb hr (fun t ht hW => ⟨⟨_, (0, up, lo, le), rfl, ?_, by rw [ht]; exact hP, va_K.moved hW.alike hK, hD⟩, hS.F ht⟩) hS.2.2 d_M_channel_35
      show (255 : Int32).toInt = sp_chan a.toInt
      exact mc_1 a (Int32.not_le.mp c16)
  · skip
    refine lv_iconst (v := 0) hx hb d_M_channel_9 (by decide) ?_
    refine lv_goto (tgt := 35) hx hb d_M_channel_10 (by decide) ?_
    refine W.iret (v := 0) hx hb hr (fun t ht hW => ⟨⟨_, (0, up, lo, le), rfl, ?_, by rw [ht]; exact hP, va_K.moved hW.alike hK, hD⟩, hS.F ht⟩) hS.2.2 d_M_channel_35
    show (0 : Int32).toInt = sp_chan a.toInt
    exact mc_0 a (Int32.not_le.mp c6)
set_option maxHeartbeats 4000000 in
set_option maxRecDepth 100000 in
theorem c_M_fixed (l : Launch) (dC : Nat → ClassId) (dI : Nat → Nat → Nat) (h0 sz : Nat) (th : Int32) (up lo le : Int64) (a : Int32)  : Met l y_M_fixed w_M_fixed ({ frames := 1, cells := 0, slots := 0, locals := 30 }) (va_Pc [.ref h0, .int a] (fun U => U.heap.size = sz ∧ va_P (dC, dI) classes [(h0, .inr (1, [.int th, .long up, .long lo, .long le]))] U.heap ∧ va_K (dC, dI) classes [] U ∧ va_D (fun _ => True) [(h0, .inr (1, [.int th, .long up, .long lo, .long le]))])) (va_Qi (fun (r : Int32) (u : MS) => (u.1 = 0 ∧ sp_byte a.toInt ∧ r.toInt = (2 * (65536 * a.toInt) + 255) / 510) ∨ (u.1 = 1 ∧ ¬ sp_byte a.toInt)) (at_M dC dI (va_A [(h0, .inr (1, [.int th, .long up, .long lo, .long le]))] sz) h0) (va_A [(h0, .inr (1, [.int th, .long up, .long lo, .long le]))] sz)) 0 0 (va_A [(h0, .inr (1, [.int th, .long up, .long lo, .long le]))] sz) := by
  refine Met.ofW (cc := b_M_fixed) (maxL := 2) (ret := some .int) (by decide) rfl ?_
  intro p e s m args below meth c s₁ B hml hv
  obtain ⟨rfl, hsz, hP, hK, hD0⟩ := hv
  have hx := B.exec
  have hb := B.bytes
  have hr := B.returns
  have hts := atoms_spec (ws := w_M_fixed) B.pre
  have hown : s.vm.findClass R_M = some m.cls := findClass_of_methodNamed B.named
  have hlocks := B.notSynchronized
  subst hsz
  have hD := hD0.self (sz := s.heap.size)
  generalize hAe : va_A [(h0, .inr (1, [.int th, .long up, .long lo, .long le]))] s.heap.size = A at hD ⊢
  have hA : ∀ q : Nat, s.heap.size ≤ q → A q := fun q h => by rw [← hAe]; exact Or.inr h
  have hS : va_S A s.heap s.heap [] := va_S.rf
  have hP : va_P (dC, dI) classes [(h0, .inr (1, [.int th, .long up, .long lo, .long le]))] s.heap := hP
  have hl := lv_entry ([.ref h0, .int a]) (n := 2) (Nat.le_of_ble_eq_true rfl)
  rw [lg_entry_eq]
  generalize (lg_sl ([.ref h0, .int a]) ++ List.replicate (2 - (lg_sl ([.ref h0, .int a])).length) Slot.unset).toArray = ls at hl ⊢
  have hl : lv_has ls 2 [(0, .ref h0), (1, .int a)] := hl
  refine lv_aload_n hx hb d_M_fixed_0 rfl (lv_at hl 0 rfl) ?_
  refine lv_iload_n hx hb d_M_fixed_1 rfl (lv_at hl 1 rfl) ?_
  refine jn_i (J := 17) (rest := [.ref h0]) (fun v => v = if sp_byte a.toInt then 0 else 1) (fun v17 e17 => ?_) (fun K17 => ?_)
  · skip
    refine va_put (D := (dC, dI)) (ci := 1) (v := .int v17) (ty := .int) (C := R_M) (T := F_M) (N := 4) hx hb hts (fun w h => List.mem_cons_of_mem _ (i_M w h)) t_M t_M_ok n_M hown hK hP hD hS 0 rfl rfl 0 (by decide) (hts (.fieldLink R_M 7 R_M "thrown" "I") (List.mem_cons_of_mem _ (tm (by decide +kernel) rfl))) (fun _ h9 => h9) rfl (by decide +kernel) rfl rfl (Nat.le_of_ble_eq_true rfl) d_M_fixed_17 (fun H locs hP hD hS => ?_)
    have hP : va_P (dC, dI) classes [(h0, .inr (1, [.int v17, .long up, .long lo, .long le]))] H := hP
    have hD : va_D A [(h0, .inr (1, [.int v17, .long up, .long lo, .long le]))] := hD
    have hth := mb_t e17
    have ht1 : ¬ v17 ≤ 0 → v17 = 1 := hth.1
    have hby1 : ¬ v17 ≤ 0 → ¬ sp_byte a.toInt := hth.2.1
    have ht0 : v17 ≤ 0 → v17 = 0 := hth.2.2.1
    refine lv_aload_n hx hb d_M_fixed_20 rfl (lv_at hl 0 rfl) ?_
    refine va_get (D := (dC, dI)) (ci := 1) (v := .int v17) (C := R_M) (T := F_M) (N := 4) hx hb hts (fun w h => List.mem_cons_of_mem _ (i_M w h)) hown hK hP 0 rfl rfl 0 (by decide) (hts (.fieldLink R_M 7 R_M "thrown" "I") (List.mem_cons_of_mem _ (tm (by decide +kernel) rfl))) (fun _ h9 => h9) rfl d_M_fixed_21 ?_
    refine lv_if_le (tgt := 31) hx hb d_M_fixed_24 (by decide) (fun c24 => ?_) (fun c24 => ?_)
    · skip
      have hby : sp_byte a.toInt := hth.2.2.2 c24
      refine lv_ldc (v := 65536) hx hb hown (hts (.constant R_M 58 65536) (List.mem_cons_of_mem _ (tm (by decide +kernel) rfl))) d_M_fixed_31 ?_
      refine lv_iload_n hx hb d_M_fixed_33 rfl (lv_at hl 1 rfl) ?_
      refine lv_imul hx hb d_M_fixed_34 ?_
      refine lv_topi (fun v34 e34 => ?_)
      refine lv_sipush (v := 255) hx hb d_M_fixed_35 (by decide) ?_
      refine vp_callSi (W.runS (As := [.int v34, .int 255]) (rest := []) ⟨hx, hb, hml, hown, hts⟩ (c_M_nearest l v34 255 (65536 * a.toInt.toNat) 255 (mf_x hby e34) rfl (mf_b hby) (by decide) (by decide)) (cwS 2 hts g_M_59 rfl rfl rfl (by decide +kernel) ⟨Nat.le_of_ble_eq_true rfl, Nat.le_of_ble_eq_true rfl⟩) preEq rfl rfl hl.1 rfl (lv_room (Nat.le_of_ble_eq_true rfl)) d_M_fixed_38 ⟨Nat.zero_le _, Nat.zero_le _⟩) (fun v38 e38 => ?_)
      try dsimp only at e38
      refine W.iret (v := v38) hx hb hr (fun t ht hW => ⟨⟨_, (v17, up, lo, le), rfl, ?_, by rw [ht]; exact hP, va_K.moved hW.alike hK, hD⟩, hS.F ht⟩) hS.2.2 d_M_fixed_41
      show (v17 = 0 ∧ sp_byte a.toInt ∧ v38.toInt = (2 * (65536 * a.toInt) + 255) / 510) ∨ (v17 = 1 ∧ ¬ sp_byte a.toInt)
      exact Or.inl ⟨ht0 c24, hby, mf_1 hby e38⟩
    · skip
      refine lv_iconst (v := 0) hx hb d_M_fixed_27 (by decide) ?_
      refine lv_goto (tgt := 41) hx hb d_M_fixed_28 (by decide) ?_
      refine W.iret (v := 0) hx hb hr (fun t ht hW => ⟨⟨_, (v17, up, lo, le), rfl, ?_, by rw [ht]; exact hP, va_K.moved hW.alike hK, hD⟩, hS.F ht⟩) hS.2.2 d_M_fixed_41
      show (v17 = 0 ∧ sp_byte a.toInt ∧ (0 : Int32).toInt = (2 * (65536 * a.toInt) + 255) / 510) ∨ (v17 = 1 ∧ ¬ sp_byte a.toInt)
      exact Or.inr ⟨ht1 c24, hby1 c24⟩
  · skip
    refine lv_if_lt (tgt := 12) hx hb d_M_fixed_2 (by decide) (fun c2 => ?_) (fun c2 => ?_)
    · skip
      refine lv_iconst (v := 1) hx hb d_M_fixed_12 (by decide) ?_
      refine lv_goto (tgt := 17) hx hb d_M_fixed_13 (by decide) ?_
      exact K17 _ (by first | exact mb_1 (Or.inl c2) | exact mb_1 (Or.inr (Int32.not_le.mp c9)) | exact mb_0 c2 c9)
    · skip
      refine lv_iload_n hx hb d_M_fixed_5 rfl (lv_at hl 1 rfl) ?_
      refine lv_sipush (v := 255) hx hb d_M_fixed_6 (by decide) ?_
      refine lv_icmp_le (tgt := 16) hx hb d_M_fixed_9 (by decide) (fun c9 => ?_) (fun c9 => ?_)
      · skip
        refine lv_iconst (v := 0) hx hb d_M_fixed_16 (by decide) ?_
        exact K17 _ (by first | exact mb_1 (Or.inl c2) | exact mb_1 (Or.inr (Int32.not_le.mp c9)) | exact mb_0 c2 c9)
      · skip
        refine lv_iconst (v := 1) hx hb d_M_fixed_12 (by decide) ?_
        refine lv_goto (tgt := 17) hx hb d_M_fixed_13 (by decide) ?_
        exact K17 _ (by first | exact mb_1 (Or.inl c2) | exact mb_1 (Or.inr (Int32.not_le.mp c9)) | exact mb_0 c2 c9)
set_option maxHeartbeats 4000000 in
set_option maxRecDepth 100000 in
theorem c_M_shade (l : Launch) (dC : Nat → ClassId) (dI : Nat → Nat → Nat) (h0 sz : Nat) (th : Int32) (up lo le : Int64) (a b : Int32)  : Met l y_M_shade w_M_shade ({ frames := 1, cells := 0, slots := 0, locals := 30 }) (va_Pc [.ref h0, .int a, .int b] (fun U => U.heap.size = sz ∧ va_P (dC, dI) classes [(h0, .inr (1, [.int th, .long up, .long lo, .long le]))] U.heap ∧ va_K (dC, dI) classes [] U ∧ va_D (fun _ => True) [(h0, .inr (1, [.int th, .long up, .long lo, .long le]))])) (va_Qi (fun (r : Int32) (u : MS) => (u.1 = 0 ∧ sp_byte a.toInt ∧ sp_byte b.toInt ∧ r.toInt = (2 * (a.toInt * b.toInt) + 255) / 510) ∨ (u.1 = 1 ∧ (¬ sp_byte a.toInt ∨ ¬ sp_byte b.toInt))) (at_M dC dI (va_A [(h0, .inr (1, [.int th, .long up, .long lo, .long le]))] sz) h0) (va_A [(h0, .inr (1, [.int th, .long up, .long lo, .long le]))] sz)) 0 0 (va_A [(h0, .inr (1, [.int th, .long up, .long lo, .long le]))] sz) := by
  refine Met.ofW (cc := b_M_shade) (maxL := 3) (ret := some .int) (by decide) rfl ?_
  intro p e s m args below meth c s₁ B hml hv
  obtain ⟨rfl, hsz, hP, hK, hD0⟩ := hv
  have hx := B.exec
  have hb := B.bytes
  have hr := B.returns
  have hts := atoms_spec (ws := w_M_shade) B.pre
  have hown : s.vm.findClass R_M = some m.cls := findClass_of_methodNamed B.named
  have hlocks := B.notSynchronized
  subst hsz
  have hD := hD0.self (sz := s.heap.size)
  generalize hAe : va_A [(h0, .inr (1, [.int th, .long up, .long lo, .long le]))] s.heap.size = A at hD ⊢
  have hA : ∀ q : Nat, s.heap.size ≤ q → A q := fun q h => by rw [← hAe]; exact Or.inr h
  have hS : va_S A s.heap s.heap [] := va_S.rf
  have hP : va_P (dC, dI) classes [(h0, .inr (1, [.int th, .long up, .long lo, .long le]))] s.heap := hP
  have hl := lv_entry ([.ref h0, .int a, .int b]) (n := 3) (Nat.le_of_ble_eq_true rfl)
  rw [lg_entry_eq]
  generalize (lg_sl ([.ref h0, .int a, .int b]) ++ List.replicate (3 - (lg_sl ([.ref h0, .int a, .int b])).length) Slot.unset).toArray = ls at hl ⊢
  have hl : lv_has ls 3 [(0, .ref h0), (1, .int a), (2, .int b)] := hl
  refine lv_aload_n hx hb d_M_shade_0 rfl (lv_at hl 0 rfl) ?_
  refine lv_iload_n hx hb d_M_shade_1 rfl (lv_at hl 1 rfl) ?_
  refine jn_i (J := 28) (rest := [.ref h0]) (fun v => v = if sp_byte a.toInt ∧ sp_byte b.toInt then 0 else 1) (fun v28 e28 => ?_) (fun K28 => ?_)
  · skip
    refine va_put (D := (dC, dI)) (ci := 1) (v := .int v28) (ty := .int) (C := R_M) (T := F_M) (N := 4) hx hb hts (fun w h => List.mem_cons_of_mem _ (i_M w h)) t_M t_M_ok n_M hown hK hP hD hS 0 rfl rfl 0 (by decide) (hts (.fieldLink R_M 7 R_M "thrown" "I") (List.mem_cons_of_mem _ (tm (by decide +kernel) rfl))) (fun _ h9 => h9) rfl (by decide +kernel) rfl rfl (Nat.le_of_ble_eq_true rfl) d_M_shade_28 (fun H locs hP hD hS => ?_)
    have hP : va_P (dC, dI) classes [(h0, .inr (1, [.int v28, .long up, .long lo, .long le]))] H := hP
    have hD : va_D A [(h0, .inr (1, [.int v28, .long up, .long lo, .long le]))] := hD
    have hth := mb_t e28
    refine lv_aload_n hx hb d_M_shade_31 rfl (lv_at hl 0 rfl) ?_
    refine va_get (D := (dC, dI)) (ci := 1) (v := .int v28) (C := R_M) (T := F_M) (N := 4) hx hb hts (fun w h => List.mem_cons_of_mem _ (i_M w h)) hown hK hP 0 rfl rfl 0 (by decide) (hts (.fieldLink R_M 7 R_M "thrown" "I") (List.mem_cons_of_mem _ (tm (by decide +kernel) rfl))) (fun _ h9 => h9) rfl d_M_shade_32 ?_
    refine lv_if_le (tgt := 42) hx hb d_M_shade_35 (by decide) (fun c35 => ?_) (fun c35 => ?_)
    · skip
      have hby := hth.2.2.2 c35
      refine lv_iload_n hx hb d_M_shade_42 rfl (lv_at hl 1 rfl) ?_
      refine lv_iload_n hx hb d_M_shade_43 rfl (lv_at hl 2 rfl) ?_
      refine lv_imul hx hb d_M_shade_44 ?_
      refine lv_topi (fun v44 e44 => ?_)
      refine lv_sipush (v := 255) hx hb d_M_shade_45 (by decide) ?_
      refine vp_callSi (W.runS (As := [.int v44, .int 255]) (rest := []) ⟨hx, hb, hml, hown, hts⟩ (c_M_nearest l v44 255 (a.toInt.toNat * b.toInt.toNat) 255 (ms_x hby.1 hby.2 e44) rfl (ms_b hby.1 hby.2) (by decide) (by decide)) (cwS 2 hts g_M_59 rfl rfl rfl (by decide +kernel) ⟨Nat.le_of_ble_eq_true rfl, Nat.le_of_ble_eq_true rfl⟩) preEq rfl rfl hl.1 rfl (lv_room (Nat.le_of_ble_eq_true rfl)) d_M_shade_48 ⟨Nat.zero_le _, Nat.zero_le _⟩) (fun v48 e48 => ?_)
      try dsimp only at e48
      refine W.iret (v := v48) hx hb hr (fun t ht hW => ⟨⟨_, (v28, up, lo, le), rfl, ?_, by rw [ht]; exact hP, va_K.moved hW.alike hK, hD⟩, hS.F ht⟩) hS.2.2 d_M_shade_51
      show (v28 = 0 ∧ sp_byte a.toInt ∧ sp_byte b.toInt ∧ v48.toInt = (2 * (a.toInt * b.toInt) + 255) / 510) ∨ (v28 = 1 ∧ (¬ sp_byte a.toInt ∨ ¬ sp_byte b.toInt))
      exact Or.inl ⟨hth.2.2.1 c35, hby.1, hby.2, ms_1 hby.1 hby.2 e48⟩
    · skip
      refine lv_iconst (v := 0) hx hb d_M_shade_38 (by decide) ?_
      refine lv_goto (tgt := 51) hx hb d_M_shade_39 (by decide) ?_
      refine W.iret (v := 0) hx hb hr (fun t ht hW => ⟨⟨_, (v28, up, lo, le), rfl, ?_, by rw [ht]; exact hP, va_K.moved hW.alike hK, hD⟩, hS.F ht⟩) hS.2.2 d_M_shade_51
      show (v28 = 0 ∧ sp_byte a.toInt ∧ sp_byte b.toInt ∧ (0 : Int32).toInt = (2 * (a.toInt * b.toInt) + 255) / 510) ∨ (v28 = 1 ∧ (¬ sp_byte a.toInt ∨ ¬ sp_byte b.toInt))
      exact Or.inr ⟨hth.1 c35, Classical.not_and_iff_not_or_not.mp (hth.2.1 c35)⟩
  · skip
    refine lv_if_lt (tgt := 23) hx hb d_M_shade_2 (by decide) (fun c2 => ?_) (fun c2 => ?_)
    · skip
      refine lv_iconst (v := 1) hx hb d_M_shade_23 (by decide) ?_
      refine lv_goto (tgt := 28) hx hb d_M_shade_24 (by decide) ?_
      exact K28 _ (by first | exact mb_2 (Or.inl (Or.inl c2)) | exact mb_2 (Or.inl (Or.inr c9)) | exact mb_2 (Or.inr (Or.inl c13)) | exact mb_2 (Or.inr (Or.inr (Int32.not_le.mp c20))) | exact mb_3 c2 c9 c13 c20)
    · skip
      refine lv_iload_n hx hb d_M_shade_5 rfl (lv_at hl 1 rfl) ?_
      refine lv_sipush (v := 255) hx hb d_M_shade_6 (by decide) ?_
      refine lv_icmp_gt (tgt := 23) hx hb d_M_shade_9 (by decide) (fun c9 => ?_) (fun c9 => ?_)
      · skip
        refine lv_iconst (v := 1) hx hb d_M_shade_23 (by decide) ?_
        refine lv_goto (tgt := 28) hx hb d_M_shade_24 (by decide) ?_
        exact K28 _ (by first | exact mb_2 (Or.inl (Or.inl c2)) | exact mb_2 (Or.inl (Or.inr c9)) | exact mb_2 (Or.inr (Or.inl c13)) | exact mb_2 (Or.inr (Or.inr (Int32.not_le.mp c20))) | exact mb_3 c2 c9 c13 c20)
      · skip
        refine lv_iload_n hx hb d_M_shade_12 rfl (lv_at hl 2 rfl) ?_
        refine lv_if_lt (tgt := 23) hx hb d_M_shade_13 (by decide) (fun c13 => ?_) (fun c13 => ?_)
        · skip
          refine lv_iconst (v := 1) hx hb d_M_shade_23 (by decide) ?_
          refine lv_goto (tgt := 28) hx hb d_M_shade_24 (by decide) ?_
          exact K28 _ (by first | exact mb_2 (Or.inl (Or.inl c2)) | exact mb_2 (Or.inl (Or.inr c9)) | exact mb_2 (Or.inr (Or.inl c13)) | exact mb_2 (Or.inr (Or.inr (Int32.not_le.mp c20))) | exact mb_3 c2 c9 c13 c20)
        · skip
          refine lv_iload_n hx hb d_M_shade_16 rfl (lv_at hl 2 rfl) ?_
          refine lv_sipush (v := 255) hx hb d_M_shade_17 (by decide) ?_
          refine lv_icmp_le (tgt := 27) hx hb d_M_shade_20 (by decide) (fun c20 => ?_) (fun c20 => ?_)
          · skip
            refine lv_iconst (v := 0) hx hb d_M_shade_27 (by decide) ?_
            exact K28 _ (by first | exact mb_2 (Or.inl (Or.inl c2)) | exact mb_2 (Or.inl (Or.inr c9)) | exact mb_2 (Or.inr (Or.inl c13)) | exact mb_2 (Or.inr (Or.inr (Int32.not_le.mp c20))) | exact mb_3 c2 c9 c13 c20)
          · skip
            refine lv_iconst (v := 1) hx hb d_M_shade_23 (by decide) ?_
            refine lv_goto (tgt := 28) hx hb d_M_shade_24 (by decide) ?_
            exact K28 _ (by first | exact mb_2 (Or.inl (Or.inl c2)) | exact mb_2 (Or.inl (Or.inr c9)) | exact mb_2 (Or.inr (Or.inl c13)) | exact mb_2 (Or.inr (Or.inr (Int32.not_le.mp c20))) | exact mb_3 c2 c9 c13 c20)
