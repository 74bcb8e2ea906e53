set_option maxHeartbeats 4000000 in
set_option maxRecDepth 100000 in
theorem c_M_root (l : Launch) (dC : Nat → ClassId) (dI : Nat → Nat → Nat) (h0 sz : Nat) (th : Int32) (up lo le : Int64) (a : Int32)  : Met l y_M_root w_M_root ({ frames := 0, cells := 0, slots := 0, locals := 0 }) (va_Pc [.ref h0, .int a] (fun U => U.heap.size = sz ∧ va_P (dC, dI) classes [(h0, .inr (1, [.int th, .long up, .long lo, .long le]))] U.heap ∧ va_K (dC, dI) classes [] U ∧ va_D (fun _ => True) [(h0, .inr (1, [.int th, .long up, .long lo, .long le]))])) (va_Qi (fun (r : Int32) (u : MS) => sp_root a.toInt r.toInt) (at_M dC dI (va_A [(h0, .inr (1, [.int th, .long up, .long lo, .long le]))] sz) h0) (va_A [(h0, .inr (1, [.int th, .long up, .long lo, .long le]))] sz)) 0 0 (va_A [(h0, .inr (1, [.int th, .long up, .long lo, .long le]))] sz) := by
  refine Met.ofW (cc := b_M_root) (maxL := 8) (ret := some .int) (by decide) rfl ?_
  intro p e s m args below meth c s₁ B hml hv
  obtain ⟨rfl, hsz, hP, hK, hD0⟩ := hv
  have hx := B.exec
  have hb := B.bytes
  have hr := B.returns
  have hts := atoms_spec (ws := w_M_root) B.pre
  have hown : s.vm.findClass R_M = some m.cls := findClass_of_methodNamed B.named
  have hlocks := B.notSynchronized
  subst hsz
  have hD := hD0.self (sz := s.heap.size)
  generalize hAe : va_A [(h0, .inr (1, [.int th, .long up, .long lo, .long le]))] s.heap.size = A at hD ⊢
  have hA : ∀ q : Nat, s.heap.size ≤ q → A q := fun q h => by rw [← hAe]; exact Or.inr h
  have hS : va_S A s.heap s.heap [] := va_S.rf
  have hP : va_P (dC, dI) classes [(h0, .inr (1, [.int th, .long up, .long lo, .long le]))] s.heap := hP
  have hl := lv_entry ([.ref h0, .int a]) (n := 8) (Nat.le_of_ble_eq_true rfl)
  rw [lg_entry_eq]
  generalize (lg_sl ([.ref h0, .int a]) ++ List.replicate (8 - (lg_sl ([.ref h0, .int a])).length) Slot.unset).toArray = ls at hl ⊢
  have hl : lv_has ls 8 [(0, .ref h0), (1, .int a)] := hl
  refine lv_aload_n hx hb d_M_root_0 rfl (lv_at hl 0 rfl) ?_
  refine lv_iconst (v := 0) hx hb d_M_root_1 (by decide) ?_
  refine va_put (D := (dC, dI)) (ci := 1) (v := .int 0) (ty := .int) (C := R_M) (T := F_M) (N := 4) hx hb hts (fun w h => List.mem_cons_of_mem _ (i_M w h)) t_M t_M_ok n_M hown hK hP hD hS 0 rfl rfl 0 (by decide) (hts (.fieldLink R_M 7 R_M "thrown" "I") (List.mem_cons_of_mem _ (tm (by decide +kernel) rfl))) (fun _ h9 => h9) rfl (by decide +kernel) rfl rfl (Nat.le_of_ble_eq_true rfl) d_M_root_2 (fun H locs hP hD hS => ?_)
  have hP : va_P (dC, dI) classes [(h0, .inr (1, [.int 0, .long up, .long lo, .long le]))] H := hP
  have hD : va_D A [(h0, .inr (1, [.int 0, .long up, .long lo, .long le]))] := hD
  refine lv_iload_n hx hb d_M_root_5 rfl (lv_at hl 1 rfl) ?_
  refine jn_l (J := 19) (rest := []) (fun v => v.toInt = max 0 (65536 * a.toInt)) (fun v19 e19 => ?_) (fun K19 => ?_)
  · skip
    refine lv_lstore_n (lv' := [(2, .long v19), (0, .ref h0), (1, .int a)]) hx hb d_M_root_19 rfl hl (by decide) rfl (fun ls hl => ?_)
    refine lv_lconst (v := 0) hx hb d_M_root_20 (by decide) ?_
    refine lv_lstore (lv' := [(4, .long 0), (2, .long v19), (0, .ref h0), (1, .int a)]) hx hb d_M_root_21 hl (by decide) rfl (fun ls hl => ?_)
    refine lv_ldc2 (v := 16777216) hx hb hown (hts (.constantLong R_M 50 16777216) (List.mem_cons_of_mem _ (tm (by decide +kernel) rfl))) d_M_root_23 ?_
    refine lv_lstore (lv' := [(6, .long 16777216), (4, .long 0), (2, .long v19), (0, .ref h0), (1, .int a)]) hx hb d_M_root_26 hl (by decide) rfl (fun ls hl => ?_)
    obtain ⟨hm0, hm1⟩ := mr_mb a v19 e19
    obtain ⟨S, hxS, hxI, hSN, -⟩ := fx_of v19 hm0 hm1
    have hSb : S ≤ 281474976710656 := by omega
    refine lp_W (nL := 8) (J := 28) (fun z : Int64 × Int64 => [(6, .long z.2), (4, .long z.1), (2, .long v19), (0, .ref h0), (1, .int a)]) (mr_I S) (fun n z hI ih ls hl => ?_) 25 (0, 16777216) (mr_0 hSb) (lv_sub hl [0, 1, 2, 3, 4] rfl)
    obtain ⟨r, bt⟩ := z
    obtain ⟨hn, hbt, f, hf, hb1, hb2, hb3⟩ := hI
    dsimp only at hbt hf
    have hl : lv_has ls 8 [(6, .long bt), (4, .long r), (2, .long v19), (0, .ref h0), (1, .int a)] := hl
    refine lv_lload hx hb d_M_root_28 (lv_at hl 0 rfl) ?_
    refine lv_lconst (v := 0) hx hb d_M_root_30 (by decide) ?_
    refine W.lcmp hx hb d_M_root_31 ?_
    refine lv_if_le (tgt := 72) hx hb d_M_root_32 (by decide) (fun c32 => ?_) (fun c32 => ?_)
    · skip
      have c32 := (lg_cmp_le _ _).mp c32
      refine lv_lload hx hb d_M_root_72 (lv_at hl 1 rfl) ?_
      refine lv_l2i hx hb d_M_root_74 rfl ?_
      refine lv_topi (fun v74 e74 => ?_)
      refine W.iret (v := v74) hx hb hr (fun t ht hW => ⟨⟨_, (0, up, lo, le), rfl, ?_, by rw [ht]; exact hP, va_K.moved hW.alike hK, hD⟩, hS.F ht⟩) hS.2.2 d_M_root_75
      show sp_root a.toInt v74.toInt
      exact by have z := mr_neg hn hbt c32; subst z; exact mr_end a v74 v19 e19 (rt_end hxI hf hb1 hb2 hb3 e74)
    · skip
      have c32 := (not_congr (lg_cmp_le _ _)).mp c32
      obtain ⟨j, rfl, hbj⟩ := mr_nn hn hbt c32
      refine lv_lload hx hb d_M_root_35 (lv_at hl 1 rfl) ?_
      refine lv_lload hx hb d_M_root_37 (lv_at hl 0 rfl) ?_
      refine lv_ladd hx hb d_M_root_39 ?_
      refine lv_topl (fun v39 e39 => ?_)
      refine lv_lload hx hb d_M_root_40 (lv_at hl 1 rfl) ?_
      refine lv_lload hx hb d_M_root_42 (lv_at hl 0 rfl) ?_
      refine lv_ladd hx hb d_M_root_44 ?_
      refine lv_topl (fun v44 e44 => ?_)
      refine lv_lmul hx hb d_M_root_45 ?_
      refine lv_topl (fun v45 e45 => ?_)
      obtain ⟨f39, cx⟩ := mr_try hxS hSb hn hbj hf hb1 e39 e44 e45
      refine lv_lload_n hx hb d_M_root_46 rfl (lv_at hl 2 rfl) ?_
      refine W.lcmp hx hb d_M_root_47 ?_
      refine lv_if_gt (tgt := 59) hx hb d_M_root_48 (by decide) (fun c48 => ?_) (fun c48 => ?_)
      · skip
        have c48 := (lg_cmp_gt _ _).mp c48
        refine lv_lload hx hb d_M_root_59 (lv_at hl 1 rfl) ?_
        refine lv_lstore (lv' := [(4, .long r), (6, .long bt), (2, .long v19), (0, .ref h0), (1, .int a)]) hx hb d_M_root_61 hl (by decide) rfl (fun ls hl => ?_)
        refine lv_lload hx hb d_M_root_63 (lv_at hl 1 rfl) ?_
        refine lv_iconst (v := 1) hx hb d_M_root_65 (by decide) ?_
        refine lv_lshr hx hb d_M_root_66 rfl ?_
        refine lv_topl (fun v66 e66 => ?_)
        refine lv_lstore (lv' := [(6, .long v66), (4, .long r), (2, .long v19), (0, .ref h0), (1, .int a)]) hx hb d_M_root_67 hl (by decide) rfl (fun ls hl => ?_)
        refine lv_goto (tgt := 28) hx hb d_M_root_69 (by decide) ?_
        exact ih _ (r, v66) (Nat.lt_succ_self _) (mr_no hn hf hb1 hb2 (cx.mp c48) (mr_sh hn hbj e66)) _ (lv_sub hl [0, 1, 2, 3, 4] rfl)
      · skip
        have c48 := (not_congr (lg_cmp_gt _ _)).mp c48
        refine lv_lload hx hb d_M_root_51 (lv_at hl 1 rfl) ?_
        refine lv_lload hx hb d_M_root_53 (lv_at hl 0 rfl) ?_
        refine lv_ladd hx hb d_M_root_55 ?_
        refine lv_topl (fun v55 e55 => ?_)
        refine lv_goto (tgt := 61) hx hb d_M_root_56 (by decide) ?_
        refine lv_lstore (lv' := [(4, .long v55), (6, .long bt), (2, .long v19), (0, .ref h0), (1, .int a)]) hx hb d_M_root_61 hl (by decide) rfl (fun ls hl => ?_)
        refine lv_lload hx hb d_M_root_63 (lv_at hl 1 rfl) ?_
        refine lv_iconst (v := 1) hx hb d_M_root_65 (by decide) ?_
        refine lv_lshr hx hb d_M_root_66 rfl ?_
        refine lv_topl (fun v66 e66 => ?_)
        refine lv_lstore (lv' := [(6, .long v66), (4, .long v55), (2, .long v19), (0, .ref h0), (1, .int a)]) hx hb d_M_root_67 hl (by decide) rfl (fun ls hl => ?_)
        refine lv_goto (tgt := 28) hx hb d_M_root_69 (by decide) ?_
        exact ih _ (v55, v66) (Nat.lt_succ_self _) (mr_yes hn (by rw [e55, hf, hbj, lN_add]) hb1 hb3 (Nat.not_lt.mp (fun q => c48 (cx.mpr q))) (mr_sh hn hbj e66)) _ (lv_sub hl [0, 1, 2, 3, 4] rfl)
  · skip
    refine lv_if_ge (tgt := 13) hx hb d_M_root_6 (by decide) (fun c6 => ?_) (fun c6 => ?_)
    · skip
      refine lv_ldc2 (v := 65536) hx hb hown (hts (.constantLong R_M 48 65536) (List.mem_cons_of_mem _ (tm (by decide +kernel) rfl))) d_M_root_13 ?_
      refine lv_iload_n hx hb d_M_root_16 rfl (lv_at hl 1 rfl) ?_
      refine lv_i2l hx hb d_M_root_17 rfl ?_
      refine lv_topl (fun v17 e17 => ?_)
      refine lv_lmul hx hb d_M_root_18 ?_
      refine lv_topl (fun v18 e18 => ?_)
      exact K19 _ (by first | exact mr_m0 a c6 | exact mr_m1 a v18 c6 (by rw [e18, e17]))
    · skip
      refine lv_lconst (v := 0) hx hb d_M_root_9 (by decide) ?_
      refine lv_goto (tgt := 19) hx hb d_M_root_10 (by decide) ?_
      exact K19 _ (by first | exact mr_m0 a c6 | exact mr_m1 a v18 c6 (by rw [e18, e17]))
set_option maxHeartbeats 4000000 in
set_option maxRecDepth 100000 in
theorem c_M_oneByRoot (l : Launch) (dC : Nat → ClassId) (dI : Nat → Nat → Nat) (h0 sz : Nat) (th : Int32) (up lo le : Int64) (a : Int32)  : Met l y_M_oneByRoot w_M_oneByRoot ({ frames := 0, cells := 0, slots := 0, locals := 0 }) (va_Pc [.ref h0, .int a] (fun U => U.heap.size = sz ∧ va_P (dC, dI) classes [(h0, .inr (1, [.int th, .long up, .long lo, .long le]))] U.heap ∧ va_K (dC, dI) classes [] U ∧ va_D (fun _ => True) [(h0, .inr (1, [.int th, .long up, .long lo, .long le]))])) (va_Qi (fun (r : Int32) (u : MS) => sp_obr a.toInt r.toInt) (at_M dC dI (va_A [(h0, .inr (1, [.int th, .long up, .long lo, .long le]))] sz) h0) (va_A [(h0, .inr (1, [.int th, .long up, .long lo, .long le]))] sz)) 0 0 (va_A [(h0, .inr (1, [.int th, .long up, .long lo, .long le]))] sz) := by
  refine Met.ofW (cc := b_M_oneByRoot) (maxL := 8) (ret := some .int) (by decide) rfl ?_
  intro p e s m args below meth c s₁ B hml hv
  obtain ⟨rfl, hsz, hP, hK, hD0⟩ := hv
  have hx := B.exec
  have hb := B.bytes
  have hr := B.returns
  have hts := atoms_spec (ws := w_M_oneByRoot) B.pre
  have hown : s.vm.findClass R_M = some m.cls := findClass_of_methodNamed B.named
  have hlocks := B.notSynchronized
  subst hsz
  have hD := hD0.self (sz := s.heap.size)
  generalize hAe : va_A [(h0, .inr (1, [.int th, .long up, .long lo, .long le]))] s.heap.size = A at hD ⊢
  have hA : ∀ q : Nat, s.heap.size ≤ q → A q := fun q h => by rw [← hAe]; exact Or.inr h
  have hS : va_S A s.heap s.heap [] := va_S.rf
  have hP : va_P (dC, dI) classes [(h0, .inr (1, [.int th, .long up, .long lo, .long le]))] s.heap := hP
  have hl := lv_entry ([.ref h0, .int a]) (n := 8) (Nat.le_of_ble_eq_true rfl)
  rw [lg_entry_eq]
  generalize (lg_sl ([.ref h0, .int a]) ++ List.replicate (8 - (lg_sl ([.ref h0, .int a])).length) Slot.unset).toArray = ls at hl ⊢
  have hl : lv_has ls 8 [(0, .ref h0), (1, .int a)] := hl
  refine lv_aload_n hx hb d_M_oneByRoot_0 rfl (lv_at hl 0 rfl) ?_
  refine lv_iconst (v := 0) hx hb d_M_oneByRoot_1 (by decide) ?_
  refine va_put (D := (dC, dI)) (ci := 1) (v := .int 0) (ty := .int) (C := R_M) (T := F_M) (N := 4) hx hb hts (fun w h => List.mem_cons_of_mem _ (i_M w h)) t_M t_M_ok n_M hown hK hP hD hS 0 rfl rfl 0 (by decide) (hts (.fieldLink R_M 7 R_M "thrown" "I") (List.mem_cons_of_mem _ (tm (by decide +kernel) rfl))) (fun _ h9 => h9) rfl (by decide +kernel) rfl rfl (Nat.le_of_ble_eq_true rfl) d_M_oneByRoot_2 (fun H locs hP hD hS => ?_)
  have hP : va_P (dC, dI) classes [(h0, .inr (1, [.int 0, .long up, .long lo, .long le]))] H := hP
  have hD : va_D A [(h0, .inr (1, [.int 0, .long up, .long lo, .long le]))] := hD
  refine lv_iload_n hx hb d_M_oneByRoot_5 rfl (lv_at hl 1 rfl) ?_
  refine lv_if_gt (tgt := 12) hx hb d_M_oneByRoot_6 (by decide) (fun c6 => ?_) (fun c6 => ?_)
  · skip
    refine lv_ldc2 (v := 281474976710656) hx hb hown (hts (.constantLong R_M 52 281474976710656) (List.mem_cons_of_mem _ (tm (by decide +kernel) rfl))) d_M_oneByRoot_12 ?_
    refine lv_iload_n hx hb d_M_oneByRoot_15 rfl (lv_at hl 1 rfl) ?_
    refine lv_i2l hx hb d_M_oneByRoot_16 rfl ?_
    refine lv_topl (fun v16 e16 => ?_)
    refine lv_ldiv hx hb d_M_oneByRoot_17 (fx_obrz a v16 c6 e16) ?_
    refine lv_topl (fun v17 e17 => ?_)
    refine lv_lstore_n (lv' := [(2, .long v17), (0, .ref h0), (1, .int a)]) hx hb d_M_oneByRoot_18 rfl hl (by decide) rfl (fun ls hl => ?_)
    refine lv_lconst (v := 0) hx hb d_M_oneByRoot_19 (by decide) ?_
    refine lv_lstore (lv' := [(4, .long 0), (2, .long v17), (0, .ref h0), (1, .int a)]) hx hb d_M_oneByRoot_20 hl (by decide) rfl (fun ls hl => ?_)
    refine lv_ldc2 (v := 16777216) hx hb hown (hts (.constantLong R_M 50 16777216) (List.mem_cons_of_mem _ (tm (by decide +kernel) rfl))) d_M_oneByRoot_22 ?_
    refine lv_lstore (lv' := [(6, .long 16777216), (4, .long 0), (2, .long v17), (0, .ref h0), (1, .int a)]) hx hb d_M_oneByRoot_25 hl (by decide) rfl (fun ls hl => ?_)
    obtain ⟨hm0, hm1⟩ := fx_obrb a v17 v16 c6 e16 e17
    obtain ⟨S, hxS, hxI, hSN, -⟩ := fx_of v17 hm0 hm1
    have hSb : S ≤ 281474976710656 := by omega
    refine lp_W (nL := 8) (J := 27) (fun z : Int64 × Int64 => [(6, .long z.2), (4, .long z.1), (2, .long v17), (0, .ref h0), (1, .int a)]) (mr_I S) (fun n z hI ih ls hl => ?_) 25 (0, 16777216) (mr_0 hSb) (lv_sub hl [0, 1, 2, 3, 4] rfl)
    obtain ⟨r, bt⟩ := z
    obtain ⟨hn, hbt, f, hf, hb1, hb2, hb3⟩ := hI
    dsimp only at hbt hf
    have hl : lv_has ls 8 [(6, .long bt), (4, .long r), (2, .long v17), (0, .ref h0), (1, .int a)] := hl
    refine lv_lload hx hb d_M_oneByRoot_27 (lv_at hl 0 rfl) ?_
    refine lv_lconst (v := 0) hx hb d_M_oneByRoot_29 (by decide) ?_
    refine W.lcmp hx hb d_M_oneByRoot_30 ?_
    refine lv_if_le (tgt := 71) hx hb d_M_oneByRoot_31 (by decide) (fun c31 => ?_) (fun c31 => ?_)
    · skip
      have c31 := (lg_cmp_le _ _).mp c31
      refine lv_lload hx hb d_M_oneByRoot_71 (lv_at hl 1 rfl) ?_
      refine lv_l2i hx hb d_M_oneByRoot_73 rfl ?_
      refine lv_topi (fun v73 e73 => ?_)
      refine W.iret (v := v73) hx hb hr (fun t ht hW => ⟨⟨_, (0, up, lo, le), rfl, ?_, by rw [ht]; exact hP, va_K.moved hW.alike hK, hD⟩, hS.F ht⟩) hS.2.2 d_M_oneByRoot_74
      show sp_obr a.toInt v73.toInt
      exact by have z := mr_neg hn hbt c31; subst z; exact fx_obr1 a v73 v17 v16 c6 e16 e17 (rt_end hxI hf hb1 hb2 hb3 e73)
    · skip
      have c31 := (not_congr (lg_cmp_le _ _)).mp c31
      obtain ⟨j, rfl, hbj⟩ := mr_nn hn hbt c31
      refine lv_lload hx hb d_M_oneByRoot_34 (lv_at hl 1 rfl) ?_
      refine lv_lload hx hb d_M_oneByRoot_36 (lv_at hl 0 rfl) ?_
      refine lv_ladd hx hb d_M_oneByRoot_38 ?_
      refine lv_topl (fun v38 e38 => ?_)
      refine lv_lload hx hb d_M_oneByRoot_39 (lv_at hl 1 rfl) ?_
      refine lv_lload hx hb d_M_oneByRoot_41 (lv_at hl 0 rfl) ?_
      refine lv_ladd hx hb d_M_oneByRoot_43 ?_
      refine lv_topl (fun v43 e43 => ?_)
      refine lv_lmul hx hb d_M_oneByRoot_44 ?_
      refine lv_topl (fun v44 e44 => ?_)
      obtain ⟨f39, cx⟩ := mr_try hxS hSb hn hbj hf hb1 e38 e43 e44
      refine lv_lload_n hx hb d_M_oneByRoot_45 rfl (lv_at hl 2 rfl) ?_
      refine W.lcmp hx hb d_M_oneByRoot_46 ?_
      refine lv_if_gt (tgt := 58) hx hb d_M_oneByRoot_47 (by decide) (fun c47 => ?_) (fun c47 => ?_)
      · skip
        have c47 := (lg_cmp_gt _ _).mp c47
        refine lv_lload hx hb d_M_oneByRoot_58 (lv_at hl 1 rfl) ?_
        refine lv_lstore (lv' := [(4, .long r), (6, .long bt), (2, .long v17), (0, .ref h0), (1, .int a)]) hx hb d_M_oneByRoot_60 hl (by decide) rfl (fun ls hl => ?_)
        refine lv_lload hx hb d_M_oneByRoot_62 (lv_at hl 1 rfl) ?_
        refine lv_iconst (v := 1) hx hb d_M_oneByRoot_64 (by decide) ?_
        refine lv_lshr hx hb d_M_oneByRoot_65 rfl ?_
        refine lv_topl (fun v65 e65 => ?_)
        refine lv_lstore (lv' := [(6, .long v65), (4, .long r), (2, .long v17), (0, .ref h0), (1, .int a)]) hx hb d_M_oneByRoot_66 hl (by decide) rfl (fun ls hl => ?_)
        refine lv_goto (tgt := 27) hx hb d_M_oneByRoot_68 (by decide) ?_
        exact ih _ (r, v65) (Nat.lt_succ_self _) (mr_no hn hf hb1 hb2 (cx.mp c47) (mr_sh hn hbj e65)) _ (lv_sub hl [0, 1, 2, 3, 4] rfl)
      · skip
        have c47 := (not_congr (lg_cmp_gt _ _)).mp c47
        refine lv_lload hx hb d_M_oneByRoot_50 (lv_at hl 1 rfl) ?_
        refine lv_lload hx hb d_M_oneByRoot_52 (lv_at hl 0 rfl) ?_
        refine lv_ladd hx hb d_M_oneByRoot_54 ?_
        refine lv_topl (fun v54 e54 => ?_)
        refine lv_goto (tgt := 60) hx hb d_M_oneByRoot_55 (by decide) ?_
        refine lv_lstore (lv' := [(4, .long v54), (6, .long bt), (2, .long v17), (0, .ref h0), (1, .int a)]) hx hb d_M_oneByRoot_60 hl (by decide) rfl (fun ls hl => ?_)
        refine lv_lload hx hb d_M_oneByRoot_62 (lv_at hl 1 rfl) ?_
        refine lv_iconst (v := 1) hx hb d_M_oneByRoot_64 (by decide) ?_
        refine lv_lshr hx hb d_M_oneByRoot_65 rfl ?_
        refine lv_topl (fun v65 e65 => ?_)
        refine lv_lstore (lv' := [(6, .long v65), (4, .long v54), (2, .long v17), (0, .ref h0), (1, .int a)]) hx hb d_M_oneByRoot_66 hl (by decide) rfl (fun ls hl => ?_)
        refine lv_goto (tgt := 27) hx hb d_M_oneByRoot_68 (by decide) ?_
        exact ih _ (v54, v65) (Nat.lt_succ_self _) (mr_yes hn (by rw [e54, hf, hbj, lN_add]) hb1 hb3 (Nat.not_lt.mp (fun q => c47 (cx.mpr q))) (mr_sh hn hbj e65)) _ (lv_sub hl [0, 1, 2, 3, 4] rfl)
  · skip
    refine lv_ldc (v := 2147483647) hx hb hown (hts (.constant R_M 42 2147483647) (List.mem_cons_of_mem _ (tm (by decide +kernel) rfl))) d_M_oneByRoot_9 ?_
    refine W.iret (v := 2147483647) hx hb hr (fun t ht hW => ⟨⟨_, (0, up, lo, le), rfl, ?_, by rw [ht]; exact hP, va_K.moved hW.alike hK, hD⟩, hS.F ht⟩) hS.2.2 d_M_oneByRoot_11
    show sp_obr a.toInt (2147483647 : Int32).toInt
    exact fx_obr0 a c6
set_option maxHeartbeats 4000000 in
set_option maxRecDepth 100000 in
theorem c_M_quotient (l : Launch) (dC : Nat → ClassId) (dI : Nat → Nat → Nat) (h0 sz : Nat) (th : Int32) (up lo le : Int64) (a b : Int32)  : Met l y_M_quotient w_M_quotient ({ frames := 1, cells := 0, slots := 0, locals := 30 }) (va_Pc [.ref h0, .int a, .int b] (fun U => U.heap.size = sz ∧ va_P (dC, dI) classes [(h0, .inr (1, [.int th, .long up, .long lo, .long le]))] U.heap ∧ va_K (dC, dI) classes [] U ∧ va_D (fun _ => True) [(h0, .inr (1, [.int th, .long up, .long lo, .long le]))])) (va_Qi (fun (r : Int32) (u : MS) => r.toInt = sp_quot a.toInt b.toInt) (at_M dC dI (va_A [(h0, .inr (1, [.int th, .long up, .long lo, .long le]))] sz) h0) (va_A [(h0, .inr (1, [.int th, .long up, .long lo, .long le]))] sz)) 0 0 (va_A [(h0, .inr (1, [.int th, .long up, .long lo, .long le]))] sz) := by
  refine Met.ofW (cc := b_M_quotient) (maxL := 12) (ret := some .int) (by decide) rfl ?_
  intro p e s m args below meth c s₁ B hml hv
  obtain ⟨rfl, hsz, hP, hK, hD0⟩ := hv
  have hx := B.exec
  have hb := B.bytes
  have hr := B.returns
  have hts := atoms_spec (ws := w_M_quotient) B.pre
  have hown : s.vm.findClass R_M = some m.cls := findClass_of_methodNamed B.named
  have hlocks := B.notSynchronized
  subst hsz
  have hD := hD0.self (sz := s.heap.size)
  generalize hAe : va_A [(h0, .inr (1, [.int th, .long up, .long lo, .long le]))] s.heap.size = A at hD ⊢
  have hA : ∀ q : Nat, s.heap.size ≤ q → A q := fun q h => by rw [← hAe]; exact Or.inr h
  have hS : va_S A s.heap s.heap [] := va_S.rf
  have hP : va_P (dC, dI) classes [(h0, .inr (1, [.int th, .long up, .long lo, .long le]))] s.heap := hP
  have hl := lv_entry ([.ref h0, .int a, .int b]) (n := 12) (Nat.le_of_ble_eq_true rfl)
  rw [lg_entry_eq]
  generalize (lg_sl ([.ref h0, .int a, .int b]) ++ List.replicate (12 - (lg_sl ([.ref h0, .int a, .int b])).length) Slot.unset).toArray = ls at hl ⊢
  have hl : lv_has ls 12 [(0, .ref h0), (1, .int a), (2, .int b)] := hl
  refine lv_aload_n hx hb d_M_quotient_0 rfl (lv_at hl 0 rfl) ?_
  refine lv_iconst (v := 0) hx hb d_M_quotient_1 (by decide) ?_
  refine va_put (D := (dC, dI)) (ci := 1) (v := .int 0) (ty := .int) (C := R_M) (T := F_M) (N := 4) hx hb hts (fun w h => List.mem_cons_of_mem _ (i_M w h)) t_M t_M_ok n_M hown hK hP hD hS 0 rfl rfl 0 (by decide) (hts (.fieldLink R_M 7 R_M "thrown" "I") (List.mem_cons_of_mem _ (tm (by decide +kernel) rfl))) (fun _ h9 => h9) rfl (by decide +kernel) rfl rfl (Nat.le_of_ble_eq_true rfl) d_M_quotient_2 (fun H locs hP hD hS => ?_)
  have hP : va_P (dC, dI) classes [(h0, .inr (1, [.int 0, .long up, .long lo, .long le]))] H := hP
  have hD : va_D A [(h0, .inr (1, [.int 0, .long up, .long lo, .long le]))] := hD
  refine lv_iload_n hx hb d_M_quotient_5 rfl (lv_at hl 2 rfl) ?_
  refine lv_if_ne (tgt := 29) hx hb d_M_quotient_6 (by decide) (fun c6 => ?_) (fun c6 => ?_)
  · skip
    refine lv_iload_n hx hb d_M_quotient_29 rfl (lv_at hl 1 rfl) ?_
    refine lv_i2l hx hb d_M_quotient_30 rfl ?_
    refine lv_topl (fun v30 e30 => ?_)
    refine vp_callSl (W.runS (As := [.long v30]) (rest := []) ⟨hx, hb, hml, hown, hts⟩ (c_M_size l v30 ) (cwS 1 hts g_M_30 rfl rfl rfl (by decide +kernel) ⟨Nat.le_of_ble_eq_true rfl, Nat.le_of_ble_eq_true rfl⟩) preEq rfl rfl hl.1 rfl (lv_room (Nat.le_of_ble_eq_true rfl)) d_M_quotient_31 ⟨Nat.zero_le _, Nat.zero_le _⟩) (fun v31 e31 => ?_)
    try dsimp only at e31
    refine lv_lstore_n (lv' := [(3, .long v31), (0, .ref h0), (1, .int a), (2, .int b)]) hx hb d_M_quotient_34 rfl hl (by decide) rfl (fun ls hl => ?_)
    refine lv_iload_n hx hb d_M_quotient_35 rfl (lv_at hl 3 rfl) ?_
    refine lv_i2l hx hb d_M_quotient_36 rfl ?_
    refine lv_topl (fun v36 e36 => ?_)
    refine vp_callSl (W.runS (As := [.long v36]) (rest := []) ⟨hx, hb, hml, hown, hts⟩ (c_M_size l v36 ) (cwS 1 hts g_M_30 rfl rfl rfl (by decide +kernel) ⟨Nat.le_of_ble_eq_true rfl, Nat.le_of_ble_eq_true rfl⟩) preEq rfl rfl hl.1 rfl (lv_room (Nat.le_of_ble_eq_true rfl)) d_M_quotient_37 ⟨Nat.zero_le _, Nat.zero_le _⟩) (fun v37 e37 => ?_)
    try dsimp only at e37
    refine lv_lstore (lv' := [(5, .long v37), (3, .long v31), (0, .ref h0), (1, .int a), (2, .int b)]) hx hb d_M_quotient_40 hl (by decide) rfl (fun ls hl => ?_)
    refine lv_lconst (v := 0) hx hb d_M_quotient_42 (by decide) ?_
    refine lv_lstore (lv' := [(7, .long 0), (5, .long v37), (3, .long v31), (0, .ref h0), (1, .int a), (2, .int b)]) hx hb d_M_quotient_43 hl (by decide) rfl (fun ls hl => ?_)
    refine lv_lconst (v := 0) hx hb d_M_quotient_45 (by decide) ?_
    refine lv_lstore (lv' := [(9, .long 0), (7, .long 0), (5, .long v37), (3, .long v31), (0, .ref h0), (1, .int a), (2, .int b)]) hx hb d_M_quotient_46 hl (by decide) rfl (fun ls hl => ?_)
    refine lv_bipush (v := 47) hx hb d_M_quotient_48 (by decide) ?_
    refine lv_istore (lv' := [(11, .int 47), (9, .long 0), (7, .long 0), (5, .long v37), (3, .long v31), (0, .ref h0), (1, .int a), (2, .int b)]) hx hb d_M_quotient_50 hl (by decide) rfl (fun ls hl => ?_)
    obtain ⟨N, hN⟩ : ∃ n, n = a.toInt.natAbs := ⟨_, rfl⟩
    obtain ⟨D, hDx⟩ : ∃ n, n = b.toInt.natAbs := ⟨_, rfl⟩
    have hab := fx_i32 a
    have hbb := fx_i32 b
    have hNb : N ≤ 2147483648 := by omega
    have hDb : D ≤ 2147483648 := by omega
    have hD0 : 0 < D := by have := fx_ne0 b c6; rw [Int32.toInt_toInt64] at this; omega
    have fn : v31 = lN N := uN_inj (by rw [e31, e30, Int32.toInt_toInt64, ← hN]; exact (wb_tn (n := N) (by omega)).symm)
    have fd : v37 = lN D := uN_inj (by rw [e37, e36, Int32.toInt_toInt64, ← hDx]; exact (wb_tn (n := D) (by omega)).symm)
    refine lp_W (nL := 12) (J := 52) (fun z : Int64 × Int64 × Int32 => [(11, .int z.2.2), (9, .long z.2.1), (7, .long z.1), (5, .long v37), (3, .long v31), (0, .ref h0), (1, .int a), (2, .int b)]) (mq_I N D) (fun n z hI ih ls hl => ?_) 48 (0, 0, 47) (mq_0 hNb hD0) (lv_sub hl [0, 1, 2, 3, 4, 5, 6, 7] rfl)
    obtain ⟨q, rest, k⟩ := z
    obtain ⟨hk, hn, Q, R, hq, hr9, hR, hQ⟩ := hI
    dsimp only at hk hq hr9
    have hQb := mq_big hNb hD0 hQ
    have hl : lv_has ls 12 [(11, .int k), (9, .long rest), (7, .long q), (5, .long v37), (3, .long v31), (0, .ref h0), (1, .int a), (2, .int b)] := hl
    refine lv_iload hx hb d_M_quotient_52 (lv_at hl 0 rfl) ?_
    refine lv_if_lt (tgt := 117) hx hb d_M_quotient_54 (by decide) (fun c54 => ?_) (fun c54 => ?_)
    · skip
      have z := dn_neg (by omega) hk c54
      subst z
      have hQ0 : 65536 * N = Q * D + R := by rw [Nat.pow_zero, Nat.div_one] at hQ; exact hQ
      have hVx := mq_val c6 hN hDx hR hQ0
      refine lv_iload_n hx hb d_M_quotient_117 rfl (lv_at hl 6 rfl) ?_
      refine jn_i (J := 126) (rest := []) (fun v => v = if a.toInt < 0 then 1 else 0) (fun v126 e126 => ?_) (fun K126 => ?_)
      · skip
        refine lv_iload_n hx hb d_M_quotient_126 rfl (lv_at hl 7 rfl) ?_
        refine jn_i (J := 135) (rest := [.int v126]) (fun v => v = if b.toInt < 0 then 1 else 0) (fun v135 e135 => ?_) (fun K135 => ?_)
        · skip
          have hsg := mq_s e126 e135
          refine lv_icmp_eq (tgt := 162) hx hb d_M_quotient_135 (by decide) (fun c135 => ?_) (fun c135 => ?_)
          · skip
            have hV : q.toInt = (65536 * a.toInt).fdiv b.toInt := by first | exact mq_p hVx hq (by omega) (hsg.mp c135) | exact mq_z c6 hN hDx hR hQ0 hq c139
            refine lv_lload hx hb d_M_quotient_162 (lv_at hl 2 rfl) ?_
            refine lv_ldc2 (v := 2147483647) hx hb hown (hts (.constantLong R_M 44 2147483647) (List.mem_cons_of_mem _ (tm (by decide +kernel) rfl))) d_M_quotient_164 ?_
            refine W.lcmp hx hb d_M_quotient_167 ?_
            refine lv_if_le (tgt := 176) hx hb d_M_quotient_168 (by decide) (fun c168 => ?_) (fun c168 => ?_)
            · skip
              have c168 := (lg_cmp_le _ _).mp c168
              refine lv_lload hx hb d_M_quotient_176 (lv_at hl 2 rfl) ?_
              refine lv_ldc2 (v := (-2147483648)) hx hb hown (hts (.constantLong R_M 46 (-2147483648)) (List.mem_cons_of_mem _ (tm (by decide +kernel) rfl))) d_M_quotient_178 ?_
              refine W.lcmp hx hb d_M_quotient_181 ?_
              refine lv_if_ge (tgt := 190) hx hb d_M_quotient_182 (by decide) (fun c182 => ?_) (fun c182 => ?_)
              · skip
                have c182 := (lg_cmp_ge _ _).mp c182
                refine lv_lload hx hb d_M_quotient_190 (lv_at hl 2 rfl) ?_
                refine lv_l2i hx hb d_M_quotient_192 rfl ?_
                refine lv_topi (fun v192 e192 => ?_)
                refine W.iret (v := v192) hx hb hr (fun t ht hW => ⟨⟨_, (0, up, lo, le), rfl, ?_, by rw [ht]; exact hP, va_K.moved hW.alike hK, hD⟩, hS.F ht⟩) hS.2.2 d_M_quotient_193
                show v192.toInt = sp_quot a.toInt b.toInt
                exact mq_fin c6 (cl_3 hV c168 c182 e192)
              · skip
                have c182 := (not_congr (lg_cmp_ge _ _)).mp c182
                refine lv_ldc (v := (-2147483648)) hx hb hown (hts (.constant R_M 43 (-2147483648)) (List.mem_cons_of_mem _ (tm (by decide +kernel) rfl))) d_M_quotient_185 ?_
                refine lv_goto (tgt := 193) hx hb d_M_quotient_187 (by decide) ?_
                refine W.iret (v := (-2147483648)) hx hb hr (fun t ht hW => ⟨⟨_, (0, up, lo, le), rfl, ?_, by rw [ht]; exact hP, va_K.moved hW.alike hK, hD⟩, hS.F ht⟩) hS.2.2 d_M_quotient_193
                show (-2147483648 : Int32).toInt = sp_quot a.toInt b.toInt
                exact mq_fin c6 (cl_2 hV c182)
            · skip
              have c168 := (not_congr (lg_cmp_le _ _)).mp c168
              refine lv_ldc (v := 2147483647) hx hb hown (hts (.constant R_M 42 2147483647) (List.mem_cons_of_mem _ (tm (by decide +kernel) rfl))) d_M_quotient_171 ?_
              refine lv_goto (tgt := 193) hx hb d_M_quotient_173 (by decide) ?_
              refine W.iret (v := 2147483647) hx hb hr (fun t ht hW => ⟨⟨_, (0, up, lo, le), rfl, ?_, by rw [ht]; exact hP, va_K.moved hW.alike hK, hD⟩, hS.F ht⟩) hS.2.2 d_M_quotient_193
              show (2147483647 : Int32).toInt = sp_quot a.toInt b.toInt
              exact mq_fin c6 (cl_1 hV c168)
          · skip
            refine lv_iload_n hx hb d_M_quotient_138 rfl (lv_at hl 6 rfl) ?_
            refine lv_if_eq (tgt := 162) hx hb d_M_quotient_139 (by decide) (fun c139 => ?_) (fun c139 => ?_)
            · skip
              have hV : q.toInt = (65536 * a.toInt).fdiv b.toInt := by first | exact mq_p hVx hq (by omega) (hsg.mp c135) | exact mq_z c6 hN hDx hR hQ0 hq c139
              refine lv_lload hx hb d_M_quotient_162 (lv_at hl 2 rfl) ?_
              refine lv_ldc2 (v := 2147483647) hx hb hown (hts (.constantLong R_M 44 2147483647) (List.mem_cons_of_mem _ (tm (by decide +kernel) rfl))) d_M_quotient_164 ?_
              refine W.lcmp hx hb d_M_quotient_167 ?_
              refine lv_if_le (tgt := 176) hx hb d_M_quotient_168 (by decide) (fun c168 => ?_) (fun c168 => ?_)
              · skip
                have c168 := (lg_cmp_le _ _).mp c168
                refine lv_lload hx hb d_M_quotient_176 (lv_at hl 2 rfl) ?_
                refine lv_ldc2 (v := (-2147483648)) hx hb hown (hts (.constantLong R_M 46 (-2147483648)) (List.mem_cons_of_mem _ (tm (by decide +kernel) rfl))) d_M_quotient_178 ?_
                refine W.lcmp hx hb d_M_quotient_181 ?_
                refine lv_if_ge (tgt := 190) hx hb d_M_quotient_182 (by decide) (fun c182 => ?_) (fun c182 => ?_)
                · skip
                  have c182 := (lg_cmp_ge _ _).mp c182
                  refine lv_lload hx hb d_M_quotient_190 (lv_at hl 2 rfl) ?_
                  refine lv_l2i hx hb d_M_quotient_192 rfl ?_
                  refine lv_topi (fun v192 e192 => ?_)
                  refine W.iret (v := v192) hx hb hr (fun t ht hW => ⟨⟨_, (0, up, lo, le), rfl, ?_, by rw [ht]; exact hP, va_K.moved hW.alike hK, hD⟩, hS.F ht⟩) hS.2.2 d_M_quotient_193
                  show v192.toInt = sp_quot a.toInt b.toInt
                  exact mq_fin c6 (cl_3 hV c168 c182 e192)
                · skip
                  have c182 := (not_congr (lg_cmp_ge _ _)).mp c182
                  refine lv_ldc (v := (-2147483648)) hx hb hown (hts (.constant R_M 43 (-2147483648)) (List.mem_cons_of_mem _ (tm (by decide +kernel) rfl))) d_M_quotient_185 ?_
                  refine lv_goto (tgt := 193) hx hb d_M_quotient_187 (by decide) ?_
                  refine W.iret (v := (-2147483648)) hx hb hr (fun t ht hW => ⟨⟨_, (0, up, lo, le), rfl, ?_, by rw [ht]; exact hP, va_K.moved hW.alike hK, hD⟩, hS.F ht⟩) hS.2.2 d_M_quotient_193
                  show (-2147483648 : Int32).toInt = sp_quot a.toInt b.toInt
                  exact mq_fin c6 (cl_2 hV c182)
              · skip
                have c168 := (not_congr (lg_cmp_le _ _)).mp c168
                refine lv_ldc (v := 2147483647) hx hb hown (hts (.constant R_M 42 2147483647) (List.mem_cons_of_mem _ (tm (by decide +kernel) rfl))) d_M_quotient_171 ?_
                refine lv_goto (tgt := 193) hx hb d_M_quotient_173 (by decide) ?_
                refine W.iret (v := 2147483647) hx hb hr (fun t ht hW => ⟨⟨_, (0, up, lo, le), rfl, ?_, by rw [ht]; exact hP, va_K.moved hW.alike hK, hD⟩, hS.F ht⟩) hS.2.2 d_M_quotient_193
                show (2147483647 : Int32).toInt = sp_quot a.toInt b.toInt
                exact mq_fin c6 (cl_1 hV c168)
            · skip
              refine lv_lload hx hb d_M_quotient_142 (lv_at hl 1 rfl) ?_
              refine lv_lconst (v := 0) hx hb d_M_quotient_144 (by decide) ?_
              refine W.lcmp hx hb d_M_quotient_145 ?_
              refine lv_if_le (tgt := 157) hx hb d_M_quotient_146 (by decide) (fun c146 => ?_) (fun c146 => ?_)
              · skip
                have c146 := (lg_cmp_le _ _).mp c146
                refine lv_lload hx hb d_M_quotient_157 (lv_at hl 2 rfl) ?_
                refine lv_lneg hx hb d_M_quotient_159 ?_
                refine lv_topl (fun v159 e159 => ?_)
                refine lv_lstore (lv' := [(7, .long v159), (11, .int k), (9, .long rest), (5, .long v37), (3, .long v31), (0, .ref h0), (1, .int a), (2, .int b)]) hx hb d_M_quotient_160 hl (by decide) rfl (fun ls hl => ?_)
                have hV : v159.toInt = (65536 * a.toInt).fdiv b.toInt := by exact mq_n0 hVx hq hQb hr9 (by omega) (fun z => c135 (hsg.mpr z)) c146 e159
                refine lv_lload hx hb d_M_quotient_162 (lv_at hl 0 rfl) ?_
                refine lv_ldc2 (v := 2147483647) hx hb hown (hts (.constantLong R_M 44 2147483647) (List.mem_cons_of_mem _ (tm (by decide +kernel) rfl))) d_M_quotient_164 ?_
                refine W.lcmp hx hb d_M_quotient_167 ?_
                refine lv_if_le (tgt := 176) hx hb d_M_quotient_168 (by decide) (fun c168 => ?_) (fun c168 => ?_)
                · skip
                  have c168 := (lg_cmp_le _ _).mp c168
                  refine lv_lload hx hb d_M_quotient_176 (lv_at hl 0 rfl) ?_
                  refine lv_ldc2 (v := (-2147483648)) hx hb hown (hts (.constantLong R_M 46 (-2147483648)) (List.mem_cons_of_mem _ (tm (by decide +kernel) rfl))) d_M_quotient_178 ?_
                  refine W.lcmp hx hb d_M_quotient_181 ?_
                  refine lv_if_ge (tgt := 190) hx hb d_M_quotient_182 (by decide) (fun c182 => ?_) (fun c182 => ?_)
                  · skip
                    have c182 := (lg_cmp_ge _ _).mp c182
                    refine lv_lload hx hb d_M_quotient_190 (lv_at hl 0 rfl) ?_
                    refine lv_l2i hx hb d_M_quotient_192 rfl ?_
                    refine lv_topi (fun v192 e192 => ?_)
                    refine W.iret (v := v192) hx hb hr (fun t ht hW => ⟨⟨_, (0, up, lo, le), rfl, ?_, by rw [ht]; exact hP, va_K.moved hW.alike hK, hD⟩, hS.F ht⟩) hS.2.2 d_M_quotient_193
                    show v192.toInt = sp_quot a.toInt b.toInt
                    exact mq_fin c6 (cl_3 hV c168 c182 e192)
                  · skip
                    have c182 := (not_congr (lg_cmp_ge _ _)).mp c182
                    refine lv_ldc (v := (-2147483648)) hx hb hown (hts (.constant R_M 43 (-2147483648)) (List.mem_cons_of_mem _ (tm (by decide +kernel) rfl))) d_M_quotient_185 ?_
                    refine lv_goto (tgt := 193) hx hb d_M_quotient_187 (by decide) ?_
                    refine W.iret (v := (-2147483648)) hx hb hr (fun t ht hW => ⟨⟨_, (0, up, lo, le), rfl, ?_, by rw [ht]; exact hP, va_K.moved hW.alike hK, hD⟩, hS.F ht⟩) hS.2.2 d_M_quotient_193
                    show (-2147483648 : Int32).toInt = sp_quot a.toInt b.toInt
                    exact mq_fin c6 (cl_2 hV c182)
                · skip
                  have c168 := (not_congr (lg_cmp_le _ _)).mp c168
                  refine lv_ldc (v := 2147483647) hx hb hown (hts (.constant R_M 42 2147483647) (List.mem_cons_of_mem _ (tm (by decide +kernel) rfl))) d_M_quotient_171 ?_
                  refine lv_goto (tgt := 193) hx hb d_M_quotient_173 (by decide) ?_
                  refine W.iret (v := 2147483647) hx hb hr (fun t ht hW => ⟨⟨_, (0, up, lo, le), rfl, ?_, by rw [ht]; exact hP, va_K.moved hW.alike hK, hD⟩, hS.F ht⟩) hS.2.2 d_M_quotient_193
                  show (2147483647 : Int32).toInt = sp_quot a.toInt b.toInt
                  exact mq_fin c6 (cl_1 hV c168)
              · skip
                have c146 := (not_congr (lg_cmp_le _ _)).mp c146
                refine lv_lload hx hb d_M_quotient_149 (lv_at hl 2 rfl) ?_
                refine lv_lneg hx hb d_M_quotient_151 ?_
                refine lv_topl (fun v151 e151 => ?_)
                refine lv_lconst (v := 1) hx hb d_M_quotient_152 (by decide) ?_
                refine lv_lsub hx hb d_M_quotient_153 ?_
                refine lv_topl (fun v153 e153 => ?_)
                refine lv_goto (tgt := 160) hx hb d_M_quotient_154 (by decide) ?_
                refine lv_lstore (lv' := [(7, .long v153), (11, .int k), (9, .long rest), (5, .long v37), (3, .long v31), (0, .ref h0), (1, .int a), (2, .int b)]) hx hb d_M_quotient_160 hl (by decide) rfl (fun ls hl => ?_)
                have hV : v153.toInt = (65536 * a.toInt).fdiv b.toInt := by exact mq_n1 hVx hq hQb hr9 (by omega) (fun z => c135 (hsg.mpr z)) c146 e151 e153
                refine lv_lload hx hb d_M_quotient_162 (lv_at hl 0 rfl) ?_
                refine lv_ldc2 (v := 2147483647) hx hb hown (hts (.constantLong R_M 44 2147483647) (List.mem_cons_of_mem _ (tm (by decide +kernel) rfl))) d_M_quotient_164 ?_
                refine W.lcmp hx hb d_M_quotient_167 ?_
                refine lv_if_le (tgt := 176) hx hb d_M_quotient_168 (by decide) (fun c168 => ?_) (fun c168 => ?_)
                · skip
                  have c168 := (lg_cmp_le _ _).mp c168
                  refine lv_lload hx hb d_M_quotient_176 (lv_at hl 0 rfl) ?_
                  refine lv_ldc2 (v := (-2147483648)) hx hb hown (hts (.constantLong R_M 46 (-2147483648)) (List.mem_cons_of_mem _ (tm (by decide +kernel) rfl))) d_M_quotient_178 ?_
                  refine W.lcmp hx hb d_M_quotient_181 ?_
                  refine lv_if_ge (tgt := 190) hx hb d_M_quotient_182 (by decide) (fun c182 => ?_) (fun c182 => ?_)
                  · skip
                    have c182 := (lg_cmp_ge _ _).mp c182
                    refine lv_lload hx hb d_M_quotient_190 (lv_at hl 0 rfl) ?_
                    refine lv_l2i hx hb d_M_quotient_192 rfl ?_
                    refine lv_topi (fun v192 e192 => ?_)
                    refine W.iret (v := v192) hx hb hr (fun t ht hW => ⟨⟨_, (0, up, lo, le), rfl, ?_, by rw [ht]; exact hP, va_K.moved hW.alike hK, hD⟩, hS.F ht⟩) hS.2.2 d_M_quotient_193
                    show v192.toInt = sp_quot a.toInt b.toInt
                    exact mq_fin c6 (cl_3 hV c168 c182 e192)
                  · skip
                    have c182 := (not_congr (lg_cmp_ge _ _)).mp c182
                    refine lv_ldc (v := (-2147483648)) hx hb hown (hts (.constant R_M 43 (-2147483648)) (List.mem_cons_of_mem _ (tm (by decide +kernel) rfl))) d_M_quotient_185 ?_
                    refine lv_goto (tgt := 193) hx hb d_M_quotient_187 (by decide) ?_
                    refine W.iret (v := (-2147483648)) hx hb hr (fun t ht hW => ⟨⟨_, (0, up, lo, le), rfl, ?_, by rw [ht]; exact hP, va_K.moved hW.alike hK, hD⟩, hS.F ht⟩) hS.2.2 d_M_quotient_193
                    show (-2147483648 : Int32).toInt = sp_quot a.toInt b.toInt
                    exact mq_fin c6 (cl_2 hV c182)
                · skip
                  have c168 := (not_congr (lg_cmp_le _ _)).mp c168
                  refine lv_ldc (v := 2147483647) hx hb hown (hts (.constant R_M 42 2147483647) (List.mem_cons_of_mem _ (tm (by decide +kernel) rfl))) d_M_quotient_171 ?_
                  refine lv_goto (tgt := 193) hx hb d_M_quotient_173 (by decide) ?_
                  refine W.iret (v := 2147483647) hx hb hr (fun t ht hW => ⟨⟨_, (0, up, lo, le), rfl, ?_, by rw [ht]; exact hP, va_K.moved hW.alike hK, hD⟩, hS.F ht⟩) hS.2.2 d_M_quotient_193
                  show (2147483647 : Int32).toInt = sp_quot a.toInt b.toInt
                  exact mq_fin c6 (cl_1 hV c168)
        · skip
          refine lv_if_ge (tgt := 134) hx hb d_M_quotient_127 (by decide) (fun c127 => ?_) (fun c127 => ?_)
          · skip
            refine lv_iconst (v := 0) hx hb d_M_quotient_134 (by decide) ?_
            exact K135 _ (by first | exact mq_sg0 c127 | exact mq_sg1 c127)
          · skip
            refine lv_iconst (v := 1) hx hb d_M_quotient_130 (by decide) ?_
            refine lv_goto (tgt := 135) hx hb d_M_quotient_131 (by decide) ?_
            exact K135 _ (by first | exact mq_sg0 c127 | exact mq_sg1 c127)
      · skip
        refine lv_if_ge (tgt := 125) hx hb d_M_quotient_118 (by decide) (fun c118 => ?_) (fun c118 => ?_)
        · skip
          refine lv_iconst (v := 0) hx hb d_M_quotient_125 (by decide) ?_
          exact K126 _ (by first | exact mq_sg0 c118 | exact mq_sg1 c118)
        · skip
          refine lv_iconst (v := 1) hx hb d_M_quotient_121 (by decide) ?_
          refine lv_goto (tgt := 126) hx hb d_M_quotient_122 (by decide) ?_
          exact K126 _ (by first | exact mq_sg0 c118 | exact mq_sg1 c118)
    · skip
      obtain ⟨j, rfl, hkj⟩ := dn_nn (by omega) hk c54
      refine lv_lload hx hb d_M_quotient_57 (lv_at hl 1 rfl) ?_
      refine lv_iconst (v := 1) hx hb d_M_quotient_59 (by decide) ?_
      refine lv_lshl hx hb d_M_quotient_60 rfl ?_
      refine lv_topl (fun v60 e60 => ?_)
      refine lv_iload hx hb d_M_quotient_61 (lv_at hl 0 rfl) ?_
      refine lv_bipush (v := 15) hx hb d_M_quotient_63 (by decide) ?_
      refine jn_l (J := 81) (rest := [.long v60]) (fun v => v = lN (mq_bit N j)) (fun v81 e81 => ?_) (fun K81 => ?_)
      · skip
        have e81x := e81
        have hbit : mq_bit N j < 2 := Nat.mod_lt _ (by decide)
        refine lv_lor hx hb d_M_quotient_81 ?_
        refine lv_topl (fun v81 e81 => ?_)
        have f81 := mq_rest hr9 (by omega) hbit e81x e60 e81
        refine lv_lstore (lv' := [(9, .long v81), (11, .int k), (7, .long q), (5, .long v37), (3, .long v31), (0, .ref h0), (1, .int a), (2, .int b)]) hx hb d_M_quotient_82 hl (by decide) rfl (fun ls hl => ?_)
        refine lv_lload hx hb d_M_quotient_84 (lv_at hl 2 rfl) ?_
        refine lv_iconst (v := 1) hx hb d_M_quotient_86 (by decide) ?_
        refine lv_lshl hx hb d_M_quotient_87 rfl ?_
        refine lv_topl (fun v87 e87 => ?_)
        have f87 := mq_q hq hQb e87
        refine lv_lstore (lv' := [(7, .long v87), (9, .long v81), (11, .int k), (5, .long v37), (3, .long v31), (0, .ref h0), (1, .int a), (2, .int b)]) hx hb d_M_quotient_88 hl (by decide) rfl (fun ls hl => ?_)
        refine lv_lload hx hb d_M_quotient_90 (lv_at hl 1 rfl) ?_
        refine lv_lload hx hb d_M_quotient_92 (lv_at hl 3 rfl) ?_
        refine W.lcmp hx hb d_M_quotient_94 ?_
        refine lv_if_lt (tgt := 111) hx hb d_M_quotient_95 (by decide) (fun c95 => ?_) (fun c95 => ?_)
        · skip
          have c95 := (lg_cmp_lt _ _).mp c95
          have cx : 2 * R + mq_bit N j < D := by rw [f81, fd, pk_lLT (by omega) (by omega)] at c95; exact c95
          obtain ⟨v111, e111⟩ : ∃ y : Int32, y = k + Int32.ofInt (-1) := ⟨_, rfl⟩
          refine lv_iinc (v := v111) (lv' := [(11, .int v111), (7, .long v87), (9, .long v81), (5, .long v37), (3, .long v31), (0, .ref h0), (1, .int a), (2, .int b)]) hx hb d_M_quotient_111 hl (k := 2) rfl (by rw [e111]) (by decide) rfl (fun ls hl => ?_)
          refine lv_goto (tgt := 52) hx hb d_M_quotient_114 (by decide) ?_
          exact ih _ (v87, v81, v111) (Nat.lt_succ_self _) (mq_a hkj hn hQ f81 f87.1 cx e111) _ (lv_sub hl [0, 2, 1, 3, 4, 5, 6, 7] rfl)
        · skip
          have c95 := (not_congr (lg_cmp_lt _ _)).mp c95
          have cx : ¬ 2 * R + mq_bit N j < D := fun z => c95 (by rw [f81, fd, pk_lLT (by omega) (by omega)]; exact z)
          refine lv_lload hx hb d_M_quotient_98 (lv_at hl 1 rfl) ?_
          refine lv_lload hx hb d_M_quotient_100 (lv_at hl 3 rfl) ?_
          refine lv_lsub hx hb d_M_quotient_102 ?_
          refine lv_topl (fun v102 e102 => ?_)
          refine lv_lstore (lv' := [(9, .long v102), (7, .long v87), (11, .int k), (5, .long v37), (3, .long v31), (0, .ref h0), (1, .int a), (2, .int b)]) hx hb d_M_quotient_103 hl (by decide) rfl (fun ls hl => ?_)
          refine lv_lload hx hb d_M_quotient_105 (lv_at hl 1 rfl) ?_
          refine lv_lconst (v := 1) hx hb d_M_quotient_107 (by decide) ?_
          refine lv_lor hx hb d_M_quotient_108 ?_
          refine lv_topl (fun v108 e108 => ?_)
          refine lv_lstore (lv' := [(7, .long v108), (9, .long v102), (11, .int k), (5, .long v37), (3, .long v31), (0, .ref h0), (1, .int a), (2, .int b)]) hx hb d_M_quotient_109 hl (by decide) rfl (fun ls hl => ?_)
          obtain ⟨v111, e111⟩ : ∃ y : Int32, y = k + Int32.ofInt (-1) := ⟨_, rfl⟩
          refine lv_iinc (v := v111) (lv' := [(11, .int v111), (7, .long v108), (9, .long v102), (5, .long v37), (3, .long v31), (0, .ref h0), (1, .int a), (2, .int b)]) hx hb d_M_quotient_111 hl (k := 2) rfl (by rw [e111]) (by decide) rfl (fun ls hl => ?_)
          refine lv_goto (tgt := 52) hx hb d_M_quotient_114 (by decide) ?_
          exact ih _ (v108, v102, v111) (Nat.lt_succ_self _) (mq_b hkj hn hR hQ fd f81 (by rw [e108]; exact f87.2) cx e102 e111) _ (lv_sub hl [0, 2, 1, 3, 4, 5, 6, 7] rfl)
      · skip
        refine lv_icmp_le (tgt := 80) hx hb d_M_quotient_65 (by decide) (fun c65 => ?_) (fun c65 => ?_)
        · skip
          refine lv_lconst (v := 0) hx hb d_M_quotient_80 (by decide) ?_
          exact K81 _ (by first | exact mq_hi fn hNb hkj (by omega) c65 e73 e74 e76 | exact mq_lo hkj (by omega) c65)
        · skip
          refine lv_lload_n hx hb d_M_quotient_68 rfl (lv_at hl 4 rfl) ?_
          refine lv_iload hx hb d_M_quotient_69 (lv_at hl 0 rfl) ?_
          refine lv_bipush (v := 16) hx hb d_M_quotient_71 (by decide) ?_
          refine lv_isub hx hb d_M_quotient_73 ?_
          refine lv_topi (fun v73 e73 => ?_)
          refine lv_lshr hx hb d_M_quotient_74 rfl ?_
          refine lv_topl (fun v74 e74 => ?_)
          refine lv_lconst (v := 1) hx hb d_M_quotient_75 (by decide) ?_
          refine lv_land hx hb d_M_quotient_76 ?_
          refine lv_topl (fun v76 e76 => ?_)
          refine lv_goto (tgt := 81) hx hb d_M_quotient_77 (by decide) ?_
          exact K81 _ (by first | exact mq_hi fn hNb hkj (by omega) c65 e73 e74 e76 | exact mq_lo hkj (by omega) c65)
  · skip
    refine lv_iload_n hx hb d_M_quotient_9 rfl (lv_at hl 1 rfl) ?_
    refine lv_if_le (tgt := 18) hx hb d_M_quotient_10 (by decide) (fun c10 => ?_) (fun c10 => ?_)
    · skip
      refine lv_iload_n hx hb d_M_quotient_18 rfl (lv_at hl 1 rfl) ?_
      refine lv_if_ge (tgt := 27) hx hb d_M_quotient_19 (by decide) (fun c19 => ?_) (fun c19 => ?_)
      · skip
        refine lv_iconst (v := 0) hx hb d_M_quotient_27 (by decide) ?_
        refine W.iret (v := 0) hx hb hr (fun t ht hW => ⟨⟨_, (0, up, lo, le), rfl, ?_, by rw [ht]; exact hP, va_K.moved hW.alike hK, hD⟩, hS.F ht⟩) hS.2.2 d_M_quotient_28
        show (0 : Int32).toInt = sp_quot a.toInt b.toInt
        exact fx_q00 a b c6 c10 c19
      · skip
        refine lv_ldc (v := (-2147483648)) hx hb hown (hts (.constant R_M 43 (-2147483648)) (List.mem_cons_of_mem _ (tm (by decide +kernel) rfl))) d_M_quotient_22 ?_
        refine lv_goto (tgt := 28) hx hb d_M_quotient_24 (by decide) ?_
        refine W.iret (v := (-2147483648)) hx hb hr (fun t ht hW => ⟨⟨_, (0, up, lo, le), rfl, ?_, by rw [ht]; exact hP, va_K.moved hW.alike hK, hD⟩, hS.F ht⟩) hS.2.2 d_M_quotient_28
        show (-2147483648 : Int32).toInt = sp_quot a.toInt b.toInt
        exact fx_q0n a b c6 c19
    · skip
      refine lv_ldc (v := 2147483647) hx hb hown (hts (.constant R_M 42 2147483647) (List.mem_cons_of_mem _ (tm (by decide +kernel) rfl))) d_M_quotient_13 ?_
      refine lv_goto (tgt := 28) hx hb d_M_quotient_15 (by decide) ?_
      refine W.iret (v := 2147483647) hx hb hr (fun t ht hW => ⟨⟨_, (0, up, lo, le), rfl, ?_, by rw [ht]; exact hP, va_K.moved hW.alike hK, hD⟩, hS.F ht⟩) hS.2.2 d_M_quotient_28
      show (2147483647 : Int32).toInt = sp_quot a.toInt b.toInt
      exact fx_q0p a b c6 c10
set_option maxHeartbeats 4000000 in
set_option maxRecDepth 100000 in
theorem c_M_fromHalf (l : Launch) (dC : Nat → ClassId) (dI : Nat → Nat → Nat) (h0 sz : Nat) (th : Int32) (up lo le : Int64) (h : Int32)  : Met l y_M_fromHalf w_M_fromHalf ({ frames := 1, cells := 0, slots := 0, locals := 30 }) (va_Pc [.ref h0, .int h] (fun U => U.heap.size = sz ∧ va_P (dC, dI) classes [(h0, .inr (1, [.int th, .long up, .long lo, .long le]))] U.heap ∧ va_K (dC, dI) classes [] U ∧ va_D (fun _ => True) [(h0, .inr (1, [.int th, .long up, .long lo, .long le]))])) (va_Qi (fun (r : Int32) (u : MS) => r.toInt = sp_fh h.toBitVec.toNat) (at_M dC dI (va_A [(h0, .inr (1, [.int th, .long up, .long lo, .long le]))] sz) h0) (va_A [(h0, .inr (1, [.int th, .long up, .long lo, .long le]))] sz)) 0 0 (va_A [(h0, .inr (1, [.int th, .long up, .long lo, .long le]))] sz) := by
  refine Met.ofW (cc := b_M_fromHalf) (maxL := 7) (ret := some .int) (by decide) rfl ?_
  intro p e s m args below meth c s₁ B hml hv
  obtain ⟨rfl, hsz, hP, hK, hD0⟩ := hv
  have hx := B.exec
  have hb := B.bytes
  have hr := B.returns
  have hts := atoms_spec (ws := w_M_fromHalf) B.pre
  have hown : s.vm.findClass R_M = some m.cls := findClass_of_methodNamed B.named
  have hlocks := B.notSynchronized
  subst hsz
  have hD := hD0.self (sz := s.heap.size)
  generalize hAe : va_A [(h0, .inr (1, [.int th, .long up, .long lo, .long le]))] s.heap.size = A at hD ⊢
  have hA : ∀ q : Nat, s.heap.size ≤ q → A q := fun q h => by rw [← hAe]; exact Or.inr h
  have hS : va_S A s.heap s.heap [] := va_S.rf
  have hP : va_P (dC, dI) classes [(h0, .inr (1, [.int th, .long up, .long lo, .long le]))] s.heap := hP
  have hl := lv_entry ([.ref h0, .int h]) (n := 7) (Nat.le_of_ble_eq_true rfl)
  rw [lg_entry_eq]
  generalize (lg_sl ([.ref h0, .int h]) ++ List.replicate (7 - (lg_sl ([.ref h0, .int h])).length) Slot.unset).toArray = ls at hl ⊢
  have hl : lv_has ls 7 [(0, .ref h0), (1, .int h)] := hl
  refine lv_aload_n hx hb d_M_fromHalf_0 rfl (lv_at hl 0 rfl) ?_
  refine lv_iconst (v := 0) hx hb d_M_fromHalf_1 (by decide) ?_
  refine va_put (D := (dC, dI)) (ci := 1) (v := .int 0) (ty := .int) (C := R_M) (T := F_M) (N := 4) hx hb hts (fun w h => List.mem_cons_of_mem _ (i_M w h)) t_M t_M_ok n_M hown hK hP hD hS 0 rfl rfl 0 (by decide) (hts (.fieldLink R_M 7 R_M "thrown" "I") (List.mem_cons_of_mem _ (tm (by decide +kernel) rfl))) (fun _ h9 => h9) rfl (by decide +kernel) rfl rfl (Nat.le_of_ble_eq_true rfl) d_M_fromHalf_2 (fun H locs hP hD hS => ?_)
  have hP : va_P (dC, dI) classes [(h0, .inr (1, [.int 0, .long up, .long lo, .long le]))] H := hP
  have hD : va_D A [(h0, .inr (1, [.int 0, .long up, .long lo, .long le]))] := hD
  refine lv_iload_n hx hb d_M_fromHalf_5 rfl (lv_at hl 1 rfl) ?_
  refine lv_bipush (v := 15) hx hb d_M_fromHalf_6 (by decide) ?_
  refine lv_ishr hx hb d_M_fromHalf_8 ?_
  refine lv_topi (fun v8 e8 => ?_)
  refine lv_iconst (v := 1) hx hb d_M_fromHalf_9 (by decide) ?_
  refine lv_iand hx hb d_M_fromHalf_10 ?_
  refine lv_topi (fun v10 e10 => ?_)
  refine lv_iconst (v := 1) hx hb d_M_fromHalf_11 (by decide) ?_
  refine jn_i (J := 20) (rest := []) (fun v => v = if v10 = 1 then 1 else 0) (fun v20 e20 => ?_) (fun K20 => ?_)
  · skip
    refine lv_istore_n (lv' := [(2, .int v20), (0, .ref h0), (1, .int h)]) hx hb d_M_fromHalf_20 rfl hl (by decide) rfl (fun ls hl => ?_)
    have f20 := mh_20 (mh_s e8 e10) e20
    refine lv_iload_n hx hb d_M_fromHalf_21 rfl (lv_at hl 2 rfl) ?_
    refine lv_bipush (v := 10) hx hb d_M_fromHalf_22 (by decide) ?_
    refine lv_ishr hx hb d_M_fromHalf_24 ?_
    refine lv_topi (fun v24 e24 => ?_)
    refine lv_bipush (v := 31) hx hb d_M_fromHalf_25 (by decide) ?_
    refine lv_iand hx hb d_M_fromHalf_27 ?_
    refine lv_topi (fun v27 e27 => ?_)
    have f27 := fh_e h v24 v27 e24 e27
    refine lv_bipush (v := 31) hx hb d_M_fromHalf_28 (by decide) ?_
    refine lv_icmp_ne (tgt := 57) hx hb d_M_fromHalf_30 (by decide) (fun c30 => ?_) (fun c30 => ?_)
    · skip
      refine lv_iload_n hx hb d_M_fromHalf_57 rfl (lv_at hl 0 rfl) ?_
      refine jn_l (J := 73) (rest := []) (fun v => v.toInt * 2 = sp_hZ h.toBitVec.toNat * 2 ^ (max (h.toBitVec.toNat / 1024 % 32) 1)) (fun v73 e73 => ?_) (fun K73 => ?_)
      · skip
        refine lv_lstore_n (lv' := [(3, .long v73), (2, .int v20), (0, .ref h0), (1, .int h)]) hx hb d_M_fromHalf_73 rfl hl (by decide) rfl (fun ls hl => ?_)
        refine lv_lload_n hx hb d_M_fromHalf_74 rfl (lv_at hl 0 rfl) ?_
        refine lv_bipush (v := 8) hx hb d_M_fromHalf_75 (by decide) ?_
        refine lv_lshr hx hb d_M_fromHalf_77 rfl ?_
        refine lv_topl (fun v77 e77 => ?_)
        have hV := mh_sh e73 e77
        refine lv_lstore (lv' := [(5, .long v77), (3, .long v73), (2, .int v20), (0, .ref h0), (1, .int h)]) hx hb d_M_fromHalf_78 hl (by decide) rfl (fun ls hl => ?_)
        refine lv_lload hx hb d_M_fromHalf_80 (lv_at hl 0 rfl) ?_
        refine lv_ldc2 (v := 2147483647) hx hb hown (hts (.constantLong R_M 44 2147483647) (List.mem_cons_of_mem _ (tm (by decide +kernel) rfl))) d_M_fromHalf_82 ?_
        refine W.lcmp hx hb d_M_fromHalf_85 ?_
        refine lv_if_le (tgt := 94) hx hb d_M_fromHalf_86 (by decide) (fun c86 => ?_) (fun c86 => ?_)
        · skip
          have c86 := (lg_cmp_le _ _).mp c86
          refine lv_lload hx hb d_M_fromHalf_94 (lv_at hl 0 rfl) ?_
          refine lv_ldc2 (v := (-2147483648)) hx hb hown (hts (.constantLong R_M 46 (-2147483648)) (List.mem_cons_of_mem _ (tm (by decide +kernel) rfl))) d_M_fromHalf_96 ?_
          refine W.lcmp hx hb d_M_fromHalf_99 ?_
          refine lv_if_ge (tgt := 108) hx hb d_M_fromHalf_100 (by decide) (fun c100 => ?_) (fun c100 => ?_)
          · skip
            have c100 := (lg_cmp_ge _ _).mp c100
            refine lv_lload hx hb d_M_fromHalf_108 (lv_at hl 0 rfl) ?_
            refine lv_l2i hx hb d_M_fromHalf_110 rfl ?_
            refine lv_topi (fun v110 e110 => ?_)
            refine W.iret (v := v110) hx hb hr (fun t ht hW => ⟨⟨_, (0, up, lo, le), rfl, ?_, by rw [ht]; exact hP, va_K.moved hW.alike hK, hD⟩, hS.F ht⟩) hS.2.2 d_M_fromHalf_111
            show v110.toInt = sp_fh h.toBitVec.toNat
            exact by rw [sp_fh, if_neg (fun z => c30 ((fh_31 f27).mpr z)), sp_cut]; exact cl_3 hV c86 c100 e110
          · skip
            have c100 := (not_congr (lg_cmp_ge _ _)).mp c100
            refine lv_ldc (v := (-2147483648)) hx hb hown (hts (.constant R_M 43 (-2147483648)) (List.mem_cons_of_mem _ (tm (by decide +kernel) rfl))) d_M_fromHalf_103 ?_
            refine lv_goto (tgt := 111) hx hb d_M_fromHalf_105 (by decide) ?_
            refine W.iret (v := (-2147483648)) hx hb hr (fun t ht hW => ⟨⟨_, (0, up, lo, le), rfl, ?_, by rw [ht]; exact hP, va_K.moved hW.alike hK, hD⟩, hS.F ht⟩) hS.2.2 d_M_fromHalf_111
            show (-2147483648 : Int32).toInt = sp_fh h.toBitVec.toNat
            exact by rw [sp_fh, if_neg (fun z => c30 ((fh_31 f27).mpr z)), sp_cut]; exact cl_2 hV c100
        · skip
          have c86 := (not_congr (lg_cmp_le _ _)).mp c86
          refine lv_ldc (v := 2147483647) hx hb hown (hts (.constant R_M 42 2147483647) (List.mem_cons_of_mem _ (tm (by decide +kernel) rfl))) d_M_fromHalf_89 ?_
          refine lv_goto (tgt := 111) hx hb d_M_fromHalf_91 (by decide) ?_
          refine W.iret (v := 2147483647) hx hb hr (fun t ht hW => ⟨⟨_, (0, up, lo, le), rfl, ?_, by rw [ht]; exact hP, va_K.moved hW.alike hK, hD⟩, hS.F ht⟩) hS.2.2 d_M_fromHalf_111
          show (2147483647 : Int32).toInt = sp_fh h.toBitVec.toNat
          exact by rw [sp_fh, if_neg (fun z => c30 ((fh_31 f27).mpr z)), sp_cut]; exact cl_1 hV c86
      · skip
        refine lv_if_eq (tgt := 69) hx hb d_M_fromHalf_58 (by decide) (fun c58 => ?_) (fun c58 => ?_)
        · skip
          refine lv_iload_n hx hb d_M_fromHalf_69 rfl (lv_at hl 2 rfl) ?_
          refine vp_callSl (W.runS (As := [.int h]) (rest := []) ⟨hx, hb, hml, hown, hts⟩ (c_M_scaled l h ) (cwS 1 hts g_M_65 rfl rfl rfl (by decide +kernel) ⟨Nat.le_of_ble_eq_true rfl, Nat.le_of_ble_eq_true rfl⟩) preEq rfl rfl hl.1 rfl (lv_room (Nat.le_of_ble_eq_true rfl)) d_M_fromHalf_70 ⟨Nat.zero_le _, Nat.zero_le _⟩) (fun v70 e70 => ?_)
          try dsimp only at e70
          exact K73 _ (by first | exact mh_v0 f20 e70 c58 rfl | exact mh_v1 f20 e62 c58 e65)
        · skip
          refine lv_iload_n hx hb d_M_fromHalf_61 rfl (lv_at hl 2 rfl) ?_
          refine vp_callSl (W.runS (As := [.int h]) (rest := []) ⟨hx, hb, hml, hown, hts⟩ (c_M_scaled l h ) (cwS 1 hts g_M_65 rfl rfl rfl (by decide +kernel) ⟨Nat.le_of_ble_eq_true rfl, Nat.le_of_ble_eq_true rfl⟩) preEq rfl rfl hl.1 rfl (lv_room (Nat.le_of_ble_eq_true rfl)) d_M_fromHalf_62 ⟨Nat.zero_le _, Nat.zero_le _⟩) (fun v62 e62 => ?_)
          try dsimp only at e62
          refine lv_lneg hx hb d_M_fromHalf_65 ?_
          refine lv_topl (fun v65 e65 => ?_)
          refine lv_goto (tgt := 73) hx hb d_M_fromHalf_66 (by decide) ?_
          exact K73 _ (by first | exact mh_v0 f20 e70 c58 rfl | exact mh_v1 f20 e62 c58 e65)
    · skip
      refine lv_iload_n hx hb d_M_fromHalf_33 rfl (lv_at hl 2 rfl) ?_
      refine lv_sipush (v := 1023) hx hb d_M_fromHalf_34 (by decide) ?_
      refine lv_iand hx hb d_M_fromHalf_37 ?_
      refine lv_topi (fun v37 e37 => ?_)
      have f37 := fh_f h v37 e37
      refine lv_if_le (tgt := 45) hx hb d_M_fromHalf_38 (by decide) (fun c38 => ?_) (fun c38 => ?_)
      · skip
        refine lv_iload_n hx hb d_M_fromHalf_45 rfl (lv_at hl 0 rfl) ?_
        refine lv_if_eq (tgt := 54) hx hb d_M_fromHalf_46 (by decide) (fun c46 => ?_) (fun c46 => ?_)
        · skip
          refine lv_ldc (v := 2147483647) hx hb hown (hts (.constant R_M 42 2147483647) (List.mem_cons_of_mem _ (tm (by decide +kernel) rfl))) d_M_fromHalf_54 ?_
          refine W.iret (v := 2147483647) hx hb hr (fun t ht hW => ⟨⟨_, (0, up, lo, le), rfl, ?_, by rw [ht]; exact hP, va_K.moved hW.alike hK, hD⟩, hS.F ht⟩) hS.2.2 d_M_fromHalf_56
          show (2147483647 : Int32).toInt = sp_fh h.toBitVec.toNat
          exact by rw [sp_fh, if_pos ((fh_31 f27).mp c30), if_pos ((mh_f f37).mp c38), if_pos (f20.mp c46)]; decide
        · skip
          refine lv_ldc (v := (-2147483648)) hx hb hown (hts (.constant R_M 43 (-2147483648)) (List.mem_cons_of_mem _ (tm (by decide +kernel) rfl))) d_M_fromHalf_49 ?_
          refine lv_goto (tgt := 56) hx hb d_M_fromHalf_51 (by decide) ?_
          refine W.iret (v := (-2147483648)) hx hb hr (fun t ht hW => ⟨⟨_, (0, up, lo, le), rfl, ?_, by rw [ht]; exact hP, va_K.moved hW.alike hK, hD⟩, hS.F ht⟩) hS.2.2 d_M_fromHalf_56
          show (-2147483648 : Int32).toInt = sp_fh h.toBitVec.toNat
          exact by rw [sp_fh, if_pos ((fh_31 f27).mp c30), if_pos ((mh_f f37).mp c38), if_neg (fun z => c46 (f20.mpr z))]; decide
      · skip
        refine lv_iconst (v := 0) hx hb d_M_fromHalf_41 (by decide) ?_
        refine lv_goto (tgt := 56) hx hb d_M_fromHalf_42 (by decide) ?_
        refine W.iret (v := 0) hx hb hr (fun t ht hW => ⟨⟨_, (0, up, lo, le), rfl, ?_, by rw [ht]; exact hP, va_K.moved hW.alike hK, hD⟩, hS.F ht⟩) hS.2.2 d_M_fromHalf_56
        show (0 : Int32).toInt = sp_fh h.toBitVec.toNat
        exact by rw [sp_fh, if_pos ((fh_31 f27).mp c30), if_neg (fun z => c38 ((mh_f f37).mpr z))]; decide
  · skip
    refine lv_icmp_ne (tgt := 19) hx hb d_M_fromHalf_12 (by decide) (fun c12 => ?_) (fun c12 => ?_)
    · skip
      refine lv_iconst (v := 0) hx hb d_M_fromHalf_19 (by decide) ?_
      exact K20 _ (by first | (rw [if_pos c12]) | (rw [if_neg c12]))
    · skip
      refine lv_iconst (v := 1) hx hb d_M_fromHalf_15 (by decide) ?_
      refine lv_goto (tgt := 20) hx hb d_M_fromHalf_16 (by decide) ?_
      exact K20 _ (by first | (rw [if_pos c12]) | (rw [if_neg c12]))
