set_option maxHeartbeats 4000000 in
set_option maxRecDepth 100000 in
theorem c_F_cut (l : Launch) (x : Int64)  : Met l y_F_cut w_F_cut ({ frames := 1, cells := 0, slots := 0, locals := 23 }) (fun v _ => v = [.long x].toArray) (vp_Si (fun r => r.toInt = max (-2147483648) (min x.toInt 2147483647))) 0 0 (fun _ => False) := by
  refine Met.ofW (cc := b_F_cut) (maxL := 2) (ret := some .int) (by decide +kernel) rfl ?_
  intro p e s m args below meth c s₁ B hml hv
  subst hv
  have hx := B.exec
  have hb := B.bytes
  have hr := B.returns
  have hts := atoms_spec (ws := w_F_cut) B.pre
  have hown : s.vm.findClass R_F = some m.cls := findClass_of_methodNamed B.named
  have hlocks := B.notSynchronized
  have hl := lv_entry ([.long x]) (n := 2) (Nat.le_of_ble_eq_true rfl)
  rw [lg_entry_eq]
  generalize (lg_sl ([.long x]) ++ List.replicate (2 - (lg_sl ([.long x])).length) Slot.unset).toArray = ls at hl ⊢
  have hl : lv_has ls 2 [(0, .long x)] := hl
  refine lv_ldc2 (v := (-2147483648)) hx hb hown (hts (.constantLong R_F 97 (-2147483648)) (List.mem_cons_of_mem _ (tm (by decide +kernel) rfl))) d_F_cut_0 ?_
  refine lv_lload_n hx hb d_F_cut_3 rfl (lv_at hl 0 rfl) ?_
  refine lv_ldc2 (v := 2147483647) hx hb hown (hts (.constantLong R_F 99 2147483647) (List.mem_cons_of_mem _ (tm (by decide +kernel) rfl))) d_F_cut_4 ?_
  refine va_mmin_long hx hb (hml.trans hl.1.symm) hown (hts (.methodLink R_F 101 Lib.MathLoose.min_long.x) (List.mem_cons_of_mem _ (tm (by decide +kernel) rfl))) (hts (.static Lib.MathLoose.min_long.x) (List.mem_cons_of_mem _ (tm (by decide +kernel) rfl))) (hts (.initialized "java/lang/Math") (List.mem_cons_of_mem _ (tm (by decide +kernel) rfl))) (hts _ (List.mem_cons_of_mem _ (tm ic_J_minL rfl))) (Nat.le_of_ble_eq_true rfl) (Nat.le_of_ble_eq_true rfl) (Nat.zero_le _) (Nat.zero_le _) d_F_cut_7 ?_
  refine lv_topl (fun v7 e7 => ?_)
  refine va_mmax_long hx hb (hml.trans hl.1.symm) hown (hts (.methodLink R_F 103 Lib.MathLoose.max_long.x) (List.mem_cons_of_mem _ (tm (by decide +kernel) rfl))) (hts (.static Lib.MathLoose.max_long.x) (List.mem_cons_of_mem _ (tm (by decide +kernel) rfl))) (hts (.initialized "java/lang/Math") (List.mem_cons_of_mem _ (tm (by decide +kernel) rfl))) (hts _ (List.mem_cons_of_mem _ (tm ic_J_maxL rfl))) (Nat.le_of_ble_eq_true rfl) (Nat.le_of_ble_eq_true rfl) (Nat.zero_le _) (Nat.zero_le _) d_F_cut_10 ?_
  refine lv_topl (fun v10 e10 => ?_)
  refine lv_l2i hx hb d_F_cut_13 rfl ?_
  refine lv_topi (fun v13 e13 => ?_)
  refine W.iret (v := v13) hx hb hr (fun t ht hW => ⟨_, rfl, ?_, ht⟩) (fun _ h => by cases h) d_F_cut_14
  show v13.toInt = max (-2147483648) (min x.toInt 2147483647)
  exact by rw [e13]; exact fx_cut x v7 v10 e7 e10
set_option maxHeartbeats 4000000 in
set_option maxRecDepth 100000 in
theorem c_F_magnitude (l : Launch) (x : Int64)  : Met l y_F_magnitude w_F_magnitude ({ frames := 0, cells := 0, slots := 0, locals := 0 }) (fun v _ => v = [.long x].toArray) (vp_Sl (fun r => uN r = x.toInt.natAbs)) 0 0 (fun _ => False) := by
  refine Met.ofW (cc := b_F_magnitude) (maxL := 2) (ret := some .long) (by decide +kernel) rfl ?_
  intro p e s m args below meth c s₁ B hml hv
  subst hv
  have hx := B.exec
  have hb := B.bytes
  have hr := B.returns
  have hts := atoms_spec (ws := w_F_magnitude) B.pre
  have hown : s.vm.findClass R_F = some m.cls := findClass_of_methodNamed B.named
  have hlocks := B.notSynchronized
  have hl := lv_entry ([.long x]) (n := 2) (Nat.le_of_ble_eq_true rfl)
  rw [lg_entry_eq]
  generalize (lg_sl ([.long x]) ++ List.replicate (2 - (lg_sl ([.long x])).length) Slot.unset).toArray = ls at hl ⊢
  have hl : lv_has ls 2 [(0, .long x)] := hl
  refine lv_lload_n hx hb d_F_magnitude_0 rfl (lv_at hl 0 rfl) ?_
  refine lv_lconst (v := 0) hx hb d_F_magnitude_1 (by decide) ?_
  refine W.lcmp hx hb d_F_magnitude_2 ?_
  refine lv_if_ge (tgt := 11) hx hb d_F_magnitude_3 (by decide) (fun c3 => ?_) (fun c3 => ?_)
  · skip
    have c3 := (lg_cmp_ge _ _).mp c3
    refine lv_lload_n hx hb d_F_magnitude_11 rfl (lv_at hl 0 rfl) ?_
    refine W.lret (v := x) hx hb hr (fun t ht hW => ⟨_, rfl, ?_, ht⟩) (fun _ h => by cases h) d_F_magnitude_12
    show uN x = x.toInt.natAbs
    exact fx_abs2 x (Int64.not_lt.mpr c3)
  · skip
    have c3 := (not_congr (lg_cmp_ge _ _)).mp c3
    refine lv_lload_n hx hb d_F_magnitude_6 rfl (lv_at hl 0 rfl) ?_
    refine lv_lneg hx hb d_F_magnitude_7 ?_
    refine lv_topl (fun v7 e7 => ?_)
    refine lv_goto (tgt := 12) hx hb d_F_magnitude_8 (by decide) ?_
    refine W.lret (v := v7) hx hb hr (fun t ht hW => ⟨_, rfl, ?_, ht⟩) (fun _ h => by cases h) d_F_magnitude_12
    show uN v7 = x.toInt.natAbs
    exact fx_abs1 x v7 (Int64.not_le.mp c3) e7
set_option maxHeartbeats 4000000 in
set_option maxRecDepth 100000 in
theorem c_F_isBelow (l : Launch) (x y : Int64)  : Met l y_F_isBelow w_F_isBelow ({ frames := 0, cells := 0, slots := 0, locals := 0 }) (fun v _ => v = [.long x, .long y].toArray) (vp_Si (fun r => r = if uN x < uN y then 1 else 0)) 0 0 (fun _ => False) := by
  refine Met.ofW (cc := b_F_isBelow) (maxL := 4) (ret := some .boolean) (by decide +kernel) rfl ?_
  intro p e s m args below meth c s₁ B hml hv
  subst hv
  have hx := B.exec
  have hb := B.bytes
  have hr := B.returns
  have hts := atoms_spec (ws := w_F_isBelow) B.pre
  have hown : s.vm.findClass R_F = some m.cls := findClass_of_methodNamed B.named
  have hlocks := B.notSynchronized
  have hl := lv_entry ([.long x, .long y]) (n := 4) (Nat.le_of_ble_eq_true rfl)
  rw [lg_entry_eq]
  generalize (lg_sl ([.long x, .long y]) ++ List.replicate (4 - (lg_sl ([.long x, .long y])).length) Slot.unset).toArray = ls at hl ⊢
  have hl : lv_has ls 4 [(0, .long x), (2, .long y)] := hl
  refine lv_lload_n hx hb d_F_isBelow_0 rfl (lv_at hl 0 rfl) ?_
  refine lv_ldc2 (v := (-9223372036854775808)) hx hb hown (hts (.constantLong R_F 105 (-9223372036854775808)) (List.mem_cons_of_mem _ (tm (by decide +kernel) rfl))) d_F_isBelow_1 ?_
  refine lv_lxor hx hb d_F_isBelow_4 ?_
  refine lv_topl (fun v4 e4 => ?_)
  refine lv_lload_n hx hb d_F_isBelow_5 rfl (lv_at hl 1 rfl) ?_
  refine lv_ldc2 (v := (-9223372036854775808)) hx hb hown (hts (.constantLong R_F 105 (-9223372036854775808)) (List.mem_cons_of_mem _ (tm (by decide +kernel) rfl))) d_F_isBelow_6 ?_
  refine lv_lxor hx hb d_F_isBelow_9 ?_
  refine lv_topl (fun v9 e9 => ?_)
  refine W.lcmp hx hb d_F_isBelow_10 ?_
  refine lv_if_ge (tgt := 18) hx hb d_F_isBelow_11 (by decide) (fun c11 => ?_) (fun c11 => ?_)
  · skip
    have c11 := (lg_cmp_ge _ _).mp c11
    refine lv_iconst (v := 0) hx hb d_F_isBelow_18 (by decide) ?_
    refine W.zret (v := 0) hx hb hr (by first | rfl | decide) (fun t ht hW => ⟨_, rfl, ?_, ht⟩) (fun _ h => by cases h) d_F_isBelow_19
    show (0 : Int32) = if uN x < uN y then 1 else 0
    exact fx_below0 x y v4 v9 e4 e9 c11
  · skip
    have c11 := (not_congr (lg_cmp_ge _ _)).mp c11
    refine lv_iconst (v := 1) hx hb d_F_isBelow_14 (by decide) ?_
    refine lv_goto (tgt := 19) hx hb d_F_isBelow_15 (by decide) ?_
    refine W.zret (v := 1) hx hb hr (by first | rfl | decide) (fun t ht hW => ⟨_, rfl, ?_, ht⟩) (fun _ h => by cases h) d_F_isBelow_19
    show (1 : Int32) = if uN x < uN y then 1 else 0
    exact fx_below1 x y v4 v9 e4 e9 c11
set_option maxHeartbeats 4000000 in
set_option maxRecDepth 100000 in
theorem c_F_highProduct (l : Launch) (x y : Int64)  : Met l y_F_highProduct w_F_highProduct ({ frames := 0, cells := 0, slots := 0, locals := 0 }) (fun v _ => v = [.long x, .long y].toArray) (vp_Sl (fun r => uN r = uN x * uN y / 18446744073709551616)) 0 0 (fun _ => False) := by
  refine Met.ofW (cc := b_F_highProduct) (maxL := 16) (ret := some .long) (by decide +kernel) rfl ?_
  intro p e s m args below meth c s₁ B hml hv
  subst hv
  have hx := B.exec
  have hb := B.bytes
  have hr := B.returns
  have hts := atoms_spec (ws := w_F_highProduct) B.pre
  have hown : s.vm.findClass R_F = some m.cls := findClass_of_methodNamed B.named
  have hlocks := B.notSynchronized
  have hl := lv_entry ([.long x, .long y]) (n := 16) (Nat.le_of_ble_eq_true rfl)
  rw [lg_entry_eq]
  generalize (lg_sl ([.long x, .long y]) ++ List.replicate (16 - (lg_sl ([.long x, .long y])).length) Slot.unset).toArray = ls at hl ⊢
  have hl : lv_has ls 16 [(0, .long x), (2, .long y)] := hl
  refine lv_lload_n hx hb d_F_highProduct_0 rfl (lv_at hl 0 rfl) ?_
  refine lv_ldc2 (v := 4294967295) hx hb hown (hts (.constantLong R_F 107 4294967295) (List.mem_cons_of_mem _ (tm (by decide +kernel) rfl))) d_F_highProduct_1 ?_
  refine lv_land hx hb d_F_highProduct_4 ?_
  refine lv_topl (fun v4 e4 => ?_)
  refine lv_lstore (lv' := [(4, .long v4), (0, .long x), (2, .long y)]) hx hb d_F_highProduct_5 hl (by decide) rfl (fun ls hl => ?_)
  refine lv_lload_n hx hb d_F_highProduct_7 rfl (lv_at hl 1 rfl) ?_
  refine lv_bipush (v := 32) hx hb d_F_highProduct_8 (by decide) ?_
  refine lv_lushr hx hb d_F_highProduct_10 rfl ?_
  refine lv_topl (fun v10 e10 => ?_)
  refine lv_lstore (lv' := [(6, .long v10), (4, .long v4), (0, .long x), (2, .long y)]) hx hb d_F_highProduct_11 hl (by decide) rfl (fun ls hl => ?_)
  refine lv_lload_n hx hb d_F_highProduct_13 rfl (lv_at hl 3 rfl) ?_
  refine lv_ldc2 (v := 4294967295) hx hb hown (hts (.constantLong R_F 107 4294967295) (List.mem_cons_of_mem _ (tm (by decide +kernel) rfl))) d_F_highProduct_14 ?_
  refine lv_land hx hb d_F_highProduct_17 ?_
  refine lv_topl (fun v17 e17 => ?_)
  refine lv_lstore (lv' := [(8, .long v17), (6, .long v10), (4, .long v4), (0, .long x), (2, .long y)]) hx hb d_F_highProduct_18 hl (by decide) rfl (fun ls hl => ?_)
  refine lv_lload_n hx hb d_F_highProduct_20 rfl (lv_at hl 4 rfl) ?_
  refine lv_bipush (v := 32) hx hb d_F_highProduct_21 (by decide) ?_
  refine lv_lushr hx hb d_F_highProduct_23 rfl ?_
  refine lv_topl (fun v23 e23 => ?_)
  refine lv_lstore (lv' := [(10, .long v23), (8, .long v17), (6, .long v10), (4, .long v4), (0, .long x), (2, .long y)]) hx hb d_F_highProduct_24 hl (by decide) rfl (fun ls hl => ?_)
  refine lv_lload hx hb d_F_highProduct_26 (lv_at hl 2 rfl) ?_
  refine lv_lload hx hb d_F_highProduct_28 (lv_at hl 1 rfl) ?_
  refine lv_lmul hx hb d_F_highProduct_30 ?_
  refine lv_topl (fun v30 e30 => ?_)
  refine lv_lload hx hb d_F_highProduct_31 (lv_at hl 3 rfl) ?_
  refine lv_lload hx hb d_F_highProduct_33 (lv_at hl 1 rfl) ?_
  refine lv_lmul hx hb d_F_highProduct_35 ?_
  refine lv_topl (fun v35 e35 => ?_)
  refine lv_bipush (v := 32) hx hb d_F_highProduct_36 (by decide) ?_
  refine lv_lushr hx hb d_F_highProduct_38 rfl ?_
  refine lv_topl (fun v38 e38 => ?_)
  refine lv_ladd hx hb d_F_highProduct_39 ?_
  refine lv_topl (fun v39 e39 => ?_)
  refine lv_lstore (lv' := [(12, .long v39), (10, .long v23), (8, .long v17), (6, .long v10), (4, .long v4), (0, .long x), (2, .long y)]) hx hb d_F_highProduct_40 hl (by decide) rfl (fun ls hl => ?_)
  refine lv_lload hx hb d_F_highProduct_42 (lv_at hl 4 rfl) ?_
  refine lv_lload hx hb d_F_highProduct_44 (lv_at hl 1 rfl) ?_
  refine lv_lmul hx hb d_F_highProduct_46 ?_
  refine lv_topl (fun v46 e46 => ?_)
  refine lv_lload hx hb d_F_highProduct_47 (lv_at hl 0 rfl) ?_
  refine lv_ldc2 (v := 4294967295) hx hb hown (hts (.constantLong R_F 107 4294967295) (List.mem_cons_of_mem _ (tm (by decide +kernel) rfl))) d_F_highProduct_49 ?_
  refine lv_land hx hb d_F_highProduct_52 ?_
  refine lv_topl (fun v52 e52 => ?_)
  refine lv_ladd hx hb d_F_highProduct_53 ?_
  refine lv_topl (fun v53 e53 => ?_)
  refine lv_lstore (lv' := [(14, .long v53), (12, .long v39), (10, .long v23), (8, .long v17), (6, .long v10), (4, .long v4), (0, .long x), (2, .long y)]) hx hb d_F_highProduct_54 hl (by decide) rfl (fun ls hl => ?_)
  refine lv_lload hx hb d_F_highProduct_56 (lv_at hl 4 rfl) ?_
  refine lv_lload hx hb d_F_highProduct_58 (lv_at hl 2 rfl) ?_
  refine lv_lmul hx hb d_F_highProduct_60 ?_
  refine lv_topl (fun v60 e60 => ?_)
  refine lv_lload hx hb d_F_highProduct_61 (lv_at hl 1 rfl) ?_
  refine lv_bipush (v := 32) hx hb d_F_highProduct_63 (by decide) ?_
  refine lv_lushr hx hb d_F_highProduct_65 rfl ?_
  refine lv_topl (fun v65 e65 => ?_)
  refine lv_ladd hx hb d_F_highProduct_66 ?_
  refine lv_topl (fun v66 e66 => ?_)
  refine lv_lload hx hb d_F_highProduct_67 (lv_at hl 0 rfl) ?_
  refine lv_bipush (v := 32) hx hb d_F_highProduct_69 (by decide) ?_
  refine lv_lushr hx hb d_F_highProduct_71 rfl ?_
  refine lv_topl (fun v71 e71 => ?_)
  refine lv_ladd hx hb d_F_highProduct_72 ?_
  refine lv_topl (fun v72 e72 => ?_)
  refine W.lret (v := v72) hx hb hr (fun t ht hW => ⟨_, rfl, ?_, ht⟩) (fun _ h => by cases h) d_F_highProduct_73
  show uN v72 = uN x * uN y / 18446744073709551616
  exact fx_high x y v4 v10 v17 v23 v30 v35 v38 v39 v46 v52 v53 v60 v65 v66 v71 v72 e4 e10 e17 e23 e30 e35 e38 e39 e46 e52 e53 e60 e65 e66 e71 e72
set_option maxHeartbeats 4000000 in
set_option maxRecDepth 100000 in
theorem c_F_fitsLong (l : Launch) (x : Int64) (h n : Int32)  : Met l y_F_fitsLong w_F_fitsLong ({ frames := 0, cells := 0, slots := 0, locals := 0 }) (fun v _ => v = [.long x, .int h, .int n].toArray) (vp_Si (fun r => r = if 0 ≤ x ∨ (x = -9223372036854775808 ∧ ¬ n = 0 ∧ h = 0) then 1 else 0)) 0 0 (fun _ => False) := by
  refine Met.ofW (cc := b_F_fitsLong) (maxL := 4) (ret := some .boolean) (by decide +kernel) rfl ?_
  intro p e s m args below meth c s₁ B hml hv
  subst hv
  have hx := B.exec
  have hb := B.bytes
  have hr := B.returns
  have hts := atoms_spec (ws := w_F_fitsLong) B.pre
  have hown : s.vm.findClass R_F = some m.cls := findClass_of_methodNamed B.named
  have hlocks := B.notSynchronized
  have hl := lv_entry ([.long x, .int h, .int n]) (n := 4) (Nat.le_of_ble_eq_true rfl)
  rw [lg_entry_eq]
  generalize (lg_sl ([.long x, .int h, .int n]) ++ List.replicate (4 - (lg_sl ([.long x, .int h, .int n])).length) Slot.unset).toArray = ls at hl ⊢
  have hl : lv_has ls 4 [(0, .long x), (2, .int h), (3, .int n)] := hl
  refine lv_lload_n hx hb d_F_fitsLong_0 rfl (lv_at hl 0 rfl) ?_
  refine lv_lconst (v := 0) hx hb d_F_fitsLong_1 (by decide) ?_
  refine W.lcmp hx hb d_F_fitsLong_2 ?_
  refine lv_if_ge (tgt := 22) hx hb d_F_fitsLong_3 (by decide) (fun c3 => ?_) (fun c3 => ?_)
  · skip
    have c3 := (lg_cmp_ge _ _).mp c3
    refine lv_iconst (v := 1) hx hb d_F_fitsLong_22 (by decide) ?_
    refine lv_goto (tgt := 27) hx hb d_F_fitsLong_23 (by decide) ?_
    refine W.zret (v := 1) hx hb hr (by first | rfl | decide) (fun t ht hW => ⟨_, rfl, ?_, ht⟩) (fun _ h => by cases h) d_F_fitsLong_27
    show (1 : Int32) = if 0 ≤ x ∨ (x = -9223372036854775808 ∧ ¬ n = 0 ∧ h = 0) then 1 else 0
    exact (if_pos (by first | exact Or.inl c3 | exact Or.inr ⟨c11, c15, c19⟩)).symm
  · skip
    have c3 := (not_congr (lg_cmp_ge _ _)).mp c3
    refine lv_lload_n hx hb d_F_fitsLong_6 rfl (lv_at hl 0 rfl) ?_
    refine lv_ldc2 (v := (-9223372036854775808)) hx hb hown (hts (.constantLong R_F 105 (-9223372036854775808)) (List.mem_cons_of_mem _ (tm (by decide +kernel) rfl))) d_F_fitsLong_7 ?_
    refine W.lcmp hx hb d_F_fitsLong_10 ?_
    refine lv_if_ne (tgt := 26) hx hb d_F_fitsLong_11 (by decide) (fun c11 => ?_) (fun c11 => ?_)
    · skip
      have c11 := (not_congr (lg_cmp_eq _ _)).mp c11
      refine lv_iconst (v := 0) hx hb d_F_fitsLong_26 (by decide) ?_
      refine W.zret (v := 0) hx hb hr (by first | rfl | decide) (fun t ht hW => ⟨_, rfl, ?_, ht⟩) (fun _ h => by cases h) d_F_fitsLong_27
      show (0 : Int32) = if 0 ≤ x ∨ (x = -9223372036854775808 ∧ ¬ n = 0 ∧ h = 0) then 1 else 0
      exact (if_neg (fun q => q.elim (fun z => c3 z) (fun z => by first | exact c11 z.1 | exact z.2.1 c15 | exact c19 z.2.2))).symm
    · skip
      have c11 := (lg_cmp_eq _ _).mp c11
      refine lv_iload_n hx hb d_F_fitsLong_14 rfl (lv_at hl 2 rfl) ?_
      refine lv_if_eq (tgt := 26) hx hb d_F_fitsLong_15 (by decide) (fun c15 => ?_) (fun c15 => ?_)
      · skip
        refine lv_iconst (v := 0) hx hb d_F_fitsLong_26 (by decide) ?_
        refine W.zret (v := 0) hx hb hr (by first | rfl | decide) (fun t ht hW => ⟨_, rfl, ?_, ht⟩) (fun _ h => by cases h) d_F_fitsLong_27
        show (0 : Int32) = if 0 ≤ x ∨ (x = -9223372036854775808 ∧ ¬ n = 0 ∧ h = 0) then 1 else 0
        exact (if_neg (fun q => q.elim (fun z => c3 z) (fun z => by first | exact c11 z.1 | exact z.2.1 c15 | exact c19 z.2.2))).symm
      · skip
        refine lv_iload_n hx hb d_F_fitsLong_18 rfl (lv_at hl 1 rfl) ?_
        refine lv_if_ne (tgt := 26) hx hb d_F_fitsLong_19 (by decide) (fun c19 => ?_) (fun c19 => ?_)
        · skip
          refine lv_iconst (v := 0) hx hb d_F_fitsLong_26 (by decide) ?_
          refine W.zret (v := 0) hx hb hr (by first | rfl | decide) (fun t ht hW => ⟨_, rfl, ?_, ht⟩) (fun _ h => by cases h) d_F_fitsLong_27
          show (0 : Int32) = if 0 ≤ x ∨ (x = -9223372036854775808 ∧ ¬ n = 0 ∧ h = 0) then 1 else 0
          exact (if_neg (fun q => q.elim (fun z => c3 z) (fun z => by first | exact c11 z.1 | exact z.2.1 c15 | exact c19 z.2.2))).symm
        · skip
          refine lv_iconst (v := 1) hx hb d_F_fitsLong_22 (by decide) ?_
          refine lv_goto (tgt := 27) hx hb d_F_fitsLong_23 (by decide) ?_
          refine W.zret (v := 1) hx hb hr (by first | rfl | decide) (fun t ht hW => ⟨_, rfl, ?_, ht⟩) (fun _ h => by cases h) d_F_fitsLong_27
          show (1 : Int32) = if 0 ≤ x ∨ (x = -9223372036854775808 ∧ ¬ n = 0 ∧ h = 0) then 1 else 0
          exact (if_pos (by first | exact Or.inl c3 | exact Or.inr ⟨c11, c15, c19⟩)).symm
set_option maxHeartbeats 4000000 in
set_option maxRecDepth 100000 in
theorem c_F_signedDown (l : Launch) (x : Int64) (h n : Int32)  : Met l y_F_signedDown w_F_signedDown ({ frames := 0, cells := 0, slots := 0, locals := 0 }) (fun v _ => v = [.long x, .int h, .int n].toArray) (vp_Sl (fun r => r = if n = 0 then x else if h = 0 then -x else -x - 1)) 0 0 (fun _ => False) := by
  refine Met.ofW (cc := b_F_signedDown) (maxL := 4) (ret := some .long) (by decide +kernel) rfl ?_
  intro p e s m args below meth c s₁ B hml hv
  subst hv
  have hx := B.exec
  have hb := B.bytes
  have hr := B.returns
  have hts := atoms_spec (ws := w_F_signedDown) B.pre
  have hown : s.vm.findClass R_F = some m.cls := findClass_of_methodNamed B.named
  have hlocks := B.notSynchronized
  have hl := lv_entry ([.long x, .int h, .int n]) (n := 4) (Nat.le_of_ble_eq_true rfl)
  rw [lg_entry_eq]
  generalize (lg_sl ([.long x, .int h, .int n]) ++ List.replicate (4 - (lg_sl ([.long x, .int h, .int n])).length) Slot.unset).toArray = ls at hl ⊢
  have hl : lv_has ls 4 [(0, .long x), (2, .int h), (3, .int n)] := hl
  refine lv_iload_n hx hb d_F_signedDown_0 rfl (lv_at hl 2 rfl) ?_
  refine lv_if_ne (tgt := 6) hx hb d_F_signedDown_1 (by decide) (fun c1 => ?_) (fun c1 => ?_)
  · skip
    refine lv_iload_n hx hb d_F_signedDown_6 rfl (lv_at hl 1 rfl) ?_
    refine lv_if_eq (tgt := 17) hx hb d_F_signedDown_7 (by decide) (fun c7 => ?_) (fun c7 => ?_)
    · skip
      refine lv_lload_n hx hb d_F_signedDown_17 rfl (lv_at hl 0 rfl) ?_
      refine lv_lneg hx hb d_F_signedDown_18 ?_
      refine lv_topl (fun v18 e18 => ?_)
      refine W.lret (v := v18) hx hb hr (fun t ht hW => ⟨_, rfl, ?_, ht⟩) (fun _ h => by cases h) d_F_signedDown_19
      show v18 = if n = 0 then x else if h = 0 then -x else -x - 1
      exact by rw [if_neg c1, if_pos c7, e18]
    · skip
      refine lv_lload_n hx hb d_F_signedDown_10 rfl (lv_at hl 0 rfl) ?_
      refine lv_lneg hx hb d_F_signedDown_11 ?_
      refine lv_topl (fun v11 e11 => ?_)
      refine lv_lconst (v := 1) hx hb d_F_signedDown_12 (by decide) ?_
      refine lv_lsub hx hb d_F_signedDown_13 ?_
      refine lv_topl (fun v13 e13 => ?_)
      refine lv_goto (tgt := 19) hx hb d_F_signedDown_14 (by decide) ?_
      refine W.lret (v := v13) hx hb hr (fun t ht hW => ⟨_, rfl, ?_, ht⟩) (fun _ h => by cases h) d_F_signedDown_19
      show v13 = if n = 0 then x else if h = 0 then -x else -x - 1
      exact by rw [if_neg c1, if_neg c7, e13, e11]
  · skip
    refine lv_lload_n hx hb d_F_signedDown_4 rfl (lv_at hl 0 rfl) ?_
    refine W.lret (v := x) hx hb hr (fun t ht hW => ⟨_, rfl, ?_, ht⟩) (fun _ h => by cases h) d_F_signedDown_5
    show x = if n = 0 then x else if h = 0 then -x else -x - 1
    exact by rw [if_pos c1]
set_option maxHeartbeats 4000000 in
set_option maxRecDepth 100000 in
theorem c_F_isByte (l : Launch) (x : Int32)  : Met l y_F_isByte w_F_isByte ({ frames := 0, cells := 0, slots := 0, locals := 0 }) (fun v _ => v = [.int x].toArray) (vp_Si (fun r => r = if 0 ≤ x.toInt ∧ x.toInt ≤ 255 then 1 else 0)) 0 0 (fun _ => False) := by
  refine Met.ofW (cc := b_F_isByte) (maxL := 1) (ret := some .boolean) (by decide +kernel) rfl ?_
  intro p e s m args below meth c s₁ B hml hv
  subst hv
  have hx := B.exec
  have hb := B.bytes
  have hr := B.returns
  have hts := atoms_spec (ws := w_F_isByte) B.pre
  have hown : s.vm.findClass R_F = some m.cls := findClass_of_methodNamed B.named
  have hlocks := B.notSynchronized
  have hl := lv_entry ([.int x]) (n := 1) (Nat.le_of_ble_eq_true rfl)
  rw [lg_entry_eq]
  generalize (lg_sl ([.int x]) ++ List.replicate (1 - (lg_sl ([.int x])).length) Slot.unset).toArray = ls at hl ⊢
  have hl : lv_has ls 1 [(0, .int x)] := hl
  refine lv_iload_n hx hb d_F_isByte_0 rfl (lv_at hl 0 rfl) ?_
  refine lv_if_lt (tgt := 15) hx hb d_F_isByte_1 (by decide) (fun c1 => ?_) (fun c1 => ?_)
  · skip
    refine lv_iconst (v := 0) hx hb d_F_isByte_15 (by decide) ?_
    refine W.zret (v := 0) hx hb hr (by first | rfl | decide) (fun t ht hW => ⟨_, rfl, ?_, ht⟩) (fun _ h => by cases h) d_F_isByte_16
    show (0 : Int32) = if 0 ≤ x.toInt ∧ x.toInt ≤ 255 then 1 else 0
    exact fx_byte0 x (by first | exact Or.inl c1 | exact Or.inr c8)
  · skip
    refine lv_iload_n hx hb d_F_isByte_4 rfl (lv_at hl 0 rfl) ?_
    refine lv_sipush (v := 255) hx hb d_F_isByte_5 (by decide) ?_
    refine lv_icmp_gt (tgt := 15) hx hb d_F_isByte_8 (by decide) (fun c8 => ?_) (fun c8 => ?_)
    · skip
      refine lv_iconst (v := 0) hx hb d_F_isByte_15 (by decide) ?_
      refine W.zret (v := 0) hx hb hr (by first | rfl | decide) (fun t ht hW => ⟨_, rfl, ?_, ht⟩) (fun _ h => by cases h) d_F_isByte_16
      show (0 : Int32) = if 0 ≤ x.toInt ∧ x.toInt ≤ 255 then 1 else 0
      exact fx_byte0 x (by first | exact Or.inl c1 | exact Or.inr c8)
    · skip
      refine lv_iconst (v := 1) hx hb d_F_isByte_11 (by decide) ?_
      refine lv_goto (tgt := 16) hx hb d_F_isByte_12 (by decide) ?_
      refine W.zret (v := 1) hx hb hr (by first | rfl | decide) (fun t ht hW => ⟨_, rfl, ?_, ht⟩) (fun _ h => by cases h) d_F_isByte_16
      show (1 : Int32) = if 0 ≤ x.toInt ∧ x.toInt ≤ 255 then 1 else 0
      exact fx_byte1 x c1 c8
set_option maxHeartbeats 4000000 in
set_option maxRecDepth 100000 in
theorem c_F_nearest255th (l : Launch) (x : Int32) (h0 : 0 ≤ x.toInt) (h1 : x.toInt ≤ 16711680) : Met l y_F_nearest255th w_F_nearest255th ({ frames := 0, cells := 0, slots := 0, locals := 0 }) (fun v _ => v = [.int x].toArray) (vp_Si (fun r => r.toInt = (2 * x.toInt + 255) / 510)) 0 0 (fun _ => False) := by
  refine Met.ofW (cc := b_F_nearest255th) (maxL := 1) (ret := some .int) (by decide +kernel) rfl ?_
  intro p e s m args below meth c s₁ B hml hv
  subst hv
  have hx := B.exec
  have hb := B.bytes
  have hr := B.returns
  have hts := atoms_spec (ws := w_F_nearest255th) B.pre
  have hown : s.vm.findClass R_F = some m.cls := findClass_of_methodNamed B.named
  have hlocks := B.notSynchronized
  have hl := lv_entry ([.int x]) (n := 1) (Nat.le_of_ble_eq_true rfl)
  rw [lg_entry_eq]
  generalize (lg_sl ([.int x]) ++ List.replicate (1 - (lg_sl ([.int x])).length) Slot.unset).toArray = ls at hl ⊢
  have hl : lv_has ls 1 [(0, .int x)] := hl
  refine lv_iconst (v := 2) hx hb d_F_nearest255th_0 (by decide) ?_
  refine lv_iload_n hx hb d_F_nearest255th_1 rfl (lv_at hl 0 rfl) ?_
  refine lv_imul hx hb d_F_nearest255th_2 ?_
  refine lv_topi (fun v2 e2 => ?_)
  refine lv_sipush (v := 255) hx hb d_F_nearest255th_3 (by decide) ?_
  refine lv_iadd hx hb d_F_nearest255th_6 ?_
  refine lv_topi (fun v6 e6 => ?_)
  refine lv_sipush (v := 510) hx hb d_F_nearest255th_7 (by decide) ?_
  refine lv_idiv hx hb d_F_nearest255th_10 (by decide) ?_
  refine lv_topi (fun v10 e10 => ?_)
  refine W.iret (v := v10) hx hb hr (fun t ht hW => ⟨_, rfl, ?_, ht⟩) (fun _ h => by cases h) d_F_nearest255th_11
  show v10.toInt = (2 * x.toInt + 255) / 510
  exact fx_255 x v2 v6 v10 h0 h1 e2 e6 e10
set_option maxHeartbeats 4000000 in
set_option maxRecDepth 100000 in
theorem c_F_wholeRoot (l : Launch) (x : Int64) (h0 : 0 ≤ x.toInt) (h1 : x.toInt ≤ 281474976710656) : Met l y_F_wholeRoot w_F_wholeRoot ({ frames := 0, cells := 0, slots := 0, locals := 0 }) (fun v _ => v = [.long x].toArray) (vp_Si (fun r => sp_isr x.toInt r.toInt)) 0 0 (fun _ => False) := by
  refine Met.ofW (cc := b_F_wholeRoot) (maxL := 7) (ret := some .int) (by decide +kernel) rfl ?_
  intro p e s m args below meth c s₁ B hml hv
  subst hv
  have hx := B.exec
  have hb := B.bytes
  have hr := B.returns
  have hts := atoms_spec (ws := w_F_wholeRoot) B.pre
  have hown : s.vm.findClass R_F = some m.cls := findClass_of_methodNamed B.named
  have hlocks := B.notSynchronized
  have hl := lv_entry ([.long x]) (n := 7) (Nat.le_of_ble_eq_true rfl)
  rw [lg_entry_eq]
  generalize (lg_sl ([.long x]) ++ List.replicate (7 - (lg_sl ([.long x])).length) Slot.unset).toArray = ls at hl ⊢
  have hl : lv_has ls 7 [(0, .long x)] := hl
  refine lv_lconst (v := 0) hx hb d_F_wholeRoot_0 (by decide) ?_
  refine lv_lstore_n (lv' := [(2, .long 0), (0, .long x)]) hx hb d_F_wholeRoot_1 rfl hl (by decide) rfl (fun ls hl => ?_)
  refine lv_bipush (v := 24) hx hb d_F_wholeRoot_2 (by decide) ?_
  refine lv_istore (lv' := [(4, .int 24), (2, .long 0), (0, .long x)]) hx hb d_F_wholeRoot_4 hl (by decide) rfl (fun ls hl => ?_)
  obtain ⟨S, hxS, hxI, hSN, -⟩ := fx_of x h0 h1
  have hS : S ≤ 281474976710656 := by omega
  refine lp_W (nL := 7) (J := 6) (fun z : Int64 × Int32 => [(4, .int z.2), (2, .long z.1), (0, .long x)]) (rt_I S) (fun n z hI ih ls hl => ?_) 25 (0, 24) (rt_0 hS) hl
  obtain ⟨found, i⟩ := z
  obtain ⟨hi, hn, f, hf, hb1, hb2, hb3⟩ := hI
  dsimp only at hi hf
  have hl : lv_has ls 7 [(4, .int i), (2, .long found), (0, .long x)] := hl
  refine lv_iload hx hb d_F_wholeRoot_6 (lv_at hl 0 rfl) ?_
  refine lv_if_lt (tgt := 38) hx hb d_F_wholeRoot_8 (by decide) (fun c8 => ?_) (fun c8 => ?_)
  · skip
    refine lv_lload_n hx hb d_F_wholeRoot_38 rfl (lv_at hl 1 rfl) ?_
    refine lv_l2i hx hb d_F_wholeRoot_39 rfl ?_
    refine lv_topi (fun v39 e39 => ?_)
    refine W.iret (v := v39) hx hb hr (fun t ht hW => ⟨_, rfl, ?_, ht⟩) (fun _ h => by cases h) d_F_wholeRoot_40
    show sp_isr x.toInt v39.toInt
    exact by have z := dn_neg (by omega) hi c8; subst z; exact rt_end hxI hf hb1 hb2 hb3 e39
  · skip
    obtain ⟨j, rfl, hij⟩ := dn_nn (by omega) hi c8
    refine lv_lload_n hx hb d_F_wholeRoot_11 rfl (lv_at hl 1 rfl) ?_
    refine lv_lconst (v := 1) hx hb d_F_wholeRoot_12 (by decide) ?_
    refine lv_iload hx hb d_F_wholeRoot_13 (lv_at hl 0 rfl) ?_
    refine lv_lshl hx hb d_F_wholeRoot_15 rfl ?_
    refine lv_topl (fun v15 e15 => ?_)
    refine lv_ladd hx hb d_F_wholeRoot_16 ?_
    refine lv_topl (fun v16 e16 => ?_)
    refine lv_lstore (lv' := [(5, .long v16), (4, .int i), (2, .long found), (0, .long x)]) hx hb d_F_wholeRoot_17 hl (by decide) rfl (fun ls hl => ?_)
    refine lv_lload hx hb d_F_wholeRoot_19 (lv_at hl 0 rfl) ?_
    refine lv_lload hx hb d_F_wholeRoot_21 (lv_at hl 0 rfl) ?_
    refine lv_lmul hx hb d_F_wholeRoot_23 ?_
    refine lv_topl (fun v23 e23 => ?_)
    obtain ⟨e16x, cx⟩ := rt_try hxS hS hij hn hf hb1 e15 e16 e23
    refine lv_lload_n hx hb d_F_wholeRoot_24 rfl (lv_at hl 3 rfl) ?_
    refine W.lcmp hx hb d_F_wholeRoot_25 ?_
    refine lv_if_gt (tgt := 32) hx hb d_F_wholeRoot_26 (by decide) (fun c26 => ?_) (fun c26 => ?_)
    · skip
      have c26 := (lg_cmp_gt _ _).mp c26
      obtain ⟨v32, e32⟩ : ∃ y : Int32, y = i + Int32.ofInt (-1) := ⟨_, rfl⟩
      refine lv_iinc (v := v32) (lv' := [(4, .int v32), (5, .long v16), (2, .long found), (0, .long x)]) hx hb d_F_wholeRoot_32 hl (k := 1) rfl (by rw [e32]) (by decide) rfl (fun ls hl => ?_)
      refine lv_goto (tgt := 6) hx hb d_F_wholeRoot_35 (by decide) ?_
      exact ih _ (found, v32) (Nat.lt_succ_self _) (rt_no hij hn hf hb1 hb2 (cx.mp c26) e32) _ (lv_sub hl [0, 2, 3] rfl)
    · skip
      have c26 := (not_congr (lg_cmp_gt _ _)).mp c26
      refine lv_lload hx hb d_F_wholeRoot_29 (lv_at hl 0 rfl) ?_
      refine lv_lstore_n (lv' := [(2, .long v16), (5, .long v16), (4, .int i), (0, .long x)]) hx hb d_F_wholeRoot_31 rfl hl (by decide) rfl (fun ls hl => ?_)
      obtain ⟨v32, e32⟩ : ∃ y : Int32, y = i + Int32.ofInt (-1) := ⟨_, rfl⟩
      refine lv_iinc (v := v32) (lv' := [(4, .int v32), (2, .long v16), (5, .long v16), (0, .long x)]) hx hb d_F_wholeRoot_32 hl (k := 2) rfl (by rw [e32]) (by decide) rfl (fun ls hl => ?_)
      refine lv_goto (tgt := 6) hx hb d_F_wholeRoot_35 (by decide) ?_
      exact ih _ (v16, v32) (Nat.lt_succ_self _) (rt_yes hij hn e16x hb1 hb3 (Nat.not_lt.mp (fun q => c26 (cx.mpr q))) e32) _ (lv_sub hl [0, 1, 3] rfl)
set_option maxHeartbeats 4000000 in
set_option maxRecDepth 100000 in
theorem c_F_wholeQuotient (l : Launch) (h lo d : Int64) (hd0 : 0 < uN d) (hd2 : uN d ≤ 9223372036854775808) (hlt : uN h < uN d) : Met l y_F_wholeQuotient w_F_wholeQuotient ({ frames := 1, cells := 0, slots := 0, locals := 23 }) (fun v _ => v = [.long h, .long lo, .long d].toArray) (vp_Sl (fun r => uN r = (uN h * 18446744073709551616 + uN lo) / uN d)) 0 0 (fun _ => False) := by
  refine Met.ofW (cc := b_F_wholeQuotient) (maxL := 11) (ret := some .long) (by decide +kernel) rfl ?_
  intro p e s m args below meth c s₁ B hml hv
  subst hv
  have hx := B.exec
  have hb := B.bytes
  have hr := B.returns
  have hts := atoms_spec (ws := w_F_wholeQuotient) B.pre
  have hown : s.vm.findClass R_F = some m.cls := findClass_of_methodNamed B.named
  have hlocks := B.notSynchronized
  have hl := lv_entry ([.long h, .long lo, .long d]) (n := 11) (Nat.le_of_ble_eq_true rfl)
  rw [lg_entry_eq]
  generalize (lg_sl ([.long h, .long lo, .long d]) ++ List.replicate (11 - (lg_sl ([.long h, .long lo, .long d])).length) Slot.unset).toArray = ls at hl ⊢
  have hl : lv_has ls 11 [(0, .long h), (2, .long lo), (4, .long d)] := hl
  refine lv_lload_n hx hb d_F_wholeQuotient_0 rfl (lv_at hl 0 rfl) ?_
  refine lv_lstore (lv' := [(6, .long h), (0, .long h), (2, .long lo), (4, .long d)]) hx hb d_F_wholeQuotient_1 hl (by decide) rfl (fun ls hl => ?_)
  refine lv_lconst (v := 0) hx hb d_F_wholeQuotient_3 (by decide) ?_
  refine lv_lstore (lv' := [(8, .long 0), (6, .long h), (0, .long h), (2, .long lo), (4, .long d)]) hx hb d_F_wholeQuotient_4 hl (by decide) rfl (fun ls hl => ?_)
  refine lv_bipush (v := 63) hx hb d_F_wholeQuotient_6 (by decide) ?_
  refine lv_istore (lv' := [(10, .int 63), (8, .long 0), (6, .long h), (0, .long h), (2, .long lo), (4, .long d)]) hx hb d_F_wholeQuotient_8 hl (by decide) rfl (fun ls hl => ?_)
  refine lp_W (nL := 11) (J := 10) (fun z : Int64 × Int64 × Int32 => [(10, .int z.2.2), (8, .long z.2.1), (6, .long z.1), (0, .long h), (2, .long lo), (4, .long d)]) (wq_I h lo d) (fun n z hI ih ls hl => ?_) 64 (h, 0, 63) (wq_0 h lo d hlt) hl
  obtain ⟨rest, whole, i⟩ := z
  obtain ⟨hi, hn, hb1, hb2, hb3⟩ := hI
  dsimp only at hi hb1 hb2 hb3
  have hl : lv_has ls 11 [(10, .int i), (8, .long whole), (6, .long rest), (0, .long h), (2, .long lo), (4, .long d)] := hl
  refine lv_iload hx hb d_F_wholeQuotient_10 (lv_at hl 0 rfl) ?_
  refine lv_if_lt (tgt := 63) hx hb d_F_wholeQuotient_12 (by decide) (fun c12 => ?_) (fun c12 => ?_)
  · skip
    refine lv_lload hx hb d_F_wholeQuotient_63 (lv_at hl 1 rfl) ?_
    refine W.lret (v := whole) hx hb hr (fun t ht hW => ⟨_, rfl, ?_, ht⟩) (fun _ h => by cases h) d_F_wholeQuotient_65
    show uN whole = (uN h * 18446744073709551616 + uN lo) / uN d
    exact by have z := dn_neg (by omega) hi c12; subst z; exact wq_end hd0 hb1 hb3
  · skip
    obtain ⟨j, rfl, hij⟩ := dn_nn (by omega) hi c12
    refine lv_lload hx hb d_F_wholeQuotient_15 (lv_at hl 2 rfl) ?_
    refine lv_iconst (v := 1) hx hb d_F_wholeQuotient_17 (by decide) ?_
    refine lv_lshl hx hb d_F_wholeQuotient_18 rfl ?_
    refine lv_topl (fun v18 e18 => ?_)
    refine lv_lload_n hx hb d_F_wholeQuotient_19 rfl (lv_at hl 4 rfl) ?_
    refine lv_iload hx hb d_F_wholeQuotient_20 (lv_at hl 0 rfl) ?_
    refine lv_lushr hx hb d_F_wholeQuotient_22 rfl ?_
    refine lv_topl (fun v22 e22 => ?_)
    refine lv_lconst (v := 1) hx hb d_F_wholeQuotient_23 (by decide) ?_
    refine lv_land hx hb d_F_wholeQuotient_24 ?_
    refine lv_topl (fun v24 e24 => ?_)
    refine lv_lor hx hb d_F_wholeQuotient_25 ?_
    refine lv_topl (fun v25 e25 => ?_)
    refine lv_lstore (lv' := [(6, .long v25), (10, .int i), (8, .long whole), (0, .long h), (2, .long lo), (4, .long d)]) hx hb d_F_wholeQuotient_26 hl (by decide) rfl (fun ls hl => ?_)
    refine lv_lload hx hb d_F_wholeQuotient_28 (lv_at hl 2 rfl) ?_
    refine lv_iconst (v := 1) hx hb d_F_wholeQuotient_30 (by decide) ?_
    refine lv_lshl hx hb d_F_wholeQuotient_31 rfl ?_
    refine lv_topl (fun v31 e31 => ?_)
    refine lv_lstore (lv' := [(8, .long v31), (6, .long v25), (10, .int i), (0, .long h), (2, .long lo), (4, .long d)]) hx hb d_F_wholeQuotient_32 hl (by decide) rfl (fun ls hl => ?_)
    obtain ⟨fa, fb, fc⟩ := wq_try hd2 hij hn hb1 hb2 e18 e22 e24 e25 e31
    refine lv_lload hx hb d_F_wholeQuotient_34 (lv_at hl 1 rfl) ?_
    refine lv_lload hx hb d_F_wholeQuotient_36 (lv_at hl 5 rfl) ?_
    refine vp_callSi (W.runS (As := [.long v25, .long d]) (rest := []) ⟨hx, hb, hml, hown, hts⟩ (c_F_isBelow l v25 d ) (cwS 2 hts g_F_42 rfl rfl rfl (by decide +kernel) ⟨Nat.le_of_ble_eq_true rfl, Nat.le_of_ble_eq_true rfl⟩) preEq rfl rfl hl.1 rfl (lv_room (Nat.le_of_ble_eq_true rfl)) d_F_wholeQuotient_38 ⟨Nat.zero_le _, Nat.zero_le _⟩) (fun v38 e38 => ?_)
    try dsimp only at e38
    refine lv_if_ne (tgt := 57) hx hb d_F_wholeQuotient_41 (by decide) (fun c41 => ?_) (fun c41 => ?_)
    · skip
      have cx : uN v25 < uN d := Classical.byContradiction (fun q => by rw [if_neg q] at e38; exact c41 e38)
      obtain ⟨v57, e57⟩ : ∃ y : Int32, y = i + Int32.ofInt (-1) := ⟨_, rfl⟩
      refine lv_iinc (v := v57) (lv' := [(10, .int v57), (8, .long v31), (6, .long v25), (0, .long h), (2, .long lo), (4, .long d)]) hx hb d_F_wholeQuotient_57 hl (k := 2) rfl (by rw [e57]) (by decide) rfl (fun ls hl => ?_)
      refine lv_goto (tgt := 10) hx hb d_F_wholeQuotient_60 (by decide) ?_
      exact ih _ (v25, v31, v57) (Nat.lt_succ_self _) (wq_lo hij hn hb2 hb3 fa fb cx e57) _ (lv_sub hl [0, 1, 2, 3, 4, 5] rfl)
    · skip
      have cx : ¬ uN v25 < uN d := fun q => by rw [if_pos q] at e38; rw [e38] at c41; exact absurd c41 (by decide)
      refine lv_lload hx hb d_F_wholeQuotient_44 (lv_at hl 1 rfl) ?_
      refine lv_lload hx hb d_F_wholeQuotient_46 (lv_at hl 5 rfl) ?_
      refine lv_lsub hx hb d_F_wholeQuotient_48 ?_
      refine lv_topl (fun v48 e48 => ?_)
      refine lv_lstore (lv' := [(6, .long v48), (8, .long v31), (10, .int i), (0, .long h), (2, .long lo), (4, .long d)]) hx hb d_F_wholeQuotient_49 hl (by decide) rfl (fun ls hl => ?_)
      refine lv_lload hx hb d_F_wholeQuotient_51 (lv_at hl 1 rfl) ?_
      refine lv_lconst (v := 1) hx hb d_F_wholeQuotient_53 (by decide) ?_
      refine lv_lor hx hb d_F_wholeQuotient_54 ?_
      refine lv_topl (fun v54 e54 => ?_)
      refine lv_lstore (lv' := [(8, .long v54), (6, .long v48), (10, .int i), (0, .long h), (2, .long lo), (4, .long d)]) hx hb d_F_wholeQuotient_55 hl (by decide) rfl (fun ls hl => ?_)
      obtain ⟨v57, e57⟩ : ∃ y : Int32, y = i + Int32.ofInt (-1) := ⟨_, rfl⟩
      refine lv_iinc (v := v57) (lv' := [(10, .int v57), (8, .long v54), (6, .long v48), (0, .long h), (2, .long lo), (4, .long d)]) hx hb d_F_wholeQuotient_57 hl (k := 2) rfl (by rw [e57]) (by decide) rfl (fun ls hl => ?_)
      refine lv_goto (tgt := 10) hx hb d_F_wholeQuotient_60 (by decide) ?_
      exact ih _ (v48, v54, v57) (Nat.lt_succ_self _) (wq_hi hij hn hb1 hb2 hb3 fa (by rw [e54]; exact fc) e48 cx e57) _ (lv_sub hl [0, 1, 2, 3, 4, 5] rfl)
set_option maxHeartbeats 4000000 in
set_option maxRecDepth 100000 in
theorem c_F_highestBit (l : Launch) (x : Int64) (h0 : 1 ≤ x.toInt) (h1 : x.toInt ≤ 2147483648) : Met l y_F_highestBit w_F_highestBit ({ frames := 0, cells := 0, slots := 0, locals := 0 }) (fun v _ => v = [.long x].toArray) (vp_Si (fun r => ∃ t : Nat, r = nI t ∧ t ≤ 31 ∧ (2 : Int) ^ t ≤ x.toInt ∧ x.toInt < 2 ^ (t + 1))) 0 0 (fun _ => False) := by
  refine Met.ofW (cc := b_F_highestBit) (maxL := 3) (ret := some .int) (by decide +kernel) rfl ?_
  intro p e s m args below meth c s₁ B hml hv
  subst hv
  have hx := B.exec
  have hb := B.bytes
  have hr := B.returns
  have hts := atoms_spec (ws := w_F_highestBit) B.pre
  have hown : s.vm.findClass R_F = some m.cls := findClass_of_methodNamed B.named
  have hlocks := B.notSynchronized
  have hl := lv_entry ([.long x]) (n := 3) (Nat.le_of_ble_eq_true rfl)
  rw [lg_entry_eq]
  generalize (lg_sl ([.long x]) ++ List.replicate (3 - (lg_sl ([.long x])).length) Slot.unset).toArray = ls at hl ⊢
  have hl : lv_has ls 3 [(0, .long x)] := hl
  refine lv_bipush (v := 31) hx hb d_F_highestBit_0 (by decide) ?_
  refine lv_istore_n (lv' := [(2, .int 31), (0, .long x)]) hx hb d_F_highestBit_2 rfl hl (by decide) rfl (fun ls hl => ?_)
  obtain ⟨S, hxS, hxI, hSN, -⟩ := fx_of x (by omega) h1
  have hS : S < 2 ^ 62 := by omega
  have h9 : S < 2 ^ (31 + 1) := by omega
  refine lp_W (nL := 3) (J := 3) (fun z : Int32 => [(2, .int z), (0, .long x)]) (hb_I S) (fun n i hI ih ls hl => ?_) 31 31 ⟨by decide, by decide, h9⟩ hl
  obtain ⟨hi, hn, hb1⟩ := hI
  have hl : lv_has ls 3 [(2, .int i), (0, .long x)] := hl
  refine lv_iload_n hx hb d_F_highestBit_3 rfl (lv_at hl 0 rfl) ?_
  refine lv_if_le (tgt := 21) hx hb d_F_highestBit_4 (by decide) (fun c4 => ?_) (fun c4 => ?_)
  · skip
    refine lv_iload_n hx hb d_F_highestBit_21 rfl (lv_at hl 0 rfl) ?_
    refine W.iret (v := i) hx hb hr (fun t ht hW => ⟨_, rfl, ?_, ht⟩) (fun _ h => by cases h) d_F_highestBit_22
    show ∃ t : Nat, i = nI t ∧ t ≤ 31 ∧ (2 : Int) ^ t ≤ x.toInt ∧ x.toInt < 2 ^ (t + 1)
    exact ⟨n, hi, hn, by rw [hxI]; first | (have q := hb_nz hxS hS hi hn e9 c12; exact_mod_cast q) | (have q := hb_z hi hn c4; subst q; show (1 : Int) ≤ _; omega), by rw [hxI]; exact_mod_cast hb1⟩
  · skip
    refine lv_lload_n hx hb d_F_highestBit_7 rfl (lv_at hl 1 rfl) ?_
    refine lv_iload_n hx hb d_F_highestBit_8 rfl (lv_at hl 0 rfl) ?_
    refine lv_lshr hx hb d_F_highestBit_9 rfl ?_
    refine lv_topl (fun v9 e9 => ?_)
    refine lv_lconst (v := 0) hx hb d_F_highestBit_10 (by decide) ?_
    refine W.lcmp hx hb d_F_highestBit_11 ?_
    refine lv_if_ne (tgt := 21) hx hb d_F_highestBit_12 (by decide) (fun c12 => ?_) (fun c12 => ?_)
    · skip
      have c12 := (not_congr (lg_cmp_eq _ _)).mp c12
      refine lv_iload_n hx hb d_F_highestBit_21 rfl (lv_at hl 0 rfl) ?_
      refine W.iret (v := i) hx hb hr (fun t ht hW => ⟨_, rfl, ?_, ht⟩) (fun _ h => by cases h) d_F_highestBit_22
      show ∃ t : Nat, i = nI t ∧ t ≤ 31 ∧ (2 : Int) ^ t ≤ x.toInt ∧ x.toInt < 2 ^ (t + 1)
      exact ⟨n, hi, hn, by rw [hxI]; first | (have q := hb_nz hxS hS hi hn e9 c12; exact_mod_cast q) | (have q := hb_z hi hn c4; subst q; show (1 : Int) ≤ _; omega), by rw [hxI]; exact_mod_cast hb1⟩
    · skip
      have c12 := (lg_cmp_eq _ _).mp c12
      obtain ⟨v15, e15⟩ : ∃ y : Int32, y = i + Int32.ofInt (-1) := ⟨_, rfl⟩
      refine lv_iinc (v := v15) (lv' := [(2, .int v15), (0, .long x)]) hx hb d_F_highestBit_15 hl (k := 0) rfl (by rw [e15]) (by decide) rfl (fun ls hl => ?_)
      refine lv_goto (tgt := 3) hx hb d_F_highestBit_18 (by decide) ?_
      obtain ⟨j, rfl, hj⟩ := hb_go hxS hS hi hn c4 e9 c12 e15
      exact ih j v15 (Nat.lt_succ_self _) hj _ (lv_sub hl [0, 1] rfl)
set_option maxHeartbeats 4000000 in
set_option maxRecDepth 100000 in
theorem c_F_nearestEven (l : Launch) (x : Int64) (i : Int32) (sv k : Nat) (hxs : x = lN sv) (hs9 : sv ≤ 2147483648) (hi : i = nI k) (hk : k ≤ 31) : Met l y_F_nearestEven w_F_nearestEven ({ frames := 0, cells := 0, slots := 0, locals := 0 }) (fun v _ => v = [.long x, .int i].toArray) (vp_Si (fun r => r = nI (sp_ne sv k))) 0 0 (fun _ => False) := by
  refine Met.ofW (cc := b_F_nearestEven) (maxL := 10) (ret := some .int) (by decide +kernel) rfl ?_
  intro p e s m args below meth c s₁ B hml hv
  subst hv
  have hx := B.exec
  have hb := B.bytes
  have hr := B.returns
  have hts := atoms_spec (ws := w_F_nearestEven) B.pre
  have hown : s.vm.findClass R_F = some m.cls := findClass_of_methodNamed B.named
  have hlocks := B.notSynchronized
  have hl := lv_entry ([.long x, .int i]) (n := 10) (Nat.le_of_ble_eq_true rfl)
  rw [lg_entry_eq]
  generalize (lg_sl ([.long x, .int i]) ++ List.replicate (10 - (lg_sl ([.long x, .int i])).length) Slot.unset).toArray = ls at hl ⊢
  have hl : lv_has ls 10 [(0, .long x), (2, .int i)] := hl
  refine lv_lload_n hx hb d_F_nearestEven_0 rfl (lv_at hl 0 rfl) ?_
  refine lv_iload_n hx hb d_F_nearestEven_1 rfl (lv_at hl 1 rfl) ?_
  refine lv_lshr hx hb d_F_nearestEven_2 rfl ?_
  refine lv_topl (fun v2 e2 => ?_)
  refine lv_lstore_n (lv' := [(3, .long v2), (0, .long x), (2, .int i)]) hx hb d_F_nearestEven_3 rfl hl (by decide) rfl (fun ls hl => ?_)
  refine lv_lload_n hx hb d_F_nearestEven_4 rfl (lv_at hl 1 rfl) ?_
  refine lv_lload_n hx hb d_F_nearestEven_5 rfl (lv_at hl 0 rfl) ?_
  refine lv_iload_n hx hb d_F_nearestEven_6 rfl (lv_at hl 2 rfl) ?_
  refine lv_lshl hx hb d_F_nearestEven_7 rfl ?_
  refine lv_topl (fun v7 e7 => ?_)
  refine lv_lsub hx hb d_F_nearestEven_8 ?_
  refine lv_topl (fun v8 e8 => ?_)
  refine lv_iconst (v := 1) hx hb d_F_nearestEven_9 (by decide) ?_
  refine lv_lshl hx hb d_F_nearestEven_10 rfl ?_
  refine lv_topl (fun v10 e10 => ?_)
  refine lv_lstore (lv' := [(5, .long v10), (3, .long v2), (0, .long x), (2, .int i)]) hx hb d_F_nearestEven_11 hl (by decide) rfl (fun ls hl => ?_)
  refine lv_lconst (v := 1) hx hb d_F_nearestEven_13 (by decide) ?_
  refine lv_iload_n hx hb d_F_nearestEven_14 rfl (lv_at hl 3 rfl) ?_
  refine lv_lshl hx hb d_F_nearestEven_15 rfl ?_
  refine lv_topl (fun v15 e15 => ?_)
  refine lv_lstore (lv' := [(7, .long v15), (5, .long v10), (3, .long v2), (0, .long x), (2, .int i)]) hx hb d_F_nearestEven_16 hl (by decide) rfl (fun ls hl => ?_)
  obtain ⟨f2, f10, f15⟩ := ne_all hxs hs9 hi hk e2 e7 e8 e10 e15
  obtain ⟨cA, cB, cC⟩ := ne_cmp hs9 hk f2 f10 f15
  refine lv_lload hx hb d_F_nearestEven_18 (lv_at hl 1 rfl) ?_
  refine lv_lload hx hb d_F_nearestEven_20 (lv_at hl 0 rfl) ?_
  refine W.lcmp hx hb d_F_nearestEven_22 ?_
  refine lv_if_gt (tgt := 42) hx hb d_F_nearestEven_23 (by decide) (fun c23 => ?_) (fun c23 => ?_)
  · skip
    have c23 := (lg_cmp_gt _ _).mp c23
    refine lv_iconst (v := 1) hx hb d_F_nearestEven_42 (by decide) ?_
    refine lv_goto (tgt := 47) hx hb d_F_nearestEven_43 (by decide) ?_
    refine lv_istore (lv' := [(9, .int 1), (7, .long v15), (5, .long v10), (3, .long v2), (0, .long x), (2, .int i)]) hx hb d_F_nearestEven_47 hl (by decide) rfl (fun ls hl => ?_)
    refine lv_iload hx hb d_F_nearestEven_49 (lv_at hl 0 rfl) ?_
    refine lv_if_eq (tgt := 60) hx hb d_F_nearestEven_51 (by decide) (fun q => absurd q (by decide)) (fun _ => ?_)
    refine lv_lload_n hx hb d_F_nearestEven_54 rfl (lv_at hl 3 rfl) ?_
    refine lv_lconst (v := 1) hx hb d_F_nearestEven_55 (by decide) ?_
    refine lv_ladd hx hb d_F_nearestEven_56 ?_
    refine lv_topl (fun v56 e56 => ?_)
    refine lv_goto (tgt := 61) hx hb d_F_nearestEven_57 (by decide) ?_
    refine lv_l2i hx hb d_F_nearestEven_61 rfl ?_
    refine lv_topi (fun v61 e61 => ?_)
    refine W.iret (v := v61) hx hb hr (fun t ht hW => ⟨_, rfl, ?_, ht⟩) (fun _ h => by cases h) d_F_nearestEven_62
    show v61 = nI (sp_ne sv k)
    exact ne_yes f2 e56 e61 (by first | exact Or.inl (cA.mp c23) | exact Or.inr ⟨cB.mp c31, cC.mp (e36x.symm.trans c39)⟩)
  · skip
    have c23 := (not_congr (lg_cmp_gt _ _)).mp c23
    refine lv_lload hx hb d_F_nearestEven_26 (lv_at hl 1 rfl) ?_
    refine lv_lload hx hb d_F_nearestEven_28 (lv_at hl 0 rfl) ?_
    refine W.lcmp hx hb d_F_nearestEven_30 ?_
    refine lv_if_ne (tgt := 46) hx hb d_F_nearestEven_31 (by decide) (fun c31 => ?_) (fun c31 => ?_)
    · skip
      have c31 := (not_congr (lg_cmp_eq _ _)).mp c31
      refine lv_iconst (v := 0) hx hb d_F_nearestEven_46 (by decide) ?_
      refine lv_istore (lv' := [(9, .int 0), (7, .long v15), (5, .long v10), (3, .long v2), (0, .long x), (2, .int i)]) hx hb d_F_nearestEven_47 hl (by decide) rfl (fun ls hl => ?_)
      refine lv_iload hx hb d_F_nearestEven_49 (lv_at hl 0 rfl) ?_
      refine lv_if_eq (tgt := 60) hx hb d_F_nearestEven_51 (by decide) (fun _ => ?_) (fun q => absurd (by decide) q)
      refine lv_lload_n hx hb d_F_nearestEven_60 rfl (lv_at hl 3 rfl) ?_
      refine lv_l2i hx hb d_F_nearestEven_61 rfl ?_
      refine lv_topi (fun v61 e61 => ?_)
      refine W.iret (v := v61) hx hb hr (fun t ht hW => ⟨_, rfl, ?_, ht⟩) (fun _ h => by cases h) d_F_nearestEven_62
      show v61 = nI (sp_ne sv k)
      exact ne_no f2 e61 (fun q => by first | exact (q.elim (fun z => c23 (cA.mpr z)) (fun z => c31 (cB.mpr z.1))) | exact (q.elim (fun z => c23 (cA.mpr z)) (fun z => c39 (e36x.trans (cC.mpr z.2)))))
    · skip
      have c31 := (lg_cmp_eq _ _).mp c31
      refine lv_lload_n hx hb d_F_nearestEven_34 rfl (lv_at hl 2 rfl) ?_
      refine lv_lconst (v := 1) hx hb d_F_nearestEven_35 (by decide) ?_
      refine lv_land hx hb d_F_nearestEven_36 ?_
      refine lv_topl (fun v36 e36 => ?_)
      have e36x := e36
      refine lv_lconst (v := 1) hx hb d_F_nearestEven_37 (by decide) ?_
      refine W.lcmp hx hb d_F_nearestEven_38 ?_
      refine lv_if_ne (tgt := 46) hx hb d_F_nearestEven_39 (by decide) (fun c39 => ?_) (fun c39 => ?_)
      · skip
        have c39 := (not_congr (lg_cmp_eq _ _)).mp c39
        refine lv_iconst (v := 0) hx hb d_F_nearestEven_46 (by decide) ?_
        refine lv_istore (lv' := [(9, .int 0), (7, .long v15), (5, .long v10), (3, .long v2), (0, .long x), (2, .int i)]) hx hb d_F_nearestEven_47 hl (by decide) rfl (fun ls hl => ?_)
        refine lv_iload hx hb d_F_nearestEven_49 (lv_at hl 0 rfl) ?_
        refine lv_if_eq (tgt := 60) hx hb d_F_nearestEven_51 (by decide) (fun _ => ?_) (fun q => absurd (by decide) q)
        refine lv_lload_n hx hb d_F_nearestEven_60 rfl (lv_at hl 3 rfl) ?_
        refine lv_l2i hx hb d_F_nearestEven_61 rfl ?_
        refine lv_topi (fun v61 e61 => ?_)
        refine W.iret (v := v61) hx hb hr (fun t ht hW => ⟨_, rfl, ?_, ht⟩) (fun _ h => by cases h) d_F_nearestEven_62
        show v61 = nI (sp_ne sv k)
        exact ne_no f2 e61 (fun q => by first | exact (q.elim (fun z => c23 (cA.mpr z)) (fun z => c31 (cB.mpr z.1))) | exact (q.elim (fun z => c23 (cA.mpr z)) (fun z => c39 (e36x.trans (cC.mpr z.2)))))
      · skip
        have c39 := (lg_cmp_eq _ _).mp c39
        refine lv_iconst (v := 1) hx hb d_F_nearestEven_42 (by decide) ?_
        refine lv_goto (tgt := 47) hx hb d_F_nearestEven_43 (by decide) ?_
        refine lv_istore (lv' := [(9, .int 1), (7, .long v15), (5, .long v10), (3, .long v2), (0, .long x), (2, .int i)]) hx hb d_F_nearestEven_47 hl (by decide) rfl (fun ls hl => ?_)
        refine lv_iload hx hb d_F_nearestEven_49 (lv_at hl 0 rfl) ?_
        refine lv_if_eq (tgt := 60) hx hb d_F_nearestEven_51 (by decide) (fun q => absurd q (by decide)) (fun _ => ?_)
        refine lv_lload_n hx hb d_F_nearestEven_54 rfl (lv_at hl 3 rfl) ?_
        refine lv_lconst (v := 1) hx hb d_F_nearestEven_55 (by decide) ?_
        refine lv_ladd hx hb d_F_nearestEven_56 ?_
        refine lv_topl (fun v56 e56 => ?_)
        refine lv_goto (tgt := 61) hx hb d_F_nearestEven_57 (by decide) ?_
        refine lv_l2i hx hb d_F_nearestEven_61 rfl ?_
        refine lv_topi (fun v61 e61 => ?_)
        refine W.iret (v := v61) hx hb hr (fun t ht hW => ⟨_, rfl, ?_, ht⟩) (fun _ h => by cases h) d_F_nearestEven_62
        show v61 = nI (sp_ne sv k)
        exact ne_yes f2 e56 e61 (by first | exact Or.inl (cA.mp c23) | exact Or.inr ⟨cB.mp c31, cC.mp (e36x.symm.trans c39)⟩)
set_option maxHeartbeats 4000000 in
set_option maxRecDepth 100000 in
theorem c_F_product (l : Launch) (h0 : Nat) (a b : Int32)  : Met l y_F_product w_F_product ({ frames := 0, cells := 0, slots := 0, locals := 0 }) (fun v _ => v = [.ref h0, .int a, .int b].toArray) (vp_Si (fun r => r.toInt = (a.toInt * b.toInt / 65536).bmod (2 ^ 32))) 0 0 (fun _ => False) := by
  refine Met.ofW (cc := b_F_product) (maxL := 3) (ret := some .int) (by decide +kernel) rfl ?_
  intro p e s m args below meth c s₁ B hml hv
  subst hv
  have hx := B.exec
  have hb := B.bytes
  have hr := B.returns
  have hts := atoms_spec (ws := w_F_product) B.pre
  have hown : s.vm.findClass R_F = some m.cls := findClass_of_methodNamed B.named
  have hlocks := B.notSynchronized
  have hl := lv_entry ([.ref h0, .int a, .int b]) (n := 3) (Nat.le_of_ble_eq_true rfl)
  rw [lg_entry_eq]
  generalize (lg_sl ([.ref h0, .int a, .int b]) ++ List.replicate (3 - (lg_sl ([.ref h0, .int a, .int b])).length) Slot.unset).toArray = ls at hl ⊢
  have hl : lv_has ls 3 [(0, .ref h0), (1, .int a), (2, .int b)] := hl
  refine lv_iload_n hx hb d_F_product_0 rfl (lv_at hl 1 rfl) ?_
  refine lv_i2l hx hb d_F_product_1 rfl ?_
  refine lv_topl (fun v1 e1 => ?_)
  refine lv_iload_n hx hb d_F_product_2 rfl (lv_at hl 2 rfl) ?_
  refine lv_i2l hx hb d_F_product_3 rfl ?_
  refine lv_topl (fun v3 e3 => ?_)
  refine lv_lmul hx hb d_F_product_4 ?_
  refine lv_topl (fun v4 e4 => ?_)
  refine lv_bipush (v := 16) hx hb d_F_product_5 (by decide) ?_
  refine lv_lshr hx hb d_F_product_7 rfl ?_
  refine lv_topl (fun v7 e7 => ?_)
  refine lv_l2i hx hb d_F_product_8 rfl ?_
  refine lv_topi (fun v8 e8 => ?_)
  refine W.iret (v := v8) hx hb hr (fun t ht hW => ⟨_, rfl, ?_, ht⟩) (fun _ h => by cases h) d_F_product_9
  show v8.toInt = (a.toInt * b.toInt / 65536).bmod (2 ^ 32)
  exact by subst e8 e7 e4 e3 e1; exact fx_product a b
set_option maxHeartbeats 4000000 in
set_option maxRecDepth 100000 in
theorem c_J_floorDiv (l : Launch) (x y : Int64) (hy : y.toInt ≠ 0) (hx9 : -9223372036854775808 < x.toInt) : Met l y_J_floorDiv w_J_floorDiv ({ frames := 0, cells := 0, slots := 0, locals := 0 }) (fun v _ => v = [.long x, .long y].toArray) (vp_Sl (fun r => r.toInt = x.toInt.fdiv y.toInt)) 0 0 (fun _ => False) := by
  refine va_MetF (cc := b_J_floorDiv) (maxL := 6) (ret := some .long) (by decide +kernel) rfl ?_
  intro p e s m args below meth c s₁ B hml hv
  subst hv
  have hx := B.exec
  have hb := B.bytes
  have hr := B.returns
  have hts := atoms_spec (ws := w_J_floorDiv) B.pre
  have hown : s.vm.findClass R_J = some m.cls := findClass_of_methodNamed B.named
  have hlocks := B.notSynchronized
  have hl := lv_entry ([.long x, .long y]) (n := 6) (Nat.le_of_ble_eq_true rfl)
  rw [lg_entry_eq]
  generalize (lg_sl ([.long x, .long y]) ++ List.replicate (6 - (lg_sl ([.long x, .long y])).length) Slot.unset).toArray = ls at hl ⊢
  have hl : lv_has ls 6 [(0, .long x), (2, .long y)] := hl
  refine lv_lload_n hx hb d_J_floorDiv_0 rfl (lv_at hl 0 rfl) ?_
  refine lv_lload_n hx hb d_J_floorDiv_1 rfl (lv_at hl 1 rfl) ?_
  refine lv_ldiv hx hb d_J_floorDiv_2 (fun q => hy (by rw [q]; decide)) ?_
  refine lv_topl (fun v2 e2 => ?_)
  refine lv_lstore (lv' := [(4, .long v2), (0, .long x), (2, .long y)]) hx hb d_J_floorDiv_3 hl (by decide) rfl (fun ls hl => ?_)
  refine lv_lload_n hx hb d_J_floorDiv_5 rfl (lv_at hl 1 rfl) ?_
  refine lv_lload_n hx hb d_J_floorDiv_6 rfl (lv_at hl 2 rfl) ?_
  refine lv_lxor hx hb d_J_floorDiv_7 ?_
  refine lv_topl (fun v7 e7 => ?_)
  refine lv_lconst (v := 0) hx hb d_J_floorDiv_8 (by decide) ?_
  refine W.lcmp hx hb d_J_floorDiv_9 ?_
  refine lv_if_ge (tgt := 27) hx hb d_J_floorDiv_10 (by decide) (fun c10 => ?_) (fun c10 => ?_)
  · skip
    have c10 := (lg_cmp_ge _ _).mp c10
    refine lv_lload hx hb d_J_floorDiv_27 (lv_at hl 0 rfl) ?_
    refine W.lret (v := v2) hx hb hr (fun t ht hW => ⟨_, rfl, ?_, ht⟩) (fun _ h => by cases h) d_J_floorDiv_29
    show v2.toInt = x.toInt.fdiv y.toInt
    exact fx_fd1 x y v2 hy hx9 e2 (by first | exact Or.inl (by rw [← e7]; exact Int64.not_lt.mpr c10) | exact Or.inr (e16.symm.trans c19))
  · skip
    have c10 := (not_congr (lg_cmp_ge _ _)).mp c10
    refine lv_lload hx hb d_J_floorDiv_13 (lv_at hl 0 rfl) ?_
    refine lv_lload_n hx hb d_J_floorDiv_15 rfl (lv_at hl 2 rfl) ?_
    refine lv_lmul hx hb d_J_floorDiv_16 ?_
    refine lv_topl (fun v16 e16 => ?_)
    refine lv_lload_n hx hb d_J_floorDiv_17 rfl (lv_at hl 1 rfl) ?_
    refine W.lcmp hx hb d_J_floorDiv_18 ?_
    refine lv_if_eq (tgt := 27) hx hb d_J_floorDiv_19 (by decide) (fun c19 => ?_) (fun c19 => ?_)
    · skip
      have c19 := (lg_cmp_eq _ _).mp c19
      refine lv_lload hx hb d_J_floorDiv_27 (lv_at hl 0 rfl) ?_
      refine W.lret (v := v2) hx hb hr (fun t ht hW => ⟨_, rfl, ?_, ht⟩) (fun _ h => by cases h) d_J_floorDiv_29
      show v2.toInt = x.toInt.fdiv y.toInt
      exact fx_fd1 x y v2 hy hx9 e2 (by first | exact Or.inl (by rw [← e7]; exact Int64.not_lt.mpr c10) | exact Or.inr (e16.symm.trans c19))
    · skip
      have c19 := (not_congr (lg_cmp_eq _ _)).mp c19
      refine lv_lload hx hb d_J_floorDiv_22 (lv_at hl 0 rfl) ?_
      refine lv_lconst (v := 1) hx hb d_J_floorDiv_24 (by decide) ?_
      refine lv_lsub hx hb d_J_floorDiv_25 ?_
      refine lv_topl (fun v25 e25 => ?_)
      refine W.lret (v := v25) hx hb hr (fun t ht hW => ⟨_, rfl, ?_, ht⟩) (fun _ h => by cases h) d_J_floorDiv_26
      show v25.toInt = x.toInt.fdiv y.toInt
      exact fx_fd2 x y v2 v25 v16 hy hx9 e2 (by rw [← e7]; exact Int64.not_le.mp c10) e16 c19 e25
set_option maxHeartbeats 4000000 in
set_option maxRecDepth 100000 in
theorem c_F_quotient (l : Launch) (h0 : Nat) (a b : Int32)  : Met l y_F_quotient w_F_quotient ({ frames := 2, cells := 0, slots := 0, locals := 60 }) (fun v _ => v = [.ref h0, .int a, .int b].toArray) (vp_Si (fun r => r.toInt = sp_quot a.toInt b.toInt)) 0 0 (fun _ => False) := by
  refine Met.ofW (cc := b_F_quotient) (maxL := 3) (ret := some .int) (by decide +kernel) rfl ?_
  intro p e s m args below meth c s₁ B hml hv
  subst hv
  have hx := B.exec
  have hb := B.bytes
  have hr := B.returns
  have hts := atoms_spec (ws := w_F_quotient) B.pre
  have hown : s.vm.findClass R_F = some m.cls := findClass_of_methodNamed B.named
  have hlocks := B.notSynchronized
  have hl := lv_entry ([.ref h0, .int a, .int b]) (n := 3) (Nat.le_of_ble_eq_true rfl)
  rw [lg_entry_eq]
  generalize (lg_sl ([.ref h0, .int a, .int b]) ++ List.replicate (3 - (lg_sl ([.ref h0, .int a, .int b])).length) Slot.unset).toArray = ls at hl ⊢
  have hl : lv_has ls 3 [(0, .ref h0), (1, .int a), (2, .int b)] := hl
  refine lv_iload_n hx hb d_F_quotient_0 rfl (lv_at hl 2 rfl) ?_
  refine lv_if_ne (tgt := 24) hx hb d_F_quotient_1 (by decide) (fun c1 => ?_) (fun c1 => ?_)
  · skip
    refine lv_ldc2 (v := 65536) hx hb hown (hts (.constantLong R_F 11 65536) (List.mem_cons_of_mem _ (tm (by decide +kernel) rfl))) d_F_quotient_24 ?_
    refine lv_iload_n hx hb d_F_quotient_27 rfl (lv_at hl 1 rfl) ?_
    refine lv_i2l hx hb d_F_quotient_28 rfl ?_
    refine lv_topl (fun v28 e28 => ?_)
    refine lv_lmul hx hb d_F_quotient_29 ?_
    refine lv_topl (fun v29 e29 => ?_)
    refine lv_iload_n hx hb d_F_quotient_30 rfl (lv_at hl 2 rfl) ?_
    refine lv_i2l hx hb d_F_quotient_31 rfl ?_
    refine lv_topl (fun v31 e31 => ?_)
    refine vp_callSl (W.runS (As := [.long v29, .long v31]) (rest := []) ⟨hx, hb, hml, hown, hts⟩ (c_J_floorDiv l v29 v31 (by rw [e31]; exact fx_ne0 b c1) (by rw [fx_l16 a v29 (by rw [e29, e28])]; have := fx_i32 a; omega)) (va_cwS 2 hts g_F_13 rfl rfl rfl (by decide +kernel) ⟨Nat.le_of_ble_eq_true rfl, Nat.le_of_ble_eq_true rfl⟩) preEq rfl rfl hl.1 rfl (lv_room (Nat.le_of_ble_eq_true rfl)) d_F_quotient_32 ⟨Nat.zero_le _, Nat.zero_le _⟩) (fun v32 e32 => ?_)
    try dsimp only at e32
    refine vp_callSi (W.runS (As := [.long v32]) (rest := []) ⟨hx, hb, hml, hown, hts⟩ (c_F_cut l v32 ) (cwS 1 hts g_F_19 rfl rfl rfl (by decide +kernel) ⟨Nat.le_of_ble_eq_true rfl, Nat.le_of_ble_eq_true rfl⟩) preEq rfl rfl hl.1 rfl (lv_room (Nat.le_of_ble_eq_true rfl)) d_F_quotient_35 ⟨Nat.zero_le _, Nat.zero_le _⟩) (fun v35 e35 => ?_)
    try dsimp only at e35
    refine W.iret (v := v35) hx hb hr (fun t ht hW => ⟨_, rfl, ?_, ht⟩) (fun _ h => by cases h) d_F_quotient_38
    show v35.toInt = sp_quot a.toInt b.toInt
    exact fx_q1 a b v35 v29 v31 v32 c1 (by rw [e29, e28]) e31 e32 e35
  · skip
    refine lv_iload_n hx hb d_F_quotient_4 rfl (lv_at hl 1 rfl) ?_
    refine lv_if_le (tgt := 13) hx hb d_F_quotient_5 (by decide) (fun c5 => ?_) (fun c5 => ?_)
    · skip
      refine lv_iload_n hx hb d_F_quotient_13 rfl (lv_at hl 1 rfl) ?_
      refine lv_if_ge (tgt := 22) hx hb d_F_quotient_14 (by decide) (fun c14 => ?_) (fun c14 => ?_)
      · skip
        refine lv_iconst (v := 0) hx hb d_F_quotient_22 (by decide) ?_
        refine W.iret (v := 0) hx hb hr (fun t ht hW => ⟨_, rfl, ?_, ht⟩) (fun _ h => by cases h) d_F_quotient_23
        show (0 : Int32).toInt = sp_quot a.toInt b.toInt
        exact fx_q00 a b c1 c5 c14
      · skip
        refine lv_ldc (v := (-2147483648)) hx hb hown (hts (.constant R_F 10 (-2147483648)) (List.mem_cons_of_mem _ (tm (by decide +kernel) rfl))) d_F_quotient_17 ?_
        refine lv_goto (tgt := 23) hx hb d_F_quotient_19 (by decide) ?_
        refine W.iret (v := (-2147483648)) hx hb hr (fun t ht hW => ⟨_, rfl, ?_, ht⟩) (fun _ h => by cases h) d_F_quotient_23
        show (-2147483648 : Int32).toInt = sp_quot a.toInt b.toInt
        exact fx_q0n a b c1 c14
    · skip
      refine lv_ldc (v := 2147483647) hx hb hown (hts (.constant R_F 9 2147483647) (List.mem_cons_of_mem _ (tm (by decide +kernel) rfl))) d_F_quotient_8 ?_
      refine lv_goto (tgt := 23) hx hb d_F_quotient_10 (by decide) ?_
      refine W.iret (v := 2147483647) hx hb hr (fun t ht hW => ⟨_, rfl, ?_, ht⟩) (fun _ h => by cases h) d_F_quotient_23
      show (2147483647 : Int32).toInt = sp_quot a.toInt b.toInt
      exact fx_q0p a b c1 c5
set_option maxHeartbeats 4000000 in
set_option maxRecDepth 100000 in
theorem c_F_root (l : Launch) (h0 : Nat) (a : Int32)  : Met l y_F_root w_F_root ({ frames := 1, cells := 0, slots := 0, locals := 30 }) (fun v _ => v = [.ref h0, .int a].toArray) (vp_Si (fun r => sp_root a.toInt r.toInt)) 0 0 (fun _ => False) := by
  refine Met.ofW (cc := b_F_root) (maxL := 2) (ret := some .int) (by decide +kernel) rfl ?_
  intro p e s m args below meth c s₁ B hml hv
  subst hv
  have hx := B.exec
  have hb := B.bytes
  have hr := B.returns
  have hts := atoms_spec (ws := w_F_root) B.pre
  have hown : s.vm.findClass R_F = some m.cls := findClass_of_methodNamed B.named
  have hlocks := B.notSynchronized
  have hl := lv_entry ([.ref h0, .int a]) (n := 2) (Nat.le_of_ble_eq_true rfl)
  rw [lg_entry_eq]
  generalize (lg_sl ([.ref h0, .int a]) ++ List.replicate (2 - (lg_sl ([.ref h0, .int a])).length) Slot.unset).toArray = ls at hl ⊢
  have hl : lv_has ls 2 [(0, .ref h0), (1, .int a)] := hl
  refine lv_iload_n hx hb d_F_root_0 rfl (lv_at hl 1 rfl) ?_
  refine lv_if_ge (tgt := 6) hx hb d_F_root_1 (by decide) (fun c1 => ?_) (fun c1 => ?_)
  · skip
    refine lv_ldc2 (v := 65536) hx hb hown (hts (.constantLong R_F 11 65536) (List.mem_cons_of_mem _ (tm (by decide +kernel) rfl))) d_F_root_6 ?_
    refine lv_iload_n hx hb d_F_root_9 rfl (lv_at hl 1 rfl) ?_
    refine lv_i2l hx hb d_F_root_10 rfl ?_
    refine lv_topl (fun v10 e10 => ?_)
    refine lv_lmul hx hb d_F_root_11 ?_
    refine lv_topl (fun v11 e11 => ?_)
    refine vp_callSi (W.runS (As := [.long v11]) (rest := []) ⟨hx, hb, hml, hown, hts⟩ (c_F_wholeRoot l v11 (fx_rootb a v11 c1 (by rw [e11, e10])).1 (fx_rootb a v11 c1 (by rw [e11, e10])).2) (cwS 1 hts g_F_23 rfl rfl rfl (by decide +kernel) ⟨Nat.le_of_ble_eq_true rfl, Nat.le_of_ble_eq_true rfl⟩) preEq rfl rfl hl.1 rfl (lv_room (Nat.le_of_ble_eq_true rfl)) d_F_root_12 ⟨Nat.zero_le _, Nat.zero_le _⟩) (fun v12 e12 => ?_)
    try dsimp only at e12
    refine W.iret (v := v12) hx hb hr (fun t ht hW => ⟨_, rfl, ?_, ht⟩) (fun _ h => by cases h) d_F_root_15
    show sp_root a.toInt v12.toInt
    exact fx_root1 a v12 v11 c1 (by rw [e11, e10]) e12
  · skip
    refine lv_iconst (v := 0) hx hb d_F_root_4 (by decide) ?_
    refine W.iret (v := 0) hx hb hr (fun t ht hW => ⟨_, rfl, ?_, ht⟩) (fun _ h => by cases h) d_F_root_5
    show sp_root a.toInt (0 : Int32).toInt
    exact fx_root0 a c1
set_option maxHeartbeats 4000000 in
set_option maxRecDepth 100000 in
theorem c_F_oneByRoot (l : Launch) (h0 : Nat) (a : Int32)  : Met l y_F_oneByRoot w_F_oneByRoot ({ frames := 1, cells := 0, slots := 0, locals := 30 }) (fun v _ => v = [.ref h0, .int a].toArray) (vp_Si (fun r => sp_obr a.toInt r.toInt)) 0 0 (fun _ => False) := by
  refine Met.ofW (cc := b_F_oneByRoot) (maxL := 2) (ret := some .int) (by decide +kernel) rfl ?_
  intro p e s m args below meth c s₁ B hml hv
  subst hv
  have hx := B.exec
  have hb := B.bytes
  have hr := B.returns
  have hts := atoms_spec (ws := w_F_oneByRoot) B.pre
  have hown : s.vm.findClass R_F = some m.cls := findClass_of_methodNamed B.named
  have hlocks := B.notSynchronized
  have hl := lv_entry ([.ref h0, .int a]) (n := 2) (Nat.le_of_ble_eq_true rfl)
  rw [lg_entry_eq]
  generalize (lg_sl ([.ref h0, .int a]) ++ List.replicate (2 - (lg_sl ([.ref h0, .int a])).length) Slot.unset).toArray = ls at hl ⊢
  have hl : lv_has ls 2 [(0, .ref h0), (1, .int a)] := hl
  refine lv_iload_n hx hb d_F_oneByRoot_0 rfl (lv_at hl 1 rfl) ?_
  refine lv_if_gt (tgt := 7) hx hb d_F_oneByRoot_1 (by decide) (fun c1 => ?_) (fun c1 => ?_)
  · skip
    refine lv_ldc2 (v := 281474976710656) hx hb hown (hts (.constantLong R_F 26 281474976710656) (List.mem_cons_of_mem _ (tm (by decide +kernel) rfl))) d_F_oneByRoot_7 ?_
    refine lv_iload_n hx hb d_F_oneByRoot_10 rfl (lv_at hl 1 rfl) ?_
    refine lv_i2l hx hb d_F_oneByRoot_11 rfl ?_
    refine lv_topl (fun v11 e11 => ?_)
    refine lv_ldiv hx hb d_F_oneByRoot_12 (fx_obrz a v11 c1 e11) ?_
    refine lv_topl (fun v12 e12 => ?_)
    refine vp_callSi (W.runS (As := [.long v12]) (rest := []) ⟨hx, hb, hml, hown, hts⟩ (c_F_wholeRoot l v12 (fx_obrb a v12 v11 c1 e11 e12).1 (fx_obrb a v12 v11 c1 e11 e12).2) (cwS 1 hts g_F_23 rfl rfl rfl (by decide +kernel) ⟨Nat.le_of_ble_eq_true rfl, Nat.le_of_ble_eq_true rfl⟩) preEq rfl rfl hl.1 rfl (lv_room (Nat.le_of_ble_eq_true rfl)) d_F_oneByRoot_13 ⟨Nat.zero_le _, Nat.zero_le _⟩) (fun v13 e13 => ?_)
    try dsimp only at e13
    refine W.iret (v := v13) hx hb hr (fun t ht hW => ⟨_, rfl, ?_, ht⟩) (fun _ h => by cases h) d_F_oneByRoot_16
    show sp_obr a.toInt v13.toInt
    exact fx_obr1 a v13 v12 v11 c1 e11 e12 e13
  · skip
    refine lv_ldc (v := 2147483647) hx hb hown (hts (.constant R_F 9 2147483647) (List.mem_cons_of_mem _ (tm (by decide +kernel) rfl))) d_F_oneByRoot_4 ?_
    refine W.iret (v := 2147483647) hx hb hr (fun t ht hW => ⟨_, rfl, ?_, ht⟩) (fun _ h => by cases h) d_F_oneByRoot_6
    show sp_obr a.toInt (2147483647 : Int32).toInt
    exact fx_obr0 a c1
set_option maxHeartbeats 4000000 in
set_option maxRecDepth 100000 in
theorem c_F_channel (l : Launch) (h0 : Nat) (a : Int32)  : Met l y_F_channel w_F_channel ({ frames := 1, cells := 0, slots := 0, locals := 23 }) (fun v _ => v = [.ref h0, .int a].toArray) (vp_Si (fun r => r.toInt = sp_chan a.toInt)) 0 0 (fun _ => False) := by
  refine Met.ofW (cc := b_F_channel) (maxL := 3) (ret := some .int) (by decide +kernel) rfl ?_
  intro p e s m args below meth c s₁ B hml hv
  subst hv
  have hx := B.exec
  have hb := B.bytes
  have hr := B.returns
  have hts := atoms_spec (ws := w_F_channel) B.pre
  have hown : s.vm.findClass R_F = some m.cls := findClass_of_methodNamed B.named
  have hlocks := B.notSynchronized
  have hl := lv_entry ([.ref h0, .int a]) (n := 3) (Nat.le_of_ble_eq_true rfl)
  rw [lg_entry_eq]
  generalize (lg_sl ([.ref h0, .int a]) ++ List.replicate (3 - (lg_sl ([.ref h0, .int a])).length) Slot.unset).toArray = ls at hl ⊢
  have hl : lv_has ls 3 [(0, .ref h0), (1, .int a)] := hl
  refine lv_iconst (v := 0) hx hb d_F_channel_0 (by decide) ?_
  refine lv_iload_n hx hb d_F_channel_1 rfl (lv_at hl 1 rfl) ?_
  refine lv_ldc (v := 65536) hx hb hown (hts (.constant R_F 67 65536) (List.mem_cons_of_mem _ (tm (by decide +kernel) rfl))) d_F_channel_2 ?_
  refine va_mmin hx hb (hml.trans hl.1.symm) hown (hts (.methodLink R_F 68 Lib.Math.min.name) (List.mem_cons_of_mem _ (tm (by decide +kernel) rfl))) (hts (.static Lib.Math.min.name) (List.mem_cons_of_mem _ (tm (by decide +kernel) rfl))) (hts (.initialized "java/lang/Math") (List.mem_cons_of_mem _ (tm (by decide +kernel) rfl))) (hts _ (List.mem_cons_of_mem _ (tm ic_J_minI rfl))) (Nat.le_of_ble_eq_true rfl) (Nat.le_of_ble_eq_true rfl) (Nat.zero_le _) (Nat.zero_le _) d_F_channel_4 ?_
  refine lv_topi (fun v4 e4 => ?_)
  refine va_mmax hx hb (hml.trans hl.1.symm) hown (hts (.methodLink R_F 72 Lib.Math.max.name) (List.mem_cons_of_mem _ (tm (by decide +kernel) rfl))) (hts (.static Lib.Math.max.name) (List.mem_cons_of_mem _ (tm (by decide +kernel) rfl))) (hts (.initialized "java/lang/Math") (List.mem_cons_of_mem _ (tm (by decide +kernel) rfl))) (hts _ (List.mem_cons_of_mem _ (tm ic_J_maxI rfl))) (Nat.le_of_ble_eq_true rfl) (Nat.le_of_ble_eq_true rfl) (Nat.zero_le _) (Nat.zero_le _) d_F_channel_7 ?_
  refine lv_topi (fun v7 e7 => ?_)
  refine lv_istore_n (lv' := [(2, .int v7), (0, .ref h0), (1, .int a)]) hx hb d_F_channel_10 rfl hl (by decide) rfl (fun ls hl => ?_)
  refine lv_sipush (v := 255) hx hb d_F_channel_11 (by decide) ?_
  refine lv_iload_n hx hb d_F_channel_14 rfl (lv_at hl 0 rfl) ?_
  refine lv_imul hx hb d_F_channel_15 ?_
  refine lv_topi (fun v15 e15 => ?_)
  refine lv_ldc (v := 32768) hx hb hown (hts (.constant R_F 75 32768) (List.mem_cons_of_mem _ (tm (by decide +kernel) rfl))) d_F_channel_16 ?_
  refine lv_iadd hx hb d_F_channel_18 ?_
  refine lv_topi (fun v18 e18 => ?_)
  refine lv_bipush (v := 16) hx hb d_F_channel_19 (by decide) ?_
  refine lv_ishr hx hb d_F_channel_21 ?_
  refine lv_topi (fun v21 e21 => ?_)
  refine W.iret (v := v21) hx hb hr (fun t ht hW => ⟨_, rfl, ?_, ht⟩) (fun _ h => by cases h) d_F_channel_22
  show v21.toInt = sp_chan a.toInt
  exact fx_chan a v4 v7 v15 v18 v21 e4 e7 e15 e18 e21
set_option maxHeartbeats 4000000 in
set_option maxRecDepth 100000 in
theorem c_F_fromHalf (l : Launch) (h0 : Nat) (h : Int32)  : Met l y_F_fromHalf w_F_fromHalf ({ frames := 2, cells := 0, slots := 0, locals := 60 }) (fun v _ => v = [.ref h0, .int h].toArray) (vp_Si (fun r => r.toInt = sp_fh h.toBitVec.toNat)) 0 0 (fun _ => False) := by
  refine Met.ofW (cc := b_F_fromHalf) (maxL := 10) (ret := some .int) (by decide +kernel) rfl ?_
  intro p e s m args below meth c s₁ B hml hv
  subst hv
  have hx := B.exec
  have hb := B.bytes
  have hr := B.returns
  have hts := atoms_spec (ws := w_F_fromHalf) B.pre
  have hown : s.vm.findClass R_F = some m.cls := findClass_of_methodNamed B.named
  have hlocks := B.notSynchronized
  have hl := lv_entry ([.ref h0, .int h]) (n := 10) (Nat.le_of_ble_eq_true rfl)
  rw [lg_entry_eq]
  generalize (lg_sl ([.ref h0, .int h]) ++ List.replicate (10 - (lg_sl ([.ref h0, .int h])).length) Slot.unset).toArray = ls at hl ⊢
  have hl : lv_has ls 10 [(0, .ref h0), (1, .int h)] := hl
  refine lv_iload_n hx hb d_F_fromHalf_0 rfl (lv_at hl 1 rfl) ?_
  refine lv_ldc (v := 32768) hx hb hown (hts (.constant R_F 75 32768) (List.mem_cons_of_mem _ (tm (by decide +kernel) rfl))) d_F_fromHalf_1 ?_
  refine lv_iand hx hb d_F_fromHalf_3 ?_
  refine lv_topi (fun v3 e3 => ?_)
  refine jn_i (J := 12) (rest := []) (fun v => v = if v3 = 0 then 0 else 1) (fun v12 e12 => ?_) (fun K12 => ?_)
  · skip
    refine lv_istore_n (lv' := [(2, .int v12), (0, .ref h0), (1, .int h)]) hx hb d_F_fromHalf_12 rfl hl (by decide) rfl (fun ls hl => ?_)
    have f12 := fh_s12 (fh_s h v3 e3) e12
    refine lv_iload_n hx hb d_F_fromHalf_13 rfl (lv_at hl 2 rfl) ?_
    refine lv_bipush (v := 10) hx hb d_F_fromHalf_14 (by decide) ?_
    refine lv_ishr hx hb d_F_fromHalf_16 ?_
    refine lv_topi (fun v16 e16 => ?_)
    refine lv_bipush (v := 31) hx hb d_F_fromHalf_17 (by decide) ?_
    refine lv_iand hx hb d_F_fromHalf_19 ?_
    refine lv_topi (fun v19 e19 => ?_)
    have f19 := fh_e h v16 v19 e16 e19
    refine lv_istore_n (lv' := [(3, .int v19), (2, .int v12), (0, .ref h0), (1, .int h)]) hx hb d_F_fromHalf_20 rfl hl (by decide) rfl (fun ls hl => ?_)
    refine lv_iload_n hx hb d_F_fromHalf_21 rfl (lv_at hl 3 rfl) ?_
    refine lv_sipush (v := 1023) hx hb d_F_fromHalf_22 (by decide) ?_
    refine lv_iand hx hb d_F_fromHalf_25 ?_
    refine lv_topi (fun v25 e25 => ?_)
    refine lv_istore (lv' := [(4, .int v25), (3, .int v19), (2, .int v12), (0, .ref h0), (1, .int h)]) hx hb d_F_fromHalf_26 hl (by decide) rfl (fun ls hl => ?_)
    have f25 := fh_f h v25 e25
    refine lv_iload_n hx hb d_F_fromHalf_28 rfl (lv_at hl 1 rfl) ?_
    refine lv_bipush (v := 31) hx hb d_F_fromHalf_29 (by decide) ?_
    refine lv_icmp_ne (tgt := 55) hx hb d_F_fromHalf_31 (by decide) (fun c31 => ?_) (fun c31 => ?_)
    · skip
      refine lv_iload_n hx hb d_F_fromHalf_55 rfl (lv_at hl 1 rfl) ?_
      refine jn_l (J := 72) (rest := []) (fun v => v.toInt = (sp_hD h.toBitVec.toNat : Int)) (fun v72 e72 => ?_) (fun K72 => ?_)
      · skip
        refine lv_lstore (lv' := [(5, .long v72), (4, .int v25), (3, .int v19), (2, .int v12), (0, .ref h0), (1, .int h)]) hx hb d_F_fromHalf_72 hl (by decide) rfl (fun ls hl => ?_)
        refine lv_iload_n hx hb d_F_fromHalf_74 rfl (lv_at hl 2 rfl) ?_
        refine lv_iconst (v := 1) hx hb d_F_fromHalf_75 (by decide) ?_
        refine va_mmax hx hb (hml.trans hl.1.symm) hown (hts (.methodLink R_F 72 Lib.Math.max.name) (List.mem_cons_of_mem _ (tm (by decide +kernel) rfl))) (hts (.static Lib.Math.max.name) (List.mem_cons_of_mem _ (tm (by decide +kernel) rfl))) (hts (.initialized "java/lang/Math") (List.mem_cons_of_mem _ (tm (by decide +kernel) rfl))) (hts _ (List.mem_cons_of_mem _ (tm ic_J_maxI rfl))) (Nat.le_of_ble_eq_true rfl) (Nat.le_of_ble_eq_true rfl) (Nat.zero_le _) (Nat.zero_le _) d_F_fromHalf_76 ?_
        refine lv_topi (fun v76 e76 => ?_)
        have f76 := fh_st f19 e76
        refine lv_istore (lv' := [(7, .int v76), (5, .long v72), (4, .int v25), (3, .int v19), (2, .int v12), (0, .ref h0), (1, .int h)]) hx hb d_F_fromHalf_79 hl (by decide) rfl (fun ls hl => ?_)
        refine lv_iload_n hx hb d_F_fromHalf_81 rfl (lv_at hl 4 rfl) ?_
        refine jn_l (J := 93) (rest := []) (fun v => v.toInt = sp_hZ h.toBitVec.toNat) (fun v93 e93 => ?_) (fun K93 => ?_)
        · skip
          refine lv_lstore (lv' := [(8, .long v93), (7, .int v76), (5, .long v72), (4, .int v25), (3, .int v19), (2, .int v12), (0, .ref h0), (1, .int h)]) hx hb d_F_fromHalf_93 hl (by decide) rfl (fun ls hl => ?_)
          refine lv_iload hx hb d_F_fromHalf_95 (lv_at hl 1 rfl) ?_
          refine lv_bipush (v := 9) hx hb d_F_fromHalf_97 (by decide) ?_
          refine lv_icmp_lt (tgt := 113) hx hb d_F_fromHalf_99 (by decide) (fun c99 => ?_) (fun c99 => ?_)
          · skip
            refine lv_lload hx hb d_F_fromHalf_113 (lv_at hl 0 rfl) ?_
            refine lv_bipush (v := 9) hx hb d_F_fromHalf_115 (by decide) ?_
            refine lv_iload hx hb d_F_fromHalf_117 (lv_at hl 1 rfl) ?_
            refine lv_isub hx hb d_F_fromHalf_119 ?_
            refine lv_topi (fun v119 e119 => ?_)
            refine lv_lshr hx hb d_F_fromHalf_120 rfl ?_
            refine lv_topl (fun v120 e120 => ?_)
            refine vp_callSi (W.runS (As := [.long v120]) (rest := []) ⟨hx, hb, hml, hown, hts⟩ (c_F_cut l v120 ) (cwS 1 hts g_F_19 rfl rfl rfl (by decide +kernel) ⟨Nat.le_of_ble_eq_true rfl, Nat.le_of_ble_eq_true rfl⟩) preEq rfl rfl hl.1 rfl (lv_room (Nat.le_of_ble_eq_true rfl)) d_F_fromHalf_121 ⟨Nat.zero_le _, Nat.zero_le _⟩) (fun v121 e121 => ?_)
            try dsimp only at e121
            refine W.iret (v := v121) hx hb hr (fun t ht hW => ⟨_, rfl, ?_, ht⟩) (fun _ h => by cases h) d_F_fromHalf_124
            show v121.toInt = sp_fh h.toBitVec.toNat
            exact by rw [e121, sp_fh, if_neg (fun z => c31 ((fh_31 f19).mpr z)), sp_cut]; first | rw [fh_hi f76 (by omega) c99 e93 (fh_Zb _) e108 e109] | rw [fh_lo f76 (by omega) c99 e93 e119 e120]
          · skip
            refine lv_lload hx hb d_F_fromHalf_102 (lv_at hl 0 rfl) ?_
            refine lv_iload hx hb d_F_fromHalf_104 (lv_at hl 1 rfl) ?_
            refine lv_bipush (v := 9) hx hb d_F_fromHalf_106 (by decide) ?_
            refine lv_isub hx hb d_F_fromHalf_108 ?_
            refine lv_topi (fun v108 e108 => ?_)
            refine lv_lshl hx hb d_F_fromHalf_109 rfl ?_
            refine lv_topl (fun v109 e109 => ?_)
            refine lv_goto (tgt := 121) hx hb d_F_fromHalf_110 (by decide) ?_
            refine vp_callSi (W.runS (As := [.long v109]) (rest := []) ⟨hx, hb, hml, hown, hts⟩ (c_F_cut l v109 ) (cwS 1 hts g_F_19 rfl rfl rfl (by decide +kernel) ⟨Nat.le_of_ble_eq_true rfl, Nat.le_of_ble_eq_true rfl⟩) preEq rfl rfl hl.1 rfl (lv_room (Nat.le_of_ble_eq_true rfl)) d_F_fromHalf_121 ⟨Nat.zero_le _, Nat.zero_le _⟩) (fun v121 e121 => ?_)
            try dsimp only at e121
            refine W.iret (v := v121) hx hb hr (fun t ht hW => ⟨_, rfl, ?_, ht⟩) (fun _ h => by cases h) d_F_fromHalf_124
            show v121.toInt = sp_fh h.toBitVec.toNat
            exact by rw [e121, sp_fh, if_neg (fun z => c31 ((fh_31 f19).mpr z)), sp_cut]; first | rw [fh_hi f76 (by omega) c99 e93 (fh_Zb _) e108 e109] | rw [fh_lo f76 (by omega) c99 e93 e119 e120]
        · skip
          refine lv_if_eq (tgt := 91) hx hb d_F_fromHalf_82 (by decide) (fun c82 => ?_) (fun c82 => ?_)
          · skip
            refine lv_lload hx hb d_F_fromHalf_91 (lv_at hl 1 rfl) ?_
            exact K93 _ (by first | exact fh_Z f12 e72 c82 rfl | exact fh_Zn f12 e72 c82 e87)
          · skip
            refine lv_lload hx hb d_F_fromHalf_85 (lv_at hl 1 rfl) ?_
            refine lv_lneg hx hb d_F_fromHalf_87 ?_
            refine lv_topl (fun v87 e87 => ?_)
            refine lv_goto (tgt := 93) hx hb d_F_fromHalf_88 (by decide) ?_
            exact K93 _ (by first | exact fh_Z f12 e72 c82 rfl | exact fh_Zn f12 e72 c82 e87)
      · skip
        refine lv_if_ne (tgt := 65) hx hb d_F_fromHalf_56 (by decide) (fun c56 => ?_) (fun c56 => ?_)
        · skip
          refine lv_sipush (v := 1024) hx hb d_F_fromHalf_65 (by decide) ?_
          refine lv_iload hx hb d_F_fromHalf_68 (lv_at hl 0 rfl) ?_
          refine lv_iadd hx hb d_F_fromHalf_70 ?_
          refine lv_topi (fun v70 e70 => ?_)
          refine lv_i2l hx hb d_F_fromHalf_71 rfl ?_
          refine lv_topl (fun v71 e71 => ?_)
          exact K72 _ (by first | exact fh_D0 f19 f25 c56 e61 | exact fh_D1 f19 f25 c56 e70 e71)
        · skip
          refine lv_iload hx hb d_F_fromHalf_59 (lv_at hl 0 rfl) ?_
          refine lv_i2l hx hb d_F_fromHalf_61 rfl ?_
          refine lv_topl (fun v61 e61 => ?_)
          refine lv_goto (tgt := 72) hx hb d_F_fromHalf_62 (by decide) ?_
          exact K72 _ (by first | exact fh_D0 f19 f25 c56 e61 | exact fh_D1 f19 f25 c56 e70 e71)
    · skip
      refine lv_iload hx hb d_F_fromHalf_34 (lv_at hl 0 rfl) ?_
      refine lv_if_eq (tgt := 43) hx hb d_F_fromHalf_36 (by decide) (fun c36 => ?_) (fun c36 => ?_)
      · skip
        refine lv_iload_n hx hb d_F_fromHalf_43 rfl (lv_at hl 2 rfl) ?_
        refine lv_if_eq (tgt := 52) hx hb d_F_fromHalf_44 (by decide) (fun c44 => ?_) (fun c44 => ?_)
        · skip
          refine lv_ldc (v := 2147483647) hx hb hown (hts (.constant R_F 9 2147483647) (List.mem_cons_of_mem _ (tm (by decide +kernel) rfl))) d_F_fromHalf_52 ?_
          refine W.iret (v := 2147483647) hx hb hr (fun t ht hW => ⟨_, rfl, ?_, ht⟩) (fun _ h => by cases h) d_F_fromHalf_54
          show (2147483647 : Int32).toInt = sp_fh h.toBitVec.toNat
          exact by rw [sp_fh, if_pos ((fh_31 f19).mp c31), if_pos ((fh_f0 f25).mp c36), if_pos (f12.mp c44)]; decide
        · skip
          refine lv_ldc (v := (-2147483648)) hx hb hown (hts (.constant R_F 10 (-2147483648)) (List.mem_cons_of_mem _ (tm (by decide +kernel) rfl))) d_F_fromHalf_47 ?_
          refine lv_goto (tgt := 54) hx hb d_F_fromHalf_49 (by decide) ?_
          refine W.iret (v := (-2147483648)) hx hb hr (fun t ht hW => ⟨_, rfl, ?_, ht⟩) (fun _ h => by cases h) d_F_fromHalf_54
          show (-2147483648 : Int32).toInt = sp_fh h.toBitVec.toNat
          exact by rw [sp_fh, if_pos ((fh_31 f19).mp c31), if_pos ((fh_f0 f25).mp c36), if_neg (fun z => c44 (f12.mpr z))]; decide
      · skip
        refine lv_iconst (v := 0) hx hb d_F_fromHalf_39 (by decide) ?_
        refine lv_goto (tgt := 54) hx hb d_F_fromHalf_40 (by decide) ?_
        refine W.iret (v := 0) hx hb hr (fun t ht hW => ⟨_, rfl, ?_, ht⟩) (fun _ h => by cases h) d_F_fromHalf_54
        show (0 : Int32).toInt = sp_fh h.toBitVec.toNat
        exact by rw [sp_fh, if_pos ((fh_31 f19).mp c31), if_neg (fun z => c36 ((fh_f0 f25).mpr z))]; decide
  · skip
    refine lv_if_eq (tgt := 11) hx hb d_F_fromHalf_4 (by decide) (fun c4 => ?_) (fun c4 => ?_)
    · skip
      refine lv_iconst (v := 0) hx hb d_F_fromHalf_11 (by decide) ?_
      exact K12 _ (by first | (rw [if_pos c4]) | (rw [if_neg c4]))
    · skip
      refine lv_iconst (v := 1) hx hb d_F_fromHalf_7 (by decide) ?_
      refine lv_goto (tgt := 12) hx hb d_F_fromHalf_8 (by decide) ?_
      exact K12 _ (by first | (rw [if_pos c4]) | (rw [if_neg c4]))
set_option maxHeartbeats 4000000 in
set_option maxRecDepth 100000 in
theorem c_F_toHalf (l : Launch) (h0 : Nat) (a : Int32)  : Met l y_F_toHalf w_F_toHalf ({ frames := 1, cells := 0, slots := 0, locals := 40 }) (fun v _ => v = [.ref h0, .int a].toArray) (vp_Si (fun r => r = nI (sp_th a.toInt))) 0 0 (fun _ => False) := by
  refine Met.ofW (cc := b_F_toHalf) (maxL := 8) (ret := some .int) (by decide +kernel) rfl ?_
  intro p e s m args below meth c s₁ B hml hv
  subst hv
  have hx := B.exec
  have hb := B.bytes
  have hr := B.returns
  have hts := atoms_spec (ws := w_F_toHalf) B.pre
  have hown : s.vm.findClass R_F = some m.cls := findClass_of_methodNamed B.named
  have hlocks := B.notSynchronized
  have hl := lv_entry ([.ref h0, .int a]) (n := 8) (Nat.le_of_ble_eq_true rfl)
  rw [lg_entry_eq]
  generalize (lg_sl ([.ref h0, .int a]) ++ List.replicate (8 - (lg_sl ([.ref h0, .int a])).length) Slot.unset).toArray = ls at hl ⊢
  have hl : lv_has ls 8 [(0, .ref h0), (1, .int a)] := hl
  refine lv_iload_n hx hb d_F_toHalf_0 rfl (lv_at hl 1 rfl) ?_
  refine jn_i (J := 10) (rest := []) (fun v => v = if a.toInt < 0 then 32768 else 0) (fun v10 e10 => ?_) (fun K10 => ?_)
  · skip
    refine lv_istore_n (lv' := [(2, .int v10), (0, .ref h0), (1, .int a)]) hx hb d_F_toHalf_10 rfl hl (by decide) rfl (fun ls hl => ?_)
    refine lv_iload_n hx hb d_F_toHalf_11 rfl (lv_at hl 2 rfl) ?_
    refine lv_i2l hx hb d_F_toHalf_12 rfl ?_
    refine lv_topl (fun v12 e12 => ?_)
    refine vp_callSl (W.runS (As := [.long v12]) (rest := []) ⟨hx, hb, hml, hown, hts⟩ (c_F_magnitude l v12 ) (cwS 1 hts g_F_35 rfl rfl rfl (by decide +kernel) ⟨Nat.le_of_ble_eq_true rfl, Nat.le_of_ble_eq_true rfl⟩) preEq rfl rfl hl.1 rfl (lv_room (Nat.le_of_ble_eq_true rfl)) d_F_toHalf_13 ⟨Nat.zero_le _, Nat.zero_le _⟩) (fun v13 e13 => ?_)
    try dsimp only at e13
    refine lv_lstore_n (lv' := [(3, .long v13), (2, .int v10), (0, .ref h0), (1, .int a)]) hx hb d_F_toHalf_16 rfl hl (by decide) rfl (fun ls hl => ?_)
    obtain ⟨fs, fs2, fs3⟩ := th_s a v12 v13 e12 e13
    have f4 := th_lt4 fs fs3
    refine lv_lload_n hx hb d_F_toHalf_17 rfl (lv_at hl 0 rfl) ?_
    refine lv_ldc2 (v := 4) hx hb hown (hts (.constantLong R_F 88 4) (List.mem_cons_of_mem _ (tm (by decide +kernel) rfl))) d_F_toHalf_18 ?_
    refine W.lcmp hx hb d_F_toHalf_21 ?_
    refine lv_if_ge (tgt := 33) hx hb d_F_toHalf_22 (by decide) (fun c22 => ?_) (fun c22 => ?_)
    · skip
      have c22 := (lg_cmp_ge _ _).mp c22
      have h4 := f4.mp c22
      refine lv_lload_n hx hb d_F_toHalf_33 rfl (lv_at hl 0 rfl) ?_
      refine vp_callSi (W.runS (As := [.long v13]) (rest := []) ⟨hx, hb, hml, hown, hts⟩ (c_F_highestBit l v13 (by omega) (by omega)) (cwS 1 hts g_F_90 rfl rfl rfl (by decide +kernel) ⟨Nat.le_of_ble_eq_true rfl, Nat.le_of_ble_eq_true rfl⟩) preEq rfl rfl hl.1 rfl (lv_room (Nat.le_of_ble_eq_true rfl)) d_F_toHalf_34 ⟨Nat.zero_le _, Nat.zero_le _⟩) (fun v34 e34 => ?_)
      try dsimp only at e34
      obtain ⟨t, f34, ht34, hp1, hp2⟩ := e34
      rw [fs2] at hp1 hp2
      have hp1 : 2 ^ t ≤ a.toInt.natAbs := by exact_mod_cast hp1
      have hp2 : a.toInt.natAbs < 2 ^ (t + 1) := by exact_mod_cast hp2
      have ht2 : 2 ≤ t := th_t2 (by omega) hp2
      have hdig := th_dig ht2 ht34 hp1 hp2
      have ht10 : 10 < v34 ↔ 10 < t := by rw [f34]; exact nI_ltI (a := 10) (by decide) (by omega)
      refine lv_istore (lv' := [(5, .int v34), (3, .long v13), (2, .int v10), (0, .ref h0), (1, .int a)]) hx hb d_F_toHalf_37 hl (by decide) rfl (fun ls hl => ?_)
      refine lv_iload hx hb d_F_toHalf_39 (lv_at hl 0 rfl) ?_
      refine lv_iconst (v := 1) hx hb d_F_toHalf_41 (by decide) ?_
      refine lv_isub hx hb d_F_toHalf_42 ?_
      refine lv_topi (fun v42 e42 => ?_)
      refine lv_istore (lv' := [(6, .int v42), (5, .int v34), (3, .long v13), (2, .int v10), (0, .ref h0), (1, .int a)]) hx hb d_F_toHalf_43 hl (by decide) rfl (fun ls hl => ?_)
      refine lv_iload hx hb d_F_toHalf_45 (lv_at hl 1 rfl) ?_
      refine lv_bipush (v := 10) hx hb d_F_toHalf_47 (by decide) ?_
      refine jn_i (J := 72) (rest := []) (fun v => v = nI (if t ≤ 10 then a.toInt.natAbs * 2 ^ (10 - t) else sp_ne a.toInt.natAbs (t - 10))) (fun v72 e72 => ?_) (fun K72 => ?_)
      · skip
        refine lv_istore (lv' := [(7, .int v72), (6, .int v42), (5, .int v34), (3, .long v13), (2, .int v10), (0, .ref h0), (1, .int a)]) hx hb d_F_toHalf_72 hl (by decide) rfl (fun ls hl => ?_)
        refine lv_iload_n hx hb d_F_toHalf_74 rfl (lv_at hl 4 rfl) ?_
        refine lv_iload hx hb d_F_toHalf_75 (lv_at hl 1 rfl) ?_
        refine lv_bipush (v := 10) hx hb d_F_toHalf_77 (by decide) ?_
        refine lv_ishl hx hb d_F_toHalf_79 ?_
        refine lv_topi (fun v79 e79 => ?_)
        refine lv_iload hx hb d_F_toHalf_80 (lv_at hl 0 rfl) ?_
        refine lv_sipush (v := 1024) hx hb d_F_toHalf_82 (by decide) ?_
        refine lv_isub hx hb d_F_toHalf_85 ?_
        refine lv_topi (fun v85 e85 => ?_)
        refine lv_iadd hx hb d_F_toHalf_86 ?_
        refine lv_topi (fun v86 e86 => ?_)
        refine lv_ior hx hb d_F_toHalf_87 ?_
        refine lv_topi (fun v87 e87 => ?_)
        refine W.iret (v := v87) hx hb hr (fun t ht hW => ⟨_, rfl, ?_, ht⟩) (fun _ h => by cases h) d_F_toHalf_88
        show v87 = nI (sp_th a.toInt)
        exact th_end1 e10 ht2 ht34 h4 hp1 hp2 (th_fin ht2 ht34 f34 e42 e72 hdig.1 hdig.2 e79 e85 e86) e87
      · skip
        refine lv_icmp_gt (tgt := 63) hx hb d_F_toHalf_49 (by decide) (fun c49 => ?_) (fun c49 => ?_)
        · skip
          have h10 := ht10.mp c49
          refine lv_lload_n hx hb d_F_toHalf_63 rfl (lv_at hl 2 rfl) ?_
          refine lv_iload hx hb d_F_toHalf_64 (lv_at hl 1 rfl) ?_
          refine lv_bipush (v := 10) hx hb d_F_toHalf_66 (by decide) ?_
          refine lv_isub hx hb d_F_toHalf_68 ?_
          refine lv_topi (fun v68 e68 => ?_)
          refine vp_callSi (W.runS (As := [.long v13, .int v68]) (rest := []) ⟨hx, hb, hml, hown, hts⟩ (c_F_nearestEven l v13 v68 a.toInt.natAbs (t - 10) fs fs3 (by rw [e68, f34]; exact pk_sub (b := 10) (by omega)) (by omega)) (cwS 2 hts g_F_93 rfl rfl rfl (by decide +kernel) ⟨Nat.le_of_ble_eq_true rfl, Nat.le_of_ble_eq_true rfl⟩) preEq rfl rfl hl.1 rfl (lv_room (Nat.le_of_ble_eq_true rfl)) d_F_toHalf_69 ⟨Nat.zero_le _, Nat.zero_le _⟩) (fun v69 e69 => ?_)
          try dsimp only at e69
          exact K72 _ (by first | (rw [if_pos (show t ≤ 10 by omega)]; exact th_d1 fs f34 (by omega) e57 e58 e59) | (rw [if_neg (show ¬ t ≤ 10 by omega)]; exact e69))
        · skip
          have h10 : ¬ 10 < t := fun z => c49 (ht10.mpr z)
          refine lv_lload_n hx hb d_F_toHalf_52 rfl (lv_at hl 2 rfl) ?_
          refine lv_bipush (v := 10) hx hb d_F_toHalf_53 (by decide) ?_
          refine lv_iload hx hb d_F_toHalf_55 (lv_at hl 1 rfl) ?_
          refine lv_isub hx hb d_F_toHalf_57 ?_
          refine lv_topi (fun v57 e57 => ?_)
          refine lv_lshl hx hb d_F_toHalf_58 rfl ?_
          refine lv_topl (fun v58 e58 => ?_)
          refine lv_l2i hx hb d_F_toHalf_59 rfl ?_
          refine lv_topi (fun v59 e59 => ?_)
          refine lv_goto (tgt := 72) hx hb d_F_toHalf_60 (by decide) ?_
          exact K72 _ (by first | (rw [if_pos (show t ≤ 10 by omega)]; exact th_d1 fs f34 (by omega) e57 e58 e59) | (rw [if_neg (show ¬ t ≤ 10 by omega)]; exact e69))
    · skip
      have c22 := (not_congr (lg_cmp_ge _ _)).mp c22
      have h4 : ¬ 4 ≤ a.toInt.natAbs := fun z => c22 (f4.mpr z)
      refine lv_iload_n hx hb d_F_toHalf_25 rfl (lv_at hl 1 rfl) ?_
      refine lv_lload_n hx hb d_F_toHalf_26 rfl (lv_at hl 0 rfl) ?_
      refine lv_bipush (v := 8) hx hb d_F_toHalf_27 (by decide) ?_
      refine lv_lshl hx hb d_F_toHalf_29 rfl ?_
      refine lv_topl (fun v29 e29 => ?_)
      refine lv_l2i hx hb d_F_toHalf_30 rfl ?_
      refine lv_topi (fun v30 e30 => ?_)
      refine lv_ior hx hb d_F_toHalf_31 ?_
      refine lv_topi (fun v31 e31 => ?_)
      refine W.iret (v := v31) hx hb hr (fun t ht hW => ⟨_, rfl, ?_, ht⟩) (fun _ h => by cases h) d_F_toHalf_32
      show v31 = nI (sp_th a.toInt)
      exact th_end0 e10 (by omega) (th_small fs e29 e30) e31
  · skip
    refine lv_if_ge (tgt := 9) hx hb d_F_toHalf_1 (by decide) (fun c1 => ?_) (fun c1 => ?_)
    · skip
      refine lv_iconst (v := 0) hx hb d_F_toHalf_9 (by decide) ?_
      exact K10 _ (by first | exact fx_sg0 a c1 | exact fx_sg1 a c1)
    · skip
      refine lv_ldc (v := 32768) hx hb hown (hts (.constant R_F 75 32768) (List.mem_cons_of_mem _ (tm (by decide +kernel) rfl))) d_F_toHalf_4 ?_
      refine lv_goto (tgt := 10) hx hb d_F_toHalf_6 (by decide) ?_
      exact K10 _ (by first | exact fx_sg0 a c1 | exact fx_sg1 a c1)
