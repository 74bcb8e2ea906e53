set_option maxHeartbeats 4000000 in
set_option maxRecDepth 100000 in
theorem c_F_fixed (l : Launch) (hfl : l.flags = flags0) (sz : Nat) (h0 : Nat) (a : Int32)  : MetT l y_F_fixed w_F_fixed ({ frames := 6, cells := 1, slots := 6, locals := 90 }) (fun v U => v = [.ref h0, .int a].toArray ∧ th_Z sz U) (th_Qi "java/lang/IllegalArgumentException" (fun r => sp_byte a.toInt ∧ r.toInt = (2 * (65536 * a.toInt) + 255) / 510) (¬ sp_byte a.toInt)) 1 6 := by
  refine MetT.ofW (cc := b_F_fixed) (maxL := 2) (ret := some .int) (by decide) rfl ?_
  intro p e s m args below meth c s₁ B hml hv
  obtain ⟨hv, hZ⟩ := hv
  subst hv
  have hx := B.exec
  have hb := B.bytes
  have hr := B.returns
  have hts := atoms_spec (ws := w_F_fixed) B.pre
  have hown : s.vm.findClass R_F = some m.cls := findClass_of_methodNamed B.named
  have hlocks := B.notSynchronized
  have htr : e.platform.stackTraces = false := th_off hfl (Stand.of_body B).admits
  have hno := B.noHandlers (hts _ List.mem_cons_self)
  have hl := lv_entry ([.ref h0, .int a]) (n := 2) (Nat.le_of_ble_eq_true rfl)
  rw [lg_entry_eq]
  generalize (lg_sl ([.ref h0, .int a]) ++ List.replicate (2 - (lg_sl ([.ref h0, .int a])).length) Slot.unset).toArray = ls at hl ⊢
  have hl : lv_has ls 2 [(0, .ref h0), (1, .int a)] := hl
  refine lv_iload_n hx hb d_F_fixed_0 rfl (lv_at hl 1 rfl) ?_
  refine vp_callSi (W.runS (As := [.int a]) (rest := []) ⟨hx, hb, hml, hown, hts⟩ (c_F_isByte l a ) (cwS 1 hts g_F_76 rfl rfl rfl (by decide +kernel) ⟨Nat.le_of_ble_eq_true rfl, Nat.le_of_ble_eq_true rfl⟩) preEq rfl rfl hl.1 rfl (lv_room (Nat.le_of_ble_eq_true rfl)) d_F_fixed_1 ⟨Nat.zero_le _, Nat.zero_le _⟩) (fun v1 e1 => ?_)
  try dsimp only at e1
  refine lv_if_ne (tgt := 17) hx hb d_F_fixed_4 (by decide) (fun c4 => ?_) (fun c4 => ?_)
  · skip
    have hby : sp_byte a.toInt := Classical.byContradiction (fun q => c4 ((fx_isb e1).mpr q))
    refine lv_ldc (v := 65536) hx hb hown (hts (.constant R_F 67 65536) (List.mem_cons_of_mem _ (tm (by decide +kernel) rfl))) d_F_fixed_17 ?_
    refine lv_iload_n hx hb d_F_fixed_19 rfl (lv_at hl 1 rfl) ?_
    refine lv_imul hx hb d_F_fixed_20 ?_
    refine lv_topi (fun v20 e20 => ?_)
    refine vp_callSi (W.runS (As := [.int v20]) (rest := []) ⟨hx, hb, hml, hown, hts⟩ (c_F_nearest255th l v20 (by rw [fx_fix hby e20]; have := hby.1; omega) (by rw [fx_fix hby e20]; have := hby.2; omega)) (cwS 1 hts g_F_82 rfl rfl rfl (by decide +kernel) ⟨Nat.le_of_ble_eq_true rfl, Nat.le_of_ble_eq_true rfl⟩) preEq rfl rfl hl.1 rfl (lv_room (Nat.le_of_ble_eq_true rfl)) d_F_fixed_21 ⟨Nat.zero_le _, Nat.zero_le _⟩) (fun v21 e21 => ?_)
    try dsimp only at e21
    refine W.widen (k := 1) (n := 6) (Nat.zero_le _) (Nat.zero_le _) ?_
    refine th_ret ?_
    refine W.iret (v := v21) hx hb hr (fun t ht hW => Or.inl ⟨_, rfl, ?_, ht⟩) (fun _ h => by cases h) d_F_fixed_24
    show sp_byte a.toInt ∧ v21.toInt = (2 * (65536 * a.toInt) + 255) / 510
    exact ⟨hby, by rw [e21, fx_fix hby e20]⟩
  · skip
    obtain ⟨q9, hq9⟩ := hZ.2.2.2 (80, "c is not 0 .. 255") (by decide)
    exact th_W (own := R_F) (cls := "java/lang/IllegalArgumentException") (names := thN) hx hb htr hown (by decide +kernel) (by decide +kernel) (th_at_64 hZ) hlocks (hl.1.trans hml.symm) (hts (.classLink R_F 60 "java/lang/IllegalArgumentException") (List.mem_cons_of_mem _ (tm (by decide +kernel) rfl))) (hts (.initialized "java/lang/IllegalArgumentException") (List.mem_cons_of_mem _ (tm (by decide +kernel) rfl))) hq9 (covers_of_empty hno _) (Nat.le_of_ble_eq_true rfl) (Nat.le_of_ble_eq_true rfl) (Nat.le_of_ble_eq_true rfl) (Nat.le_of_ble_eq_true rfl) d_F_fixed_7 d_F_fixed_10 d_F_fixed_11 d_F_fixed_13 d_F_fixed_16 (fun t a9 ce k1 k2 k3 k4 => Or.inr ⟨a9, ce, rfl, (fx_isb e1).mp c4, k1, k3, k2⟩)
set_option maxHeartbeats 4000000 in
set_option maxRecDepth 100000 in
theorem c_F_shade (l : Launch) (hfl : l.flags = flags0) (sz : Nat) (h0 : Nat) (a b : Int32)  : MetT l y_F_shade w_F_shade ({ frames := 6, cells := 1, slots := 6, locals := 90 }) (fun v U => v = [.ref h0, .int a, .int b].toArray ∧ th_Z sz U) (th_Qi "java/lang/IllegalArgumentException" (fun r => sp_byte a.toInt ∧ sp_byte b.toInt ∧ r.toInt = (2 * (a.toInt * b.toInt) + 255) / 510) (¬ sp_byte a.toInt ∨ ¬ sp_byte b.toInt)) 1 6 := by
  refine MetT.ofW (cc := b_F_shade) (maxL := 3) (ret := some .int) (by decide) rfl ?_
  intro p e s m args below meth c s₁ B hml hv
  obtain ⟨hv, hZ⟩ := hv
  subst hv
  have hx := B.exec
  have hb := B.bytes
  have hr := B.returns
  have hts := atoms_spec (ws := w_F_shade) B.pre
  have hown : s.vm.findClass R_F = some m.cls := findClass_of_methodNamed B.named
  have hlocks := B.notSynchronized
  have htr : e.platform.stackTraces = false := th_off hfl (Stand.of_body B).admits
  have hno := B.noHandlers (hts _ List.mem_cons_self)
  have hl := lv_entry ([.ref h0, .int a, .int b]) (n := 3) (Nat.le_of_ble_eq_true rfl)
  rw [lg_entry_eq]
  generalize (lg_sl ([.ref h0, .int a, .int b]) ++ List.replicate (3 - (lg_sl ([.ref h0, .int a, .int b])).length) Slot.unset).toArray = ls at hl ⊢
  have hl : lv_has ls 3 [(0, .ref h0), (1, .int a), (2, .int b)] := hl
  refine lv_iload_n hx hb d_F_shade_0 rfl (lv_at hl 1 rfl) ?_
  refine vp_callSi (W.runS (As := [.int a]) (rest := []) ⟨hx, hb, hml, hown, hts⟩ (c_F_isByte l a ) (cwS 1 hts g_F_76 rfl rfl rfl (by decide +kernel) ⟨Nat.le_of_ble_eq_true rfl, Nat.le_of_ble_eq_true rfl⟩) preEq rfl rfl hl.1 rfl (lv_room (Nat.le_of_ble_eq_true rfl)) d_F_shade_1 ⟨Nat.zero_le _, Nat.zero_le _⟩) (fun v1 e1 => ?_)
  try dsimp only at e1
  refine lv_if_eq (tgt := 14) hx hb d_F_shade_4 (by decide) (fun c4 => ?_) (fun c4 => ?_)
  · skip
    obtain ⟨q9, hq9⟩ := hZ.2.2.2 (86, "x or y is not 0 .. 255") (by decide)
    exact th_W (own := R_F) (cls := "java/lang/IllegalArgumentException") (names := thN) hx hb htr hown (by decide +kernel) (by decide +kernel) (th_at_64 hZ) hlocks (hl.1.trans hml.symm) (hts (.classLink R_F 60 "java/lang/IllegalArgumentException") (List.mem_cons_of_mem _ (tm (by decide +kernel) rfl))) (hts (.initialized "java/lang/IllegalArgumentException") (List.mem_cons_of_mem _ (tm (by decide +kernel) rfl))) hq9 (covers_of_empty hno _) (Nat.le_of_ble_eq_true rfl) (Nat.le_of_ble_eq_true rfl) (Nat.le_of_ble_eq_true rfl) (Nat.le_of_ble_eq_true rfl) d_F_shade_14 d_F_shade_17 d_F_shade_18 d_F_shade_20 d_F_shade_23 (fun t a9 ce k1 k2 k3 k4 => Or.inr ⟨a9, ce, rfl, (by first | exact Or.inl ((fx_isb e1).mp c4) | exact Or.inr ((fx_isb e8).mp c11)), k1, k3, k2⟩)
  · skip
    refine lv_iload_n hx hb d_F_shade_7 rfl (lv_at hl 2 rfl) ?_
    refine vp_callSi (W.runS (As := [.int b]) (rest := []) ⟨hx, hb, hml, hown, hts⟩ (c_F_isByte l b ) (cwS 1 hts g_F_76 rfl rfl rfl (by decide +kernel) ⟨Nat.le_of_ble_eq_true rfl, Nat.le_of_ble_eq_true rfl⟩) preEq rfl rfl hl.1 rfl (lv_room (Nat.le_of_ble_eq_true rfl)) d_F_shade_8 ⟨Nat.zero_le _, Nat.zero_le _⟩) (fun v8 e8 => ?_)
    try dsimp only at e8
    refine lv_if_ne (tgt := 24) hx hb d_F_shade_11 (by decide) (fun c11 => ?_) (fun c11 => ?_)
    · skip
      have hba : sp_byte a.toInt := Classical.byContradiction (fun q => c4 ((fx_isb e1).mpr q))
      have hbb : sp_byte b.toInt := Classical.byContradiction (fun q => c11 ((fx_isb e8).mpr q))
      refine lv_iload_n hx hb d_F_shade_24 rfl (lv_at hl 1 rfl) ?_
      refine lv_iload_n hx hb d_F_shade_25 rfl (lv_at hl 2 rfl) ?_
      refine lv_imul hx hb d_F_shade_26 ?_
      refine lv_topi (fun v26 e26 => ?_)
      have hsh := fx_sha hba hbb e26
      refine vp_callSi (W.runS (As := [.int v26]) (rest := []) ⟨hx, hb, hml, hown, hts⟩ (c_F_nearest255th l v26 (by rw [hsh.1]; exact hsh.2.1) (by rw [hsh.1]; have := hsh.2.2; omega)) (cwS 1 hts g_F_82 rfl rfl rfl (by decide +kernel) ⟨Nat.le_of_ble_eq_true rfl, Nat.le_of_ble_eq_true rfl⟩) preEq rfl rfl hl.1 rfl (lv_room (Nat.le_of_ble_eq_true rfl)) d_F_shade_27 ⟨Nat.zero_le _, Nat.zero_le _⟩) (fun v27 e27 => ?_)
      try dsimp only at e27
      refine W.widen (k := 1) (n := 6) (Nat.zero_le _) (Nat.zero_le _) ?_
      refine th_ret ?_
      refine W.iret (v := v27) hx hb hr (fun t ht hW => Or.inl ⟨_, rfl, ?_, ht⟩) (fun _ h => by cases h) d_F_shade_30
      show sp_byte a.toInt ∧ sp_byte b.toInt ∧ v27.toInt = (2 * (a.toInt * b.toInt) + 255) / 510
      exact ⟨hba, hbb, by rw [e27, hsh.1]⟩
    · skip
      obtain ⟨q9, hq9⟩ := hZ.2.2.2 (86, "x or y is not 0 .. 255") (by decide)
      exact th_W (own := R_F) (cls := "java/lang/IllegalArgumentException") (names := thN) hx hb htr hown (by decide +kernel) (by decide +kernel) (th_at_64 hZ) hlocks (hl.1.trans hml.symm) (hts (.classLink R_F 60 "java/lang/IllegalArgumentException") (List.mem_cons_of_mem _ (tm (by decide +kernel) rfl))) (hts (.initialized "java/lang/IllegalArgumentException") (List.mem_cons_of_mem _ (tm (by decide +kernel) rfl))) hq9 (covers_of_empty hno _) (Nat.le_of_ble_eq_true rfl) (Nat.le_of_ble_eq_true rfl) (Nat.le_of_ble_eq_true rfl) (Nat.le_of_ble_eq_true rfl) d_F_shade_14 d_F_shade_17 d_F_shade_18 d_F_shade_20 d_F_shade_23 (fun t a9 ce k1 k2 k3 k4 => Or.inr ⟨a9, ce, rfl, (by first | exact Or.inl ((fx_isb e1).mp c4) | exact Or.inr ((fx_isb e8).mp c11)), k1, k3, k2⟩)
set_option maxHeartbeats 4000000 in
set_option maxRecDepth 100000 in
theorem c_F_ratio (l : Launch) (hfl : l.flags = flags0) (sz : Nat) (h0 : Nat) (a b d : Int64)  : MetT l y_F_ratio w_F_ratio ({ frames := 6, cells := 1, slots := 6, locals := 90 }) (fun v U => v = [.ref h0, .long a, .long b, .long d].toArray ∧ th_Z sz U) (th_Ql "java/lang/ArithmeticException" (fun r => sp_rok a.toInt b.toInt d.toInt r.toInt) (sp_rno a.toInt b.toInt d.toInt)) 1 6 := by
  refine MetT.ofW (cc := b_F_ratio) (maxL := 21) (ret := some .long) (by decide) rfl ?_
  intro p e s m args below meth c s₁ B hml hv
  obtain ⟨hv, hZ⟩ := hv
  subst hv
  have hx := B.exec
  have hb := B.bytes
  have hr := B.returns
  have hts := atoms_spec (ws := w_F_ratio) B.pre
  have hown : s.vm.findClass R_F = some m.cls := findClass_of_methodNamed B.named
  have hlocks := B.notSynchronized
  have htr : e.platform.stackTraces = false := th_off hfl (Stand.of_body B).admits
  have hno := B.noHandlers (hts _ List.mem_cons_self)
  have hl := lv_entry ([.ref h0, .long a, .long b, .long d]) (n := 21) (Nat.le_of_ble_eq_true rfl)
  rw [lg_entry_eq]
  generalize (lg_sl ([.ref h0, .long a, .long b, .long d]) ++ List.replicate (21 - (lg_sl ([.ref h0, .long a, .long b, .long d])).length) Slot.unset).toArray = ls at hl ⊢
  have hl : lv_has ls 21 [(0, .ref h0), (1, .long a), (3, .long b), (5, .long d)] := hl
  refine lv_lload hx hb d_F_ratio_0 (lv_at hl 3 rfl) ?_
  refine lv_lconst (v := 0) hx hb d_F_ratio_2 (by decide) ?_
  refine W.lcmp hx hb d_F_ratio_3 ?_
  refine lv_if_ne (tgt := 17) hx hb d_F_ratio_4 (by decide) (fun c4 => ?_) (fun c4 => ?_)
  · skip
    have c4 := (not_congr (lg_cmp_eq _ _)).mp c4
    have hd0 : d.toInt ≠ 0 := fun q => c4 (Int64.toInt_inj.mp (by rw [q]; decide))
    refine lv_lload_n hx hb d_F_ratio_17 rfl (lv_at hl 1 rfl) ?_
    refine vp_callSl (W.runS (As := [.long a]) (rest := []) ⟨hx, hb, hml, hown, hts⟩ (c_F_magnitude l a ) (cwS 1 hts g_F_35 rfl rfl rfl (by decide +kernel) ⟨Nat.le_of_ble_eq_true rfl, Nat.le_of_ble_eq_true rfl⟩) preEq rfl rfl hl.1 rfl (lv_room (Nat.le_of_ble_eq_true rfl)) d_F_ratio_18 ⟨Nat.zero_le _, Nat.zero_le _⟩) (fun v18 e18 => ?_)
    try dsimp only at e18
    refine lv_lstore (lv' := [(7, .long v18), (0, .ref h0), (1, .long a), (3, .long b), (5, .long d)]) hx hb d_F_ratio_21 hl (by decide) rfl (fun ls hl => ?_)
    refine lv_lload_n hx hb d_F_ratio_23 rfl (lv_at hl 3 rfl) ?_
    refine vp_callSl (W.runS (As := [.long b]) (rest := []) ⟨hx, hb, hml, hown, hts⟩ (c_F_magnitude l b ) (cwS 1 hts g_F_35 rfl rfl rfl (by decide +kernel) ⟨Nat.le_of_ble_eq_true rfl, Nat.le_of_ble_eq_true rfl⟩) preEq rfl rfl hl.1 rfl (lv_room (Nat.le_of_ble_eq_true rfl)) d_F_ratio_24 ⟨Nat.zero_le _, Nat.zero_le _⟩) (fun v24 e24 => ?_)
    try dsimp only at e24
    refine lv_lstore (lv' := [(9, .long v24), (7, .long v18), (0, .ref h0), (1, .long a), (3, .long b), (5, .long d)]) hx hb d_F_ratio_27 hl (by decide) rfl (fun ls hl => ?_)
    refine lv_lload hx hb d_F_ratio_29 (lv_at hl 5 rfl) ?_
    refine vp_callSl (W.runS (As := [.long d]) (rest := []) ⟨hx, hb, hml, hown, hts⟩ (c_F_magnitude l d ) (cwS 1 hts g_F_35 rfl rfl rfl (by decide +kernel) ⟨Nat.le_of_ble_eq_true rfl, Nat.le_of_ble_eq_true rfl⟩) preEq rfl rfl hl.1 rfl (lv_room (Nat.le_of_ble_eq_true rfl)) d_F_ratio_31 ⟨Nat.zero_le _, Nat.zero_le _⟩) (fun v31 e31 => ?_)
    try dsimp only at e31
    refine lv_lstore (lv' := [(11, .long v31), (9, .long v24), (7, .long v18), (0, .ref h0), (1, .long a), (3, .long b), (5, .long d)]) hx hb d_F_ratio_34 hl (by decide) rfl (fun ls hl => ?_)
    have hdp : 0 < uN v31 := by rw [e31]; exact Int.natAbs_pos.mpr hd0
    have hd2 : uN v31 ≤ 9223372036854775808 := by rw [e31]; have := fx_i64 d; omega
    refine lv_lload hx hb d_F_ratio_36 (lv_at hl 2 rfl) ?_
    refine lv_lload hx hb d_F_ratio_38 (lv_at hl 1 rfl) ?_
    refine vp_callSl (W.runS (As := [.long v18, .long v24]) (rest := []) ⟨hx, hb, hml, hown, hts⟩ (c_F_highProduct l v18 v24 ) (cwS 2 hts g_F_39 rfl rfl rfl (by decide +kernel) ⟨Nat.le_of_ble_eq_true rfl, Nat.le_of_ble_eq_true rfl⟩) preEq rfl rfl hl.1 rfl (lv_room (Nat.le_of_ble_eq_true rfl)) d_F_ratio_40 ⟨Nat.zero_le _, Nat.zero_le _⟩) (fun v40 e40 => ?_)
    try dsimp only at e40
    refine lv_lstore (lv' := [(13, .long v40), (11, .long v31), (9, .long v24), (7, .long v18), (0, .ref h0), (1, .long a), (3, .long b), (5, .long d)]) hx hb d_F_ratio_43 hl (by decide) rfl (fun ls hl => ?_)
    refine lv_lload hx hb d_F_ratio_45 (lv_at hl 3 rfl) ?_
    refine lv_lload hx hb d_F_ratio_47 (lv_at hl 2 rfl) ?_
    refine lv_lmul hx hb d_F_ratio_49 ?_
    refine lv_topl (fun v49 e49 => ?_)
    refine lv_lstore (lv' := [(15, .long v49), (13, .long v40), (11, .long v31), (9, .long v24), (7, .long v18), (0, .ref h0), (1, .long a), (3, .long b), (5, .long d)]) hx hb d_F_ratio_50 hl (by decide) rfl (fun ls hl => ?_)
    refine lv_lload hx hb d_F_ratio_52 (lv_at hl 1 rfl) ?_
    refine lv_lload hx hb d_F_ratio_54 (lv_at hl 2 rfl) ?_
    refine vp_callSi (W.runS (As := [.long v40, .long v31]) (rest := []) ⟨hx, hb, hml, hown, hts⟩ (c_F_isBelow l v40 v31 ) (cwS 2 hts g_F_42 rfl rfl rfl (by decide +kernel) ⟨Nat.le_of_ble_eq_true rfl, Nat.le_of_ble_eq_true rfl⟩) preEq rfl rfl hl.1 rfl (lv_room (Nat.le_of_ble_eq_true rfl)) d_F_ratio_56 ⟨Nat.zero_le _, Nat.zero_le _⟩) (fun v56 e56 => ?_)
    try dsimp only at e56
    refine lv_if_ne (tgt := 72) hx hb d_F_ratio_59 (by decide) (fun c59 => ?_) (fun c59 => ?_)
    · skip
      have hlt : uN v40 < uN v31 := Classical.byContradiction (fun q => by rw [if_neg q] at e56; exact c59 e56)
      refine lv_lload hx hb d_F_ratio_72 (lv_at hl 1 rfl) ?_
      refine lv_lload hx hb d_F_ratio_74 (lv_at hl 0 rfl) ?_
      refine lv_lload hx hb d_F_ratio_76 (lv_at hl 2 rfl) ?_
      refine vp_callSl (W.runS (As := [.long v40, .long v49, .long v31]) (rest := []) ⟨hx, hb, hml, hown, hts⟩ (c_F_wholeQuotient l v40 v49 v31 hdp hd2 hlt) (cwS 3 hts g_F_48 rfl rfl rfl (by decide +kernel) ⟨Nat.le_of_ble_eq_true rfl, Nat.le_of_ble_eq_true rfl⟩) preEq rfl rfl hl.1 rfl (lv_room (Nat.le_of_ble_eq_true rfl)) d_F_ratio_78 ⟨Nat.zero_le _, Nat.zero_le _⟩) (fun v78 e78 => ?_)
      try dsimp only at e78
      refine lv_lstore (lv' := [(17, .long v78), (15, .long v49), (13, .long v40), (11, .long v31), (9, .long v24), (7, .long v18), (0, .ref h0), (1, .long a), (3, .long b), (5, .long d)]) hx hb d_F_ratio_81 hl (by decide) rfl (fun ls hl => ?_)
      obtain ⟨q, hq⟩ : ∃ q, q = a.toInt.natAbs * b.toInt.natAbs / d.toInt.natAbs := ⟨_, rfl⟩
      obtain ⟨rm, hrm⟩ : ∃ q, q = a.toInt.natAbs * b.toInt.natAbs % d.toInt.natAbs := ⟨_, rfl⟩
      have hw : uN v78 = q := by rw [e78, ra_P e40 e49, e18, e24, e31, hq]
      refine lv_lload hx hb d_F_ratio_83 (lv_at hl 0 rfl) ?_
      refine lv_lload hx hb d_F_ratio_85 (lv_at hl 3 rfl) ?_
      refine lv_lmul hx hb d_F_ratio_87 ?_
      refine lv_topl (fun v87 e87 => ?_)
      have hrest : v87 = v49 ↔ rm = 0 := by
        rw [ra_rest (P := uN v18 * uN v24) hdp hd2 (ra_low e49) (by rw [e78, ra_P e40 e49]) e87, e18, e24, e31, ← hrm]
      refine lv_lload hx hb d_F_ratio_88 (lv_at hl 1 rfl) ?_
      refine W.lcmp hx hb d_F_ratio_90 ?_
      refine jn_i (J := 99) (rest := []) (fun v => v = if rm = 0 then 0 else 1) (fun v99 e99 => ?_) (fun K99 => ?_)
      · skip
        refine lv_istore (lv' := [(19, .int v99), (17, .long v78), (15, .long v49), (13, .long v40), (11, .long v31), (9, .long v24), (7, .long v18), (0, .ref h0), (1, .long a), (3, .long b), (5, .long d)]) hx hb d_F_ratio_99 hl (by decide) rfl (fun ls hl => ?_)
        refine lv_lload_n hx hb d_F_ratio_101 rfl (lv_at hl 8 rfl) ?_
        refine lv_lload_n hx hb d_F_ratio_102 rfl (lv_at hl 9 rfl) ?_
        refine lv_lxor hx hb d_F_ratio_103 ?_
        refine lv_topl (fun v103 e103 => ?_)
        refine lv_lload hx hb d_F_ratio_104 (lv_at hl 10 rfl) ?_
        refine lv_lxor hx hb d_F_ratio_106 ?_
        refine lv_topl (fun v106 e106 => ?_)
        refine lv_lconst (v := 0) hx hb d_F_ratio_107 (by decide) ?_
        refine W.lcmp hx hb d_F_ratio_108 ?_
        refine jn_i (J := 117) (rest := []) (fun v => v = if sp_neg a.toInt b.toInt d.toInt then 1 else 0) (fun v117 e117 => ?_) (fun K117 => ?_)
        · skip
          refine lv_istore (lv' := [(20, .int v117), (19, .int v99), (17, .long v78), (15, .long v49), (13, .long v40), (11, .long v31), (9, .long v24), (7, .long v18), (0, .ref h0), (1, .long a), (3, .long b), (5, .long d)]) hx hb d_F_ratio_117 hl (by decide) rfl (fun ls hl => ?_)
          refine lv_lload hx hb d_F_ratio_119 (lv_at hl 2 rfl) ?_
          refine lv_iload hx hb d_F_ratio_121 (lv_at hl 1 rfl) ?_
          refine lv_iload hx hb d_F_ratio_123 (lv_at hl 0 rfl) ?_
          refine vp_callSi (W.runS (As := [.long v78, .int v99, .int v117]) (rest := []) ⟨hx, hb, hml, hown, hts⟩ (c_F_fitsLong l v78 v99 v117 ) (cwS 3 hts g_F_52 rfl rfl rfl (by decide +kernel) ⟨Nat.le_of_ble_eq_true rfl, Nat.le_of_ble_eq_true rfl⟩) preEq rfl rfl hl.1 rfl (lv_room (Nat.le_of_ble_eq_true rfl)) d_F_ratio_125 ⟨Nat.zero_le _, Nat.zero_le _⟩) (fun v125 e125 => ?_)
          try dsimp only at e125
          refine lv_if_ne (tgt := 141) hx hb d_F_ratio_128 (by decide) (fun c128 => ?_) (fun c128 => ?_)
          · skip
            have hfit : q < 9223372036854775808 ∨ (q = 9223372036854775808 ∧ sp_neg a.toInt b.toInt d.toInt ∧ rm = 0) := Classical.byContradiction (fun z => by
              rw [if_neg (fun y => z ((ra_fitx hw e99 e117).mp y))] at e125
              exact c128 e125)
            refine lv_lload hx hb d_F_ratio_141 (lv_at hl 2 rfl) ?_
            refine lv_iload hx hb d_F_ratio_143 (lv_at hl 1 rfl) ?_
            refine lv_iload hx hb d_F_ratio_145 (lv_at hl 0 rfl) ?_
            refine vp_callSl (W.runS (As := [.long v78, .int v99, .int v117]) (rest := []) ⟨hx, hb, hml, hown, hts⟩ (c_F_signedDown l v78 v99 v117 ) (cwS 3 hts g_F_56 rfl rfl rfl (by decide +kernel) ⟨Nat.le_of_ble_eq_true rfl, Nat.le_of_ble_eq_true rfl⟩) preEq rfl rfl hl.1 rfl (lv_room (Nat.le_of_ble_eq_true rfl)) d_F_ratio_147 ⟨Nat.zero_le _, Nat.zero_le _⟩) (fun v147 e147 => ?_)
            try dsimp only at e147
            refine W.widen (k := 1) (n := 6) (Nat.zero_le _) (Nat.zero_le _) ?_
            refine th_ret ?_
            refine W.lret (v := v147) hx hb hr (fun t ht hW => Or.inl ⟨_, rfl, ?_, ht⟩) (fun _ h => by cases h) d_F_ratio_150
            show sp_rok a.toInt b.toInt d.toInt v147.toInt
            exact ra_fit hd0 hq hrm (ra_down hw (e99.trans (by rw [hrm])) e117 e147 hfit)
          · skip
            have hunf : ¬ (q < 9223372036854775808 ∨ (q = 9223372036854775808 ∧ sp_neg a.toInt b.toInt d.toInt ∧ rm = 0)) := fun z => by
              rw [if_pos ((ra_fitx hw e99 e117).mpr z)] at e125
              rw [e125] at c128
              exact absurd c128 (by decide)
            obtain ⟨q9, hq9⟩ := hZ.2.2.2 (46, "a long can't hold the ratio") (by decide)
            exact th_W (own := R_F) (cls := "java/lang/ArithmeticException") (names := thN) hx hb htr hown (by decide +kernel) (by decide +kernel) (th_at_32 hZ) hlocks (hl.1.trans hml.symm) (hts (.classLink R_F 28 "java/lang/ArithmeticException") (List.mem_cons_of_mem _ (tm (by decide +kernel) rfl))) (hts (.initialized "java/lang/ArithmeticException") (List.mem_cons_of_mem _ (tm (by decide +kernel) rfl))) hq9 (covers_of_empty hno _) (Nat.le_of_ble_eq_true rfl) (Nat.le_of_ble_eq_true rfl) (Nat.le_of_ble_eq_true rfl) (Nat.le_of_ble_eq_true rfl) d_F_ratio_131 d_F_ratio_134 d_F_ratio_135 d_F_ratio_137 d_F_ratio_140 (fun t a9 ce k1 k2 k3 k4 => Or.inr ⟨a9, ce, rfl, (ra_unfit hd0 hq hrm hunf), k1, k3, k2⟩)
        · skip
          refine lv_if_ge (tgt := 116) hx hb d_F_ratio_109 (by decide) (fun c109 => ?_) (fun c109 => ?_)
          · skip
            have c109 := (lg_cmp_ge _ _).mp c109
            refine lv_iconst (v := 0) hx hb d_F_ratio_116 (by decide) ?_
            exact K117 _ (by first | (rw [if_neg ((ra_neg e103 e106).mp c109)]) | (rw [if_pos (Classical.byContradiction (fun q => c109 ((ra_neg e103 e106).mpr q)))]))
          · skip
            have c109 := (not_congr (lg_cmp_ge _ _)).mp c109
            refine lv_iconst (v := 1) hx hb d_F_ratio_112 (by decide) ?_
            refine lv_goto (tgt := 117) hx hb d_F_ratio_113 (by decide) ?_
            exact K117 _ (by first | (rw [if_neg ((ra_neg e103 e106).mp c109)]) | (rw [if_pos (Classical.byContradiction (fun q => c109 ((ra_neg e103 e106).mpr q)))]))
      · skip
        refine lv_if_eq (tgt := 98) hx hb d_F_ratio_91 (by decide) (fun c91 => ?_) (fun c91 => ?_)
        · skip
          have c91 := (lg_cmp_eq _ _).mp c91
          refine lv_iconst (v := 0) hx hb d_F_ratio_98 (by decide) ?_
          exact K99 _ (by first | (rw [if_pos (hrest.mp c91)]) | (rw [if_neg (fun q => c91 (hrest.mpr q))]))
        · skip
          have c91 := (not_congr (lg_cmp_eq _ _)).mp c91
          refine lv_iconst (v := 1) hx hb d_F_ratio_94 (by decide) ?_
          refine lv_goto (tgt := 99) hx hb d_F_ratio_95 (by decide) ?_
          exact K99 _ (by first | (rw [if_pos (hrest.mp c91)]) | (rw [if_neg (fun q => c91 (hrest.mpr q))]))
    · skip
      have hbig : d.toInt.natAbs ≤ a.toInt.natAbs * b.toInt.natAbs / 18446744073709551616 := by
        rw [← e18, ← e24, ← e31, ← e40]
        exact Nat.le_of_not_lt (fun q => by rw [if_pos q] at e56; rw [e56] at c59; exact absurd c59 (by decide))
      obtain ⟨q9, hq9⟩ := hZ.2.2.2 (46, "a long can't hold the ratio") (by decide)
      exact th_W (own := R_F) (cls := "java/lang/ArithmeticException") (names := thN) hx hb htr hown (by decide +kernel) (by decide +kernel) (th_at_32 hZ) hlocks (hl.1.trans hml.symm) (hts (.classLink R_F 28 "java/lang/ArithmeticException") (List.mem_cons_of_mem _ (tm (by decide +kernel) rfl))) (hts (.initialized "java/lang/ArithmeticException") (List.mem_cons_of_mem _ (tm (by decide +kernel) rfl))) hq9 (covers_of_empty hno _) (Nat.le_of_ble_eq_true rfl) (Nat.le_of_ble_eq_true rfl) (Nat.le_of_ble_eq_true rfl) (Nat.le_of_ble_eq_true rfl) d_F_ratio_62 d_F_ratio_65 d_F_ratio_66 d_F_ratio_68 d_F_ratio_71 (fun t a9 ce k1 k2 k3 k4 => Or.inr ⟨a9, ce, rfl, (ra_big (q := 0) hd0 rfl hbig), k1, k3, k2⟩)
  · skip
    have c4 := (lg_cmp_eq _ _).mp c4
    obtain ⟨q9, hq9⟩ := hZ.2.2.2 (30, "the divisor is 0") (by decide)
    exact th_W (own := R_F) (cls := "java/lang/ArithmeticException") (names := thN) hx hb htr hown (by decide +kernel) (by decide +kernel) (th_at_32 hZ) hlocks (hl.1.trans hml.symm) (hts (.classLink R_F 28 "java/lang/ArithmeticException") (List.mem_cons_of_mem _ (tm (by decide +kernel) rfl))) (hts (.initialized "java/lang/ArithmeticException") (List.mem_cons_of_mem _ (tm (by decide +kernel) rfl))) hq9 (covers_of_empty hno _) (Nat.le_of_ble_eq_true rfl) (Nat.le_of_ble_eq_true rfl) (Nat.le_of_ble_eq_true rfl) (Nat.le_of_ble_eq_true rfl) d_F_ratio_7 d_F_ratio_10 d_F_ratio_11 d_F_ratio_13 d_F_ratio_16 (fun t a9 ce k1 k2 k3 k4 => Or.inr ⟨a9, ce, rfl, Or.inl (by rw [c4]; decide), k1, k3, k2⟩)
set_option maxHeartbeats 4000000 in
set_option maxRecDepth 100000 in
theorem c_F_between (l : Launch) (hfl : l.flags = flags0) (sz : Nat) (h0 : Nat) (a b : Int32) (n d : Int64)  : MetT l y_F_between w_F_between ({ frames := 6, cells := 1, slots := 6, locals := 90 }) (fun v U => v = [.ref h0, .int a, .int b, .long n, .long d].toArray ∧ th_Z sz U) (th_Qi "java/lang/IllegalArgumentException" (fun r => (0 < d.toInt ∧ 0 ≤ n.toInt ∧ n.toInt ≤ d.toInt) ∧ r.toInt = sp_betw a.toInt b.toInt n.toInt d.toInt) (sp_bno n.toInt d.toInt)) 1 6 := by
  refine MetT.ofW (cc := b_F_between) (maxL := 15) (ret := some .int) (by decide) rfl ?_
  intro p e s m args below meth c s₁ B hml hv
  obtain ⟨hv, hZ⟩ := hv
  subst hv
  have hx := B.exec
  have hb := B.bytes
  have hr := B.returns
  have hts := atoms_spec (ws := w_F_between) B.pre
  have hown : s.vm.findClass R_F = some m.cls := findClass_of_methodNamed B.named
  have hlocks := B.notSynchronized
  have htr : e.platform.stackTraces = false := th_off hfl (Stand.of_body B).admits
  have hno := B.noHandlers (hts _ List.mem_cons_self)
  have hl := lv_entry ([.ref h0, .int a, .int b, .long n, .long d]) (n := 15) (Nat.le_of_ble_eq_true rfl)
  rw [lg_entry_eq]
  generalize (lg_sl ([.ref h0, .int a, .int b, .long n, .long d]) ++ List.replicate (15 - (lg_sl ([.ref h0, .int a, .int b, .long n, .long d])).length) Slot.unset).toArray = ls at hl ⊢
  have hl : lv_has ls 15 [(0, .ref h0), (1, .int a), (2, .int b), (3, .long n), (5, .long d)] := hl
  refine lv_lload hx hb d_F_between_0 (lv_at hl 4 rfl) ?_
  refine lv_lconst (v := 0) hx hb d_F_between_2 (by decide) ?_
  refine W.lcmp hx hb d_F_between_3 ?_
  refine lv_if_gt (tgt := 17) hx hb d_F_between_4 (by decide) (fun c4 => ?_) (fun c4 => ?_)
  · skip
    have c4 := (lg_cmp_gt _ _).mp c4
    refine lv_lload_n hx hb d_F_between_17 rfl (lv_at hl 3 rfl) ?_
    refine lv_lconst (v := 0) hx hb d_F_between_18 (by decide) ?_
    refine W.lcmp hx hb d_F_between_19 ?_
    refine lv_if_lt (tgt := 30) hx hb d_F_between_20 (by decide) (fun c20 => ?_) (fun c20 => ?_)
    · skip
      have c20 := (lg_cmp_lt _ _).mp c20
      obtain ⟨q9, hq9⟩ := hZ.2.2.2 (65, "n is not 0 .. d") (by decide)
      exact th_W (own := R_F) (cls := "java/lang/IllegalArgumentException") (names := thN) hx hb htr hown (by decide +kernel) (by decide +kernel) (th_at_64 hZ) hlocks (hl.1.trans hml.symm) (hts (.classLink R_F 60 "java/lang/IllegalArgumentException") (List.mem_cons_of_mem _ (tm (by decide +kernel) rfl))) (hts (.initialized "java/lang/IllegalArgumentException") (List.mem_cons_of_mem _ (tm (by decide +kernel) rfl))) hq9 (covers_of_empty hno _) (Nat.le_of_ble_eq_true rfl) (Nat.le_of_ble_eq_true rfl) (Nat.le_of_ble_eq_true rfl) (Nat.le_of_ble_eq_true rfl) d_F_between_30 d_F_between_33 d_F_between_34 d_F_between_36 d_F_between_39 (fun t a9 ce k1 k2 k3 k4 => Or.inr ⟨a9, ce, rfl, (by first | exact Or.inr (Or.inl (be_c2 c20)) | exact Or.inr (Or.inr (be_c3 c27))), k1, k3, k2⟩)
    · skip
      have c20 := (not_congr (lg_cmp_lt _ _)).mp c20
      refine lv_lload_n hx hb d_F_between_23 rfl (lv_at hl 3 rfl) ?_
      refine lv_lload hx hb d_F_between_24 (lv_at hl 4 rfl) ?_
      refine W.lcmp hx hb d_F_between_26 ?_
      refine lv_if_le (tgt := 40) hx hb d_F_between_27 (by decide) (fun c27 => ?_) (fun c27 => ?_)
      · skip
        have c27 := (lg_cmp_le _ _).mp c27
        have hdp : 0 < d.toInt := be_d1 c4
        have hn0 : 0 ≤ n.toInt := be_d2 c20
        have hnd : n.toInt ≤ d.toInt := be_d3 c27
        have hup : 0 < uN d := by have := be_pos d (by omega); omega
        have hu2 : uN d ≤ 9223372036854775808 := by have := be_pos d (by omega); have := fx_i64 d; omega
        have hun : uN n ≤ uN d := by have := be_pos d (by omega); have := be_pos n hn0; omega
        refine lv_iload_n hx hb d_F_between_40 rfl (lv_at hl 2 rfl) ?_
        refine lv_i2l hx hb d_F_between_41 rfl ?_
        refine lv_topl (fun v41 e41 => ?_)
        refine lv_iload_n hx hb d_F_between_42 rfl (lv_at hl 1 rfl) ?_
        refine lv_i2l hx hb d_F_between_43 rfl ?_
        refine lv_topl (fun v43 e43 => ?_)
        refine lv_lsub hx hb d_F_between_44 ?_
        refine lv_topl (fun v44 e44 => ?_)
        have hspan := be_span a b v41 v43 v44 e41 e43 e44
        refine lv_lstore (lv' := [(7, .long v44), (0, .ref h0), (1, .int a), (2, .int b), (3, .long n), (5, .long d)]) hx hb d_F_between_45 hl (by decide) rfl (fun ls hl => ?_)
        refine lv_lload hx hb d_F_between_47 (lv_at hl 0 rfl) ?_
        refine vp_callSl (W.runS (As := [.long v44]) (rest := []) ⟨hx, hb, hml, hown, hts⟩ (c_F_magnitude l v44 ) (cwS 1 hts g_F_35 rfl rfl rfl (by decide +kernel) ⟨Nat.le_of_ble_eq_true rfl, Nat.le_of_ble_eq_true rfl⟩) preEq rfl rfl hl.1 rfl (lv_room (Nat.le_of_ble_eq_true rfl)) d_F_between_49 ⟨Nat.zero_le _, Nat.zero_le _⟩) (fun v49 e49 => ?_)
        try dsimp only at e49
        have hsz : uN v49 < 4294967296 := by rw [e49, hspan]; have := fx_i32 a; have := fx_i32 b; omega
        refine lv_lstore (lv' := [(9, .long v49), (7, .long v44), (0, .ref h0), (1, .int a), (2, .int b), (3, .long n), (5, .long d)]) hx hb d_F_between_52 hl (by decide) rfl (fun ls hl => ?_)
        refine lv_lload hx hb d_F_between_54 (lv_at hl 0 rfl) ?_
        refine lv_lload_n hx hb d_F_between_56 rfl (lv_at hl 5 rfl) ?_
        refine lv_lmul hx hb d_F_between_57 ?_
        refine lv_topl (fun v57 e57 => ?_)
        refine lv_lstore (lv' := [(11, .long v57), (9, .long v49), (7, .long v44), (0, .ref h0), (1, .int a), (2, .int b), (3, .long n), (5, .long d)]) hx hb d_F_between_58 hl (by decide) rfl (fun ls hl => ?_)
        refine lv_lload hx hb d_F_between_60 (lv_at hl 1 rfl) ?_
        refine lv_lload_n hx hb d_F_between_62 rfl (lv_at hl 6 rfl) ?_
        refine vp_callSl (W.runS (As := [.long v49, .long n]) (rest := []) ⟨hx, hb, hml, hown, hts⟩ (c_F_highProduct l v49 n ) (cwS 2 hts g_F_39 rfl rfl rfl (by decide +kernel) ⟨Nat.le_of_ble_eq_true rfl, Nat.le_of_ble_eq_true rfl⟩) preEq rfl rfl hl.1 rfl (lv_room (Nat.le_of_ble_eq_true rfl)) d_F_between_63 ⟨Nat.zero_le _, Nat.zero_le _⟩) (fun v63 e63 => ?_)
        try dsimp only at e63
        have hlt := be_hi hsz hun hup e63
        refine lv_lload hx hb d_F_between_66 (lv_at hl 0 rfl) ?_
        refine lv_lload hx hb d_F_between_68 (lv_at hl 7 rfl) ?_
        refine vp_callSl (W.runS (As := [.long v63, .long v57, .long d]) (rest := []) ⟨hx, hb, hml, hown, hts⟩ (c_F_wholeQuotient l v63 v57 d hup hu2 hlt) (cwS 3 hts g_F_48 rfl rfl rfl (by decide +kernel) ⟨Nat.le_of_ble_eq_true rfl, Nat.le_of_ble_eq_true rfl⟩) preEq rfl rfl hl.1 rfl (lv_room (Nat.le_of_ble_eq_true rfl)) d_F_between_70 ⟨Nat.zero_le _, Nat.zero_le _⟩) (fun v70 e70 => ?_)
        try dsimp only at e70
        obtain ⟨q, hq⟩ : ∃ q, q = v44.toInt.natAbs * n.toInt.natAbs / d.toInt.natAbs := ⟨_, rfl⟩
        obtain ⟨rm, hrm⟩ : ∃ q, q = v44.toInt.natAbs * n.toInt.natAbs % d.toInt.natAbs := ⟨_, rfl⟩
        have hnN : uN n = n.toInt.natAbs := by have := be_pos n hn0; omega
        have hdN : uN d = d.toInt.natAbs := by have := be_pos d (by omega); omega
        have hw : uN v70 = q := by rw [e70, ra_P e63 e57, e49, hnN, hdN, hq]
        have hqb : q < 4294967296 := be_q hsz hun hup (by rw [hq, e49, hnN, hdN])
        refine lv_lstore (lv' := [(13, .long v70), (11, .long v57), (9, .long v49), (7, .long v44), (0, .ref h0), (1, .int a), (2, .int b), (3, .long n), (5, .long d)]) hx hb d_F_between_73 hl (by decide) rfl (fun ls hl => ?_)
        refine lv_iload_n hx hb d_F_between_75 rfl (lv_at hl 5 rfl) ?_
        refine lv_i2l hx hb d_F_between_76 rfl ?_
        refine lv_topl (fun v76 e76 => ?_)
        refine lv_lload hx hb d_F_between_77 (lv_at hl 0 rfl) ?_
        refine lv_lload hx hb d_F_between_79 (lv_at hl 0 rfl) ?_
        refine lv_lload hx hb d_F_between_81 (lv_at hl 8 rfl) ?_
        refine lv_lmul hx hb d_F_between_83 ?_
        refine lv_topl (fun v83 e83 => ?_)
        have hrest : v83 = v57 ↔ rm = 0 := by
          rw [ra_rest (P := uN v49 * uN n) hup hu2 (ra_low e57) (by rw [e70, ra_P e63 e57]) e83, e49, hnN, hdN, ← hrm]
        refine lv_lload hx hb d_F_between_84 (lv_at hl 1 rfl) ?_
        refine W.lcmp hx hb d_F_between_86 ?_
        refine jn_i (J := 95) (rest := [.long v70, .long v76]) (fun v => v = if rm = 0 then 0 else 1) (fun v95 e95 => ?_) (fun K95 => ?_)
        · skip
          refine lv_lload hx hb d_F_between_95 (lv_at hl 3 rfl) ?_
          refine lv_lconst (v := 0) hx hb d_F_between_97 (by decide) ?_
          refine W.lcmp hx hb d_F_between_98 ?_
          refine jn_i (J := 107) (rest := [.int v95, .long v70, .long v76]) (fun v => v = if v44.toInt < 0 then 1 else 0) (fun v107 e107 => ?_) (fun K107 => ?_)
          · skip
            have e107x := e107
            refine vp_callSl (W.runS (As := [.long v70, .int v95, .int v107]) (rest := [.long v76]) ⟨hx, hb, hml, hown, hts⟩ (c_F_signedDown l v70 v95 v107 ) (cwS 3 hts g_F_56 rfl rfl rfl (by decide +kernel) ⟨Nat.le_of_ble_eq_true rfl, Nat.le_of_ble_eq_true rfl⟩) preEq rfl rfl hl.1 rfl (lv_room (Nat.le_of_ble_eq_true rfl)) d_F_between_107 ⟨Nat.zero_le _, Nat.zero_le _⟩) (fun v107 e107 => ?_)
            try dsimp only at e107
            refine lv_ladd hx hb d_F_between_110 ?_
            refine lv_topl (fun v110 e110 => ?_)
            refine lv_l2i hx hb d_F_between_111 rfl ?_
            refine lv_topi (fun v111 e111 => ?_)
            refine W.widen (k := 1) (n := 6) (Nat.zero_le _) (Nat.zero_le _) ?_
            refine th_ret ?_
            refine W.iret (v := v111) hx hb hr (fun t ht hW => Or.inl ⟨_, rfl, ?_, ht⟩) (fun _ h => by cases h) d_F_between_112
            show (0 < d.toInt ∧ 0 ≤ n.toInt ∧ n.toInt ≤ d.toInt) ∧ v111.toInt = sp_betw a.toInt b.toInt n.toInt d.toInt
            exact ⟨⟨hdp, hn0, hnd⟩, be_fin a b n d v44 v107 v110 v111 hspan hn0 hdp hq hrm hqb (ra_down hw (e95.trans (by rw [hrm])) e107x e107 (Or.inl (by omega))) (by rw [e110, e76]) e111⟩
          · skip
            refine lv_if_ge (tgt := 106) hx hb d_F_between_99 (by decide) (fun c99 => ?_) (fun c99 => ?_)
            · skip
              have c99 := (lg_cmp_ge _ _).mp c99
              refine lv_iconst (v := 0) hx hb d_F_between_106 (by decide) ?_
              exact K107 _ (by first | exact be_s0 c99 | exact be_s1 c99)
            · skip
              have c99 := (not_congr (lg_cmp_ge _ _)).mp c99
              refine lv_iconst (v := 1) hx hb d_F_between_102 (by decide) ?_
              refine lv_goto (tgt := 107) hx hb d_F_between_103 (by decide) ?_
              exact K107 _ (by first | exact be_s0 c99 | exact be_s1 c99)
        · skip
          refine lv_if_eq (tgt := 94) hx hb d_F_between_87 (by decide) (fun c87 => ?_) (fun c87 => ?_)
          · skip
            have c87 := (lg_cmp_eq _ _).mp c87
            refine lv_iconst (v := 0) hx hb d_F_between_94 (by decide) ?_
            exact K95 _ (by first | (rw [if_pos (hrest.mp c87)]) | (rw [if_neg (fun q => c87 (hrest.mpr q))]))
          · skip
            have c87 := (not_congr (lg_cmp_eq _ _)).mp c87
            refine lv_iconst (v := 1) hx hb d_F_between_90 (by decide) ?_
            refine lv_goto (tgt := 95) hx hb d_F_between_91 (by decide) ?_
            exact K95 _ (by first | (rw [if_pos (hrest.mp c87)]) | (rw [if_neg (fun q => c87 (hrest.mpr q))]))
      · skip
        have c27 := (not_congr (lg_cmp_le _ _)).mp c27
        obtain ⟨q9, hq9⟩ := hZ.2.2.2 (65, "n is not 0 .. d") (by decide)
        exact th_W (own := R_F) (cls := "java/lang/IllegalArgumentException") (names := thN) hx hb htr hown (by decide +kernel) (by decide +kernel) (th_at_64 hZ) hlocks (hl.1.trans hml.symm) (hts (.classLink R_F 60 "java/lang/IllegalArgumentException") (List.mem_cons_of_mem _ (tm (by decide +kernel) rfl))) (hts (.initialized "java/lang/IllegalArgumentException") (List.mem_cons_of_mem _ (tm (by decide +kernel) rfl))) hq9 (covers_of_empty hno _) (Nat.le_of_ble_eq_true rfl) (Nat.le_of_ble_eq_true rfl) (Nat.le_of_ble_eq_true rfl) (Nat.le_of_ble_eq_true rfl) d_F_between_30 d_F_between_33 d_F_between_34 d_F_between_36 d_F_between_39 (fun t a9 ce k1 k2 k3 k4 => Or.inr ⟨a9, ce, rfl, (by first | exact Or.inr (Or.inl (be_c2 c20)) | exact Or.inr (Or.inr (be_c3 c27))), k1, k3, k2⟩)
  · skip
    have c4 := (not_congr (lg_cmp_gt _ _)).mp c4
    obtain ⟨q9, hq9⟩ := hZ.2.2.2 (62, "d is not above 0") (by decide)
    exact th_W (own := R_F) (cls := "java/lang/IllegalArgumentException") (names := thN) hx hb htr hown (by decide +kernel) (by decide +kernel) (th_at_64 hZ) hlocks (hl.1.trans hml.symm) (hts (.classLink R_F 60 "java/lang/IllegalArgumentException") (List.mem_cons_of_mem _ (tm (by decide +kernel) rfl))) (hts (.initialized "java/lang/IllegalArgumentException") (List.mem_cons_of_mem _ (tm (by decide +kernel) rfl))) hq9 (covers_of_empty hno _) (Nat.le_of_ble_eq_true rfl) (Nat.le_of_ble_eq_true rfl) (Nat.le_of_ble_eq_true rfl) (Nat.le_of_ble_eq_true rfl) d_F_between_7 d_F_between_10 d_F_between_11 d_F_between_13 d_F_between_16 (fun t a9 ce k1 k2 k3 k4 => Or.inr ⟨a9, ce, rfl, Or.inl (be_c1 c4), k1, k3, k2⟩)
