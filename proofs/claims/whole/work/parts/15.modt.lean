set_option maxHeartbeats 4000000 in
set_option maxRecDepth 100000 in
theorem c_M_toHalf (l : Launch) (dC : Nat → ClassId) (dI : Nat → Nat → Nat) (h0 sz : Nat) (th : Int32) (up lo le : Int64) (a : Int32)  : Met l y_M_toHalf w_M_toHalf ({ frames := 1, cells := 0, slots := 0, locals := 30 }) (va_Pc [.ref h0, .int a] (fun U => U.heap.size = sz ∧ va_P (dC, dI) classes [(h0, .inr (1, [.int th, .long up, .long lo, .long le]))] U.heap ∧ va_K (dC, dI) classes [] U ∧ va_D (fun _ => True) [(h0, .inr (1, [.int th, .long up, .long lo, .long le]))])) (va_Qi (fun (r : Int32) (u : MS) => r = nI (sp_th a.toInt)) (at_M dC dI (va_A [(h0, .inr (1, [.int th, .long up, .long lo, .long le]))] sz) h0) (va_A [(h0, .inr (1, [.int th, .long up, .long lo, .long le]))] sz)) 0 0 (va_A [(h0, .inr (1, [.int th, .long up, .long lo, .long le]))] sz) := by
  refine Met.ofW (cc := b_M_toHalf) (maxL := 11) (ret := some .int) (by decide) rfl ?_
  intro p e s m args below meth c s₁ B hml hv
  obtain ⟨rfl, hsz, hP, hK, hD0⟩ := hv
  have hx := B.exec
  have hb := B.bytes
  have hr := B.returns
  have hts := atoms_spec (ws := w_M_toHalf) B.pre
  have hown : s.vm.findClass R_M = some m.cls := findClass_of_methodNamed B.named
  have hlocks := B.notSynchronized
  subst hsz
  have hD := hD0.self (sz := s.heap.size)
  generalize hAe : va_A [(h0, .inr (1, [.int th, .long up, .long lo, .long le]))] s.heap.size = A at hD ⊢
  have hA : ∀ q : Nat, s.heap.size ≤ q → A q := fun q h => by rw [← hAe]; exact Or.inr h
  have hS : va_S A s.heap s.heap [] := va_S.rf
  have hP : va_P (dC, dI) classes [(h0, .inr (1, [.int th, .long up, .long lo, .long le]))] s.heap := hP
  have hl := lv_entry ([.ref h0, .int a]) (n := 11) (Nat.le_of_ble_eq_true rfl)
  rw [lg_entry_eq]
  generalize (lg_sl ([.ref h0, .int a]) ++ List.replicate (11 - (lg_sl ([.ref h0, .int a])).length) Slot.unset).toArray = ls at hl ⊢
  have hl : lv_has ls 11 [(0, .ref h0), (1, .int a)] := hl
  refine lv_aload_n hx hb d_M_toHalf_0 rfl (lv_at hl 0 rfl) ?_
  refine lv_iconst (v := 0) hx hb d_M_toHalf_1 (by decide) ?_
  refine va_put (D := (dC, dI)) (ci := 1) (v := .int 0) (ty := .int) (C := R_M) (T := F_M) (N := 4) hx hb hts (fun w h => List.mem_cons_of_mem _ (i_M w h)) t_M t_M_ok n_M hown hK hP hD hS 0 rfl rfl 0 (by decide) (hts (.fieldLink R_M 7 R_M "thrown" "I") (List.mem_cons_of_mem _ (tm (by decide +kernel) rfl))) (fun _ h9 => h9) rfl (by decide +kernel) rfl rfl (Nat.le_of_ble_eq_true rfl) d_M_toHalf_2 (fun H locs hP hD hS => ?_)
  have hP : va_P (dC, dI) classes [(h0, .inr (1, [.int 0, .long up, .long lo, .long le]))] H := hP
  have hD : va_D A [(h0, .inr (1, [.int 0, .long up, .long lo, .long le]))] := hD
  refine lv_iload_n hx hb d_M_toHalf_5 rfl (lv_at hl 1 rfl) ?_
  refine lv_i2l hx hb d_M_toHalf_6 rfl ?_
  refine lv_topl (fun v6 e6 => ?_)
  refine vp_callSl (W.runS (As := [.long v6]) (rest := []) ⟨hx, hb, hml, hown, hts⟩ (c_M_size l v6 ) (cwS 1 hts g_M_30 rfl rfl rfl (by decide +kernel) ⟨Nat.le_of_ble_eq_true rfl, Nat.le_of_ble_eq_true rfl⟩) preEq rfl rfl hl.1 rfl (lv_room (Nat.le_of_ble_eq_true rfl)) d_M_toHalf_7 ⟨Nat.zero_le _, Nat.zero_le _⟩) (fun v7 e7 => ?_)
  try dsimp only at e7
  refine lv_bipush (v := 8) hx hb d_M_toHalf_10 (by decide) ?_
  refine lv_lshl hx hb d_M_toHalf_12 rfl ?_
  refine lv_topl (fun v12 e12 => ?_)
  refine lv_lstore_n (lv' := [(2, .long v12), (0, .ref h0), (1, .int a)]) hx hb d_M_toHalf_13 rfl hl (by decide) rfl (fun ls hl => ?_)
  refine lv_iconst (v := 0) hx hb d_M_toHalf_14 (by decide) ?_
  refine lv_istore (lv' := [(4, .int 0), (2, .long v12), (0, .ref h0), (1, .int a)]) hx hb d_M_toHalf_15 hl (by decide) rfl (fun ls hl => ?_)
  refine lv_sipush (v := 31744) hx hb d_M_toHalf_17 (by decide) ?_
  refine lv_istore (lv' := [(5, .int 31744), (4, .int 0), (2, .long v12), (0, .ref h0), (1, .int a)]) hx hb d_M_toHalf_20 hl (by decide) rfl (fun ls hl => ?_)
  obtain ⟨f7, -, hsb⟩ := th_s a v6 v7 e6 e7
  obtain ⟨S, hS9⟩ : ∃ n, n = a.toInt.natAbs := ⟨_, rfl⟩
  rw [← hS9] at f7 hsb
  have f12 : v12 = lN (S * 256) := by rw [e12, f7]; exact wb_shl S (k := 8) (by decide)
  refine lp_W (nL := 11) (J := 22) (fun z : Int32 × Int32 => [(5, .int z.2), (4, .int z.1), (2, .long v12), (0, .ref h0), (1, .int a)]) (tm_I (S * 256)) (fun n z hI ih ls hl => ?_) 31744 (0, 31744) (tm_0 hsb) (lv_sub hl [0, 1, 2, 3, 4] rfl)
  obtain ⟨low, high⟩ := z
  obtain ⟨L, Hh, f1, f2, hLH, hHb, hn, a1, a2⟩ := hI
  dsimp only at f1 f2
  have hl : lv_has ls 11 [(5, .int high), (4, .int low), (2, .long v12), (0, .ref h0), (1, .int a)] := hl
  refine lv_iload hx hb d_M_toHalf_22 (lv_at hl 0 rfl) ?_
  refine lv_iload hx hb d_M_toHalf_24 (lv_at hl 1 rfl) ?_
  refine lv_isub hx hb d_M_toHalf_26 ?_
  refine lv_topi (fun v26 e26 => ?_)
  refine lv_iconst (v := 1) hx hb d_M_toHalf_27 (by decide) ?_
  refine lv_icmp_le (tgt := 64) hx hb d_M_toHalf_28 (by decide) (fun c28 => ?_) (fun c28 => ?_)
  · skip
    have hg := (tm_gap f1 f2 hHb hLH e26).mp c28
    subst hg
    have hL3 : L < 31744 := by omega
    refine lv_lload_n hx hb d_M_toHalf_64 rfl (lv_at hl 2 rfl) ?_
    refine lv_iload hx hb d_M_toHalf_65 (lv_at hl 1 rfl) ?_
    refine vp_callSl (W.runS (As := [.int low]) (rest := [.long v12]) ⟨hx, hb, hml, hown, hts⟩ (c_M_scaled l low ) (cwS 1 hts g_M_65 rfl rfl rfl (by decide +kernel) ⟨Nat.le_of_ble_eq_true rfl, Nat.le_of_ble_eq_true rfl⟩) preEq rfl rfl hl.1 rfl (lv_room (Nat.le_of_ble_eq_true rfl)) d_M_toHalf_67 ⟨Nat.zero_le _, Nat.zero_le _⟩) (fun v67 e67 => ?_)
    try dsimp only at e67
    refine lv_lsub hx hb d_M_toHalf_70 ?_
    refine lv_topl (fun v70 e70 => ?_)
    refine lv_lstore (lv' := [(6, .long v70), (5, .int high), (4, .int low), (2, .long v12), (0, .ref h0), (1, .int a)]) hx hb d_M_toHalf_71 hl (by decide) rfl (fun ls hl => ?_)
    refine lv_iload hx hb d_M_toHalf_73 (lv_at hl 2 rfl) ?_
    refine lv_iconst (v := 1) hx hb d_M_toHalf_75 (by decide) ?_
    refine lv_iadd hx hb d_M_toHalf_76 ?_
    refine lv_topi (fun v76 e76 => ?_)
    refine vp_callSl (W.runS (As := [.int v76]) (rest := []) ⟨hx, hb, hml, hown, hts⟩ (c_M_scaled l v76 ) (cwS 1 hts g_M_65 rfl rfl rfl (by decide +kernel) ⟨Nat.le_of_ble_eq_true rfl, Nat.le_of_ble_eq_true rfl⟩) preEq rfl rfl hl.1 rfl (lv_room (Nat.le_of_ble_eq_true rfl)) d_M_toHalf_77 ⟨Nat.zero_le _, Nat.zero_le _⟩) (fun v77 e77 => ?_)
    try dsimp only at e77
    refine lv_lload_n hx hb d_M_toHalf_80 rfl (lv_at hl 3 rfl) ?_
    refine lv_lsub hx hb d_M_toHalf_81 ?_
    refine lv_topl (fun v81 e81 => ?_)
    refine lv_lstore (lv' := [(8, .long v81), (6, .long v70), (5, .int high), (4, .int low), (2, .long v12), (0, .ref h0), (1, .int a)]) hx hb d_M_toHalf_82 hl (by decide) rfl (fun ls hl => ?_)
    obtain ⟨q1, q2, -⟩ := tm_end hsb hL3 f1 f12 a1 a2 e67 e70 e76 e77 e81
    refine lv_lload hx hb d_M_toHalf_84 (lv_at hl 1 rfl) ?_
    refine lv_lload hx hb d_M_toHalf_86 (lv_at hl 0 rfl) ?_
    refine W.lcmp hx hb d_M_toHalf_88 ?_
    refine jn_i (J := 116) (rest := []) (fun v => v = nI (tm_h S)) (fun v116 e116 => ?_) (fun K116 => ?_)
    · skip
      refine lv_istore (lv' := [(10, .int v116), (8, .long v81), (6, .long v70), (5, .int high), (4, .int low), (2, .long v12), (0, .ref h0), (1, .int a)]) hx hb d_M_toHalf_116 hl (by decide) rfl (fun ls hl => ?_)
      have f116 : v116 = nI (tm_h a.toInt.natAbs) := by rw [← hS9]; exact e116
      refine lv_iload_n hx hb d_M_toHalf_118 rfl (lv_at hl 7 rfl) ?_
      refine lv_if_ge (tgt := 135) hx hb d_M_toHalf_119 (by decide) (fun c119 => ?_) (fun c119 => ?_)
      · skip
        refine lv_iload hx hb d_M_toHalf_135 (lv_at hl 0 rfl) ?_
        refine W.iret (v := v116) hx hb hr (fun t ht hW => ⟨⟨_, (0, up, lo, le), rfl, ?_, by rw [ht]; exact hP, va_K.moved hW.alike hK, hD⟩, hS.F ht⟩) hS.2.2 d_M_toHalf_137
        show v116 = nI (sp_th a.toInt)
        exact by first | exact tm_r0 f116 c119 | exact tm_r1 f116 c119 c124 | exact tm_r2 f116 c119 e131
      · skip
        refine lv_iload hx hb d_M_toHalf_122 (lv_at hl 0 rfl) ?_
        refine lv_if_le (tgt := 135) hx hb d_M_toHalf_124 (by decide) (fun c124 => ?_) (fun c124 => ?_)
        · skip
          refine lv_iload hx hb d_M_toHalf_135 (lv_at hl 0 rfl) ?_
          refine W.iret (v := v116) hx hb hr (fun t ht hW => ⟨⟨_, (0, up, lo, le), rfl, ?_, by rw [ht]; exact hP, va_K.moved hW.alike hK, hD⟩, hS.F ht⟩) hS.2.2 d_M_toHalf_137
          show v116 = nI (sp_th a.toInt)
          exact by first | exact tm_r0 f116 c119 | exact tm_r1 f116 c119 c124 | exact tm_r2 f116 c119 e131
        · skip
          refine lv_iload hx hb d_M_toHalf_127 (lv_at hl 0 rfl) ?_
          refine lv_ldc (v := 32768) hx hb hown (hts (.constant R_M 69 32768) (List.mem_cons_of_mem _ (tm (by decide +kernel) rfl))) d_M_toHalf_129 ?_
          refine lv_ior hx hb d_M_toHalf_131 ?_
          refine lv_topi (fun v131 e131 => ?_)
          refine lv_goto (tgt := 137) hx hb d_M_toHalf_132 (by decide) ?_
          refine W.iret (v := v131) hx hb hr (fun t ht hW => ⟨⟨_, (0, up, lo, le), rfl, ?_, by rw [ht]; exact hP, va_K.moved hW.alike hK, hD⟩, hS.F ht⟩) hS.2.2 d_M_toHalf_137
          show v131 = nI (sp_th a.toInt)
          exact by first | exact tm_r0 f116 c119 | exact tm_r1 f116 c119 c124 | exact tm_r2 f116 c119 e131
    · skip
      refine lv_if_lt (tgt := 107) hx hb d_M_toHalf_89 (by decide) (fun c89 => ?_) (fun c89 => ?_)
      · skip
        have c89 := (lg_cmp_lt _ _).mp c89
        refine lv_iload hx hb d_M_toHalf_107 (lv_at hl 3 rfl) ?_
        refine lv_goto (tgt := 116) hx hb d_M_toHalf_109 (by decide) ?_
        exact K116 _ (by first | exact tm_lo hsb hL3 f1 a1 a2 (Or.inl (q1.mp c89)) | exact tm_hi hsb hL3 (nI_up f1 e115) a1 a2 (fun z => z.elim (fun z => c89 (q1.mpr z)) (fun z => c97 (q2.mpr z.1))) | exact tm_hi hsb hL3 (nI_up f1 e115) a1 a2 (fun z => z.elim (fun z => c89 (q1.mpr z)) (fun z => c104 ((tm_par hL3 f1 e103).mpr z.2))) | exact tm_lo hsb hL3 f1 a1 a2 (Or.inr ⟨q2.mp c97, (tm_par hL3 f1 e103).mp c104⟩))
      · skip
        have c89 := (not_congr (lg_cmp_lt _ _)).mp c89
        refine lv_lload hx hb d_M_toHalf_92 (lv_at hl 1 rfl) ?_
        refine lv_lload hx hb d_M_toHalf_94 (lv_at hl 0 rfl) ?_
        refine W.lcmp hx hb d_M_toHalf_96 ?_
        refine lv_if_ne (tgt := 112) hx hb d_M_toHalf_97 (by decide) (fun c97 => ?_) (fun c97 => ?_)
        · skip
          have c97 := (not_congr (lg_cmp_eq _ _)).mp c97
          refine lv_iload hx hb d_M_toHalf_112 (lv_at hl 3 rfl) ?_
          refine lv_iconst (v := 1) hx hb d_M_toHalf_114 (by decide) ?_
          refine lv_iadd hx hb d_M_toHalf_115 ?_
          refine lv_topi (fun v115 e115 => ?_)
          exact K116 _ (by first | exact tm_lo hsb hL3 f1 a1 a2 (Or.inl (q1.mp c89)) | exact tm_hi hsb hL3 (nI_up f1 e115) a1 a2 (fun z => z.elim (fun z => c89 (q1.mpr z)) (fun z => c97 (q2.mpr z.1))) | exact tm_hi hsb hL3 (nI_up f1 e115) a1 a2 (fun z => z.elim (fun z => c89 (q1.mpr z)) (fun z => c104 ((tm_par hL3 f1 e103).mpr z.2))) | exact tm_lo hsb hL3 f1 a1 a2 (Or.inr ⟨q2.mp c97, (tm_par hL3 f1 e103).mp c104⟩))
        · skip
          have c97 := (lg_cmp_eq _ _).mp c97
          refine lv_iload hx hb d_M_toHalf_100 (lv_at hl 3 rfl) ?_
          refine lv_iconst (v := 2) hx hb d_M_toHalf_102 (by decide) ?_
          refine lv_irem hx hb d_M_toHalf_103 (by decide) ?_
          refine lv_topi (fun v103 e103 => ?_)
          refine lv_if_ne (tgt := 112) hx hb d_M_toHalf_104 (by decide) (fun c104 => ?_) (fun c104 => ?_)
          · skip
            refine lv_iload hx hb d_M_toHalf_112 (lv_at hl 3 rfl) ?_
            refine lv_iconst (v := 1) hx hb d_M_toHalf_114 (by decide) ?_
            refine lv_iadd hx hb d_M_toHalf_115 ?_
            refine lv_topi (fun v115 e115 => ?_)
            exact K116 _ (by first | exact tm_lo hsb hL3 f1 a1 a2 (Or.inl (q1.mp c89)) | exact tm_hi hsb hL3 (nI_up f1 e115) a1 a2 (fun z => z.elim (fun z => c89 (q1.mpr z)) (fun z => c97 (q2.mpr z.1))) | exact tm_hi hsb hL3 (nI_up f1 e115) a1 a2 (fun z => z.elim (fun z => c89 (q1.mpr z)) (fun z => c104 ((tm_par hL3 f1 e103).mpr z.2))) | exact tm_lo hsb hL3 f1 a1 a2 (Or.inr ⟨q2.mp c97, (tm_par hL3 f1 e103).mp c104⟩))
          · skip
            refine lv_iload hx hb d_M_toHalf_107 (lv_at hl 3 rfl) ?_
            refine lv_goto (tgt := 116) hx hb d_M_toHalf_109 (by decide) ?_
            exact K116 _ (by first | exact tm_lo hsb hL3 f1 a1 a2 (Or.inl (q1.mp c89)) | exact tm_hi hsb hL3 (nI_up f1 e115) a1 a2 (fun z => z.elim (fun z => c89 (q1.mpr z)) (fun z => c97 (q2.mpr z.1))) | exact tm_hi hsb hL3 (nI_up f1 e115) a1 a2 (fun z => z.elim (fun z => c89 (q1.mpr z)) (fun z => c104 ((tm_par hL3 f1 e103).mpr z.2))) | exact tm_lo hsb hL3 f1 a1 a2 (Or.inr ⟨q2.mp c97, (tm_par hL3 f1 e103).mp c104⟩))
  · skip
    have hgap : ¬ Hh = L + 1 := fun q => c28 ((tm_gap f1 f2 hHb hLH e26).mpr q)
    refine lv_iload hx hb d_M_toHalf_31 (lv_at hl 1 rfl) ?_
    refine lv_iload hx hb d_M_toHalf_33 (lv_at hl 0 rfl) ?_
    refine lv_iadd hx hb d_M_toHalf_35 ?_
    refine lv_topi (fun v35 e35 => ?_)
    refine lv_iconst (v := 1) hx hb d_M_toHalf_36 (by decide) ?_
    refine lv_ishr hx hb d_M_toHalf_37 ?_
    refine lv_topi (fun v37 e37 => ?_)
    refine lv_istore (lv' := [(6, .int v37), (5, .int high), (4, .int low), (2, .long v12), (0, .ref h0), (1, .int a)]) hx hb d_M_toHalf_38 hl (by decide) rfl (fun ls hl => ?_)
    have f37 := tm_mid f1 f2 hHb hLH e35 e37
    refine lv_iload hx hb d_M_toHalf_40 (lv_at hl 0 rfl) ?_
    refine vp_callSl (W.runS (As := [.int v37]) (rest := []) ⟨hx, hb, hml, hown, hts⟩ (c_M_scaled l v37 ) (cwS 1 hts g_M_65 rfl rfl rfl (by decide +kernel) ⟨Nat.le_of_ble_eq_true rfl, Nat.le_of_ble_eq_true rfl⟩) preEq rfl rfl hl.1 rfl (lv_room (Nat.le_of_ble_eq_true rfl)) d_M_toHalf_42 ⟨Nat.zero_le _, Nat.zero_le _⟩) (fun v42 e42 => ?_)
    try dsimp only at e42
    have cx := tm_gt (d := S * 256) (tm_sc (by omega) f37 e42) f12 (by omega)
    refine lv_lload_n hx hb d_M_toHalf_45 rfl (lv_at hl 3 rfl) ?_
    refine W.lcmp hx hb d_M_toHalf_46 ?_
    refine lv_if_gt (tgt := 57) hx hb d_M_toHalf_47 (by decide) (fun c47 => ?_) (fun c47 => ?_)
    · skip
      have c47 := (lg_cmp_gt _ _).mp c47
      refine lv_iload hx hb d_M_toHalf_57 (lv_at hl 0 rfl) ?_
      refine lv_istore (lv' := [(5, .int v37), (6, .int v37), (4, .int low), (2, .long v12), (0, .ref h0), (1, .int a)]) hx hb d_M_toHalf_59 hl (by decide) rfl (fun ls hl => ?_)
      refine lv_goto (tgt := 22) hx hb d_M_toHalf_61 (by decide) ?_
      exact ih ((L + Hh) / 2 - L) (low, v37) (by omega) (⟨L, (L + Hh) / 2, f1, f37, by omega, by omega, rfl, a1, cx.mp c47⟩) _ (lv_sub hl [0, 2, 3, 4, 5] rfl)
    · skip
      have c47 := (not_congr (lg_cmp_gt _ _)).mp c47
      refine lv_iload hx hb d_M_toHalf_50 (lv_at hl 0 rfl) ?_
      refine lv_istore (lv' := [(4, .int v37), (6, .int v37), (5, .int high), (2, .long v12), (0, .ref h0), (1, .int a)]) hx hb d_M_toHalf_52 hl (by decide) rfl (fun ls hl => ?_)
      refine lv_goto (tgt := 61) hx hb d_M_toHalf_54 (by decide) ?_
      refine lv_goto (tgt := 22) hx hb d_M_toHalf_61 (by decide) ?_
      exact ih (Hh - (L + Hh) / 2) (v37, high) (by omega) (⟨(L + Hh) / 2, Hh, f37, f2, by omega, hHb, rfl, Nat.not_lt.mp (fun q => c47 (cx.mpr q)), a2⟩) _ (lv_sub hl [2, 0, 3, 4, 5] rfl)
