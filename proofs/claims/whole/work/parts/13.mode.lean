set_option maxHeartbeats 4000000 in
set_option maxRecDepth 100000 in
theorem c_M_multiply (l : Launch) (dC : Nat → ClassId) (dI : Nat → Nat → Nat) (h0 sz : Nat) (th : Int32) (up lo le : Int64) (a b : Int64)  : Met l y_M_multiply w_M_multiply ({ frames := 1, cells := 0, slots := 0, locals := 30 }) (va_Pc [.ref h0, .long a, .long b] (fun U => U.heap.size = sz ∧ va_P (dC, dI) classes [(h0, .inr (1, [.int th, .long up, .long lo, .long le]))] U.heap ∧ va_K (dC, dI) classes [] U ∧ va_D (fun _ => True) [(h0, .inr (1, [.int th, .long up, .long lo, .long le]))])) (va_Qv (fun (u : MS) => u.1 = th ∧ u.2.2.2 = le ∧ uN u.2.1 * 18446744073709551616 + uN u.2.2.1 = uN a * uN b) (at_M dC dI (va_A [(h0, .inr (1, [.int th, .long up, .long lo, .long le]))] sz) h0) (va_A [(h0, .inr (1, [.int th, .long up, .long lo, .long le]))] sz)) 0 0 (va_A [(h0, .inr (1, [.int th, .long up, .long lo, .long le]))] sz) := by
  refine Met.ofW (cc := b_M_multiply) (maxL := 8) (ret := none) (by decide) rfl ?_
  intro p e s m args below meth c s₁ B hml hv
  obtain ⟨rfl, hsz, hP, hK, hD0⟩ := hv
  have hx := B.exec
  have hb := B.bytes
  have hr := B.returns
  have hts := atoms_spec (ws := w_M_multiply) B.pre
  have hown : s.vm.findClass R_M = some m.cls := findClass_of_methodNamed B.named
  have hlocks := B.notSynchronized
  subst hsz
  have hD := hD0.self (sz := s.heap.size)
  generalize hAe : va_A [(h0, .inr (1, [.int th, .long up, .long lo, .long le]))] s.heap.size = A at hD ⊢
  have hA : ∀ q : Nat, s.heap.size ≤ q → A q := fun q h => by rw [← hAe]; exact Or.inr h
  have hS : va_S A s.heap s.heap [] := va_S.rf
  have hP : va_P (dC, dI) classes [(h0, .inr (1, [.int th, .long up, .long lo, .long le]))] s.heap := hP
  have hl := lv_entry ([.ref h0, .long a, .long b]) (n := 8) (Nat.le_of_ble_eq_true rfl)
  rw [lg_entry_eq]
  generalize (lg_sl ([.ref h0, .long a, .long b]) ++ List.replicate (8 - (lg_sl ([.ref h0, .long a, .long b])).length) Slot.unset).toArray = ls at hl ⊢
  have hl : lv_has ls 8 [(0, .ref h0), (1, .long a), (3, .long b)] := hl
  refine lv_aload_n hx hb d_M_multiply_0 rfl (lv_at hl 0 rfl) ?_
  refine lv_lconst (v := 0) hx hb d_M_multiply_1 (by decide) ?_
  refine va_put (D := (dC, dI)) (ci := 1) (v := .long 0) (ty := .long) (C := R_M) (T := F_M) (N := 4) hx hb hts (fun w h => List.mem_cons_of_mem _ (i_M w h)) t_M t_M_ok n_M hown hK hP hD hS 0 rfl rfl 1 (by decide) (hts (.fieldLink R_M 16 R_M "upper" "J") (List.mem_cons_of_mem _ (tm (by decide +kernel) rfl))) (fun _ h9 => h9) rfl (by decide +kernel) rfl rfl (Nat.le_of_ble_eq_true rfl) d_M_multiply_2 (fun H locs hP hD hS => ?_)
  have hP : va_P (dC, dI) classes [(h0, .inr (1, [.int th, .long 0, .long lo, .long le]))] H := hP
  have hD : va_D A [(h0, .inr (1, [.int th, .long 0, .long lo, .long le]))] := hD
  refine lv_aload_n hx hb d_M_multiply_5 rfl (lv_at hl 0 rfl) ?_
  refine lv_lconst (v := 0) hx hb d_M_multiply_6 (by decide) ?_
  refine va_put (D := (dC, dI)) (ci := 1) (v := .long 0) (ty := .long) (C := R_M) (T := F_M) (N := 4) hx hb hts (fun w h => List.mem_cons_of_mem _ (i_M w h)) t_M t_M_ok n_M hown hK hP hD hS 0 rfl rfl 2 (by decide) (hts (.fieldLink R_M 20 R_M "lower" "J") (List.mem_cons_of_mem _ (tm (by decide +kernel) rfl))) (fun _ h9 => h9) rfl (by decide +kernel) rfl rfl (Nat.le_of_ble_eq_true rfl) d_M_multiply_7 (fun H locs hP hD hS => ?_)
  have hP : va_P (dC, dI) classes [(h0, .inr (1, [.int th, .long 0, .long 0, .long le]))] H := hP
  have hD : va_D A [(h0, .inr (1, [.int th, .long 0, .long 0, .long le]))] := hD
  refine lv_bipush (v := 63) hx hb d_M_multiply_10 (by decide) ?_
  refine lv_istore (lv' := [(5, .int 63), (0, .ref h0), (1, .long a), (3, .long b)]) hx hb d_M_multiply_12 hl (by decide) rfl (fun ls hl => ?_)
  refine lp_H (nL := 8) (J := 14) (fun z : Int64 × Int64 × Int32 => [(5, .int z.2.2), (0, .ref h0), (1, .long a), (3, .long b)]) (fun n z H locs => mm_I a b n z ∧ va_P (dC, dI) classes [(h0, .inr (1, [.int th, .long z.1, .long z.2.1, .long le]))] H ∧ va_D A [(h0, .inr (1, [.int th, .long z.1, .long z.2.1, .long le]))] ∧ va_S A s.heap H locs) (fun n z H locs hI ih ls hl => ?_) 64 (0, 0, 63) ⟨mm_0 a b, hP, hD, hS⟩ (lv_sub hl [0, 1, 2, 3] rfl)
  obtain ⟨up1, lo1, k⟩ := z
  obtain ⟨⟨hk, hn, hE⟩, hP, hD, hS⟩ := hI
  dsimp only at hk hE
  have hP : va_P (dC, dI) classes [(h0, .inr (1, [.int th, .long up1, .long lo1, .long le]))] H := hP
  have hD : va_D A [(h0, .inr (1, [.int th, .long up1, .long lo1, .long le]))] := hD
  have hl : lv_has ls 8 [(5, .int k), (0, .ref h0), (1, .long a), (3, .long b)] := hl
  refine lv_iload hx hb d_M_multiply_14 (lv_at hl 0 rfl) ?_
  refine lv_if_lt (tgt := 107) hx hb d_M_multiply_16 (by decide) (fun c16 => ?_) (fun c16 => ?_)
  · skip
    exact W.vret hx hb hr (fun t ht hW => ⟨⟨(th, up1, lo1, le), rfl, ⟨rfl, rfl, by have z := dn_neg (by omega) hk c16; subst z; exact mm_end hE⟩, by rw [ht]; exact hP, va_K.moved hW.alike hK, hD⟩, hS.F ht⟩) hS.2.2 d_M_multiply_107
  · skip
    obtain ⟨j, rfl, hkj⟩ := dn_nn (by omega) hk c16
    refine lv_aload_n hx hb d_M_multiply_19 rfl (lv_at hl 1 rfl) ?_
    refine lv_aload_n hx hb d_M_multiply_20 rfl (lv_at hl 1 rfl) ?_
    refine va_get (D := (dC, dI)) (ci := 1) (v := .long up1) (C := R_M) (T := F_M) (N := 4) hx hb hts (fun w h => List.mem_cons_of_mem _ (i_M w h)) hown hK hP 0 rfl rfl 1 (by decide) (hts (.fieldLink R_M 16 R_M "upper" "J") (List.mem_cons_of_mem _ (tm (by decide +kernel) rfl))) (fun _ h9 => h9) rfl d_M_multiply_21 ?_
    refine lv_iconst (v := 1) hx hb d_M_multiply_24 (by decide) ?_
    refine lv_lshl hx hb d_M_multiply_25 rfl ?_
    refine lv_topl (fun v25 e25 => ?_)
    refine lv_aload_n hx hb d_M_multiply_26 rfl (lv_at hl 1 rfl) ?_
    refine va_get (D := (dC, dI)) (ci := 1) (v := .long lo1) (C := R_M) (T := F_M) (N := 4) hx hb hts (fun w h => List.mem_cons_of_mem _ (i_M w h)) hown hK hP 0 rfl rfl 2 (by decide) (hts (.fieldLink R_M 20 R_M "lower" "J") (List.mem_cons_of_mem _ (tm (by decide +kernel) rfl))) (fun _ h9 => h9) rfl d_M_multiply_27 ?_
    refine lv_bipush (v := 63) hx hb d_M_multiply_30 (by decide) ?_
    refine lv_lushr hx hb d_M_multiply_32 rfl ?_
    refine lv_topl (fun v32 e32 => ?_)
    refine lv_lor hx hb d_M_multiply_33 ?_
    refine lv_topl (fun v33 e33 => ?_)
    refine va_put (D := (dC, dI)) (ci := 1) (v := .long v33) (ty := .long) (C := R_M) (T := F_M) (N := 4) hx hb hts (fun w h => List.mem_cons_of_mem _ (i_M w h)) t_M t_M_ok n_M hown hK hP hD hS 0 rfl rfl 1 (by decide) (hts (.fieldLink R_M 16 R_M "upper" "J") (List.mem_cons_of_mem _ (tm (by decide +kernel) rfl))) (fun _ h9 => h9) rfl (by decide +kernel) rfl rfl (Nat.le_of_ble_eq_true rfl) d_M_multiply_34 (fun H locs hP hD hS => ?_)
    have hP : va_P (dC, dI) classes [(h0, .inr (1, [.int th, .long v33, .long lo1, .long le]))] H := hP
    have hD : va_D A [(h0, .inr (1, [.int th, .long v33, .long lo1, .long le]))] := hD
    refine lv_aload_n hx hb d_M_multiply_37 rfl (lv_at hl 1 rfl) ?_
    refine lv_aload_n hx hb d_M_multiply_38 rfl (lv_at hl 1 rfl) ?_
    refine va_get (D := (dC, dI)) (ci := 1) (v := .long lo1) (C := R_M) (T := F_M) (N := 4) hx hb hts (fun w h => List.mem_cons_of_mem _ (i_M w h)) hown hK hP 0 rfl rfl 2 (by decide) (hts (.fieldLink R_M 20 R_M "lower" "J") (List.mem_cons_of_mem _ (tm (by decide +kernel) rfl))) (fun _ h9 => h9) rfl d_M_multiply_39 ?_
    refine lv_iconst (v := 1) hx hb d_M_multiply_42 (by decide) ?_
    refine lv_lshl hx hb d_M_multiply_43 rfl ?_
    refine lv_topl (fun v43 e43 => ?_)
    refine va_put (D := (dC, dI)) (ci := 1) (v := .long v43) (ty := .long) (C := R_M) (T := F_M) (N := 4) hx hb hts (fun w h => List.mem_cons_of_mem _ (i_M w h)) t_M t_M_ok n_M hown hK hP hD hS 0 rfl rfl 2 (by decide) (hts (.fieldLink R_M 20 R_M "lower" "J") (List.mem_cons_of_mem _ (tm (by decide +kernel) rfl))) (fun _ h9 => h9) rfl (by decide +kernel) rfl rfl (Nat.le_of_ble_eq_true rfl) d_M_multiply_44 (fun H locs hP hD hS => ?_)
    have hP : va_P (dC, dI) classes [(h0, .inr (1, [.int th, .long v33, .long v43, .long le]))] H := hP
    have hD : va_D A [(h0, .inr (1, [.int th, .long v33, .long v43, .long le]))] := hD
    have hs := mm_sh (mm_up hE) e25 e32 e33 e43
    refine lv_lload_n hx hb d_M_multiply_47 rfl (lv_at hl 3 rfl) ?_
    refine lv_iload hx hb d_M_multiply_48 (lv_at hl 0 rfl) ?_
    refine lv_lushr hx hb d_M_multiply_50 rfl ?_
    refine lv_topl (fun v50 e50 => ?_)
    refine lv_lconst (v := 1) hx hb d_M_multiply_51 (by decide) ?_
    refine lv_land hx hb d_M_multiply_52 ?_
    refine lv_topl (fun v52 e52 => ?_)
    have hbit := mm_bit hkj (by omega) e50 e52
    refine lv_lconst (v := 1) hx hb d_M_multiply_53 (by decide) ?_
    refine W.lcmp hx hb d_M_multiply_54 ?_
    refine lv_if_ne (tgt := 101) hx hb d_M_multiply_55 (by decide) (fun c55 => ?_) (fun c55 => ?_)
    · skip
      have c55 := (not_congr (lg_cmp_eq _ _)).mp c55
      obtain ⟨v101, e101⟩ : ∃ y : Int32, y = k + Int32.ofInt (-1) := ⟨_, rfl⟩
      refine lv_iinc (v := v101) (lv' := [(5, .int v101), (0, .ref h0), (1, .long a), (3, .long b)]) hx hb d_M_multiply_101 hl (k := 0) rfl (by rw [e101]) (by decide) rfl (fun ls hl => ?_)
      refine lv_goto (tgt := 14) hx hb d_M_multiply_104 (by decide) ?_
      exact ih _ (v33, v43, v101) H _ (Nat.lt_succ_self _) ⟨mm_no hkj hn hE hs.1 (fun z => c55 (hbit.2.mpr z)) e101, hP, hD, hS⟩ _ (lv_sub hl [0, 1, 2, 3] rfl)
    · skip
      have c55 := (lg_cmp_eq _ _).mp c55
      refine lv_aload_n hx hb d_M_multiply_58 rfl (lv_at hl 1 rfl) ?_
      refine va_get (D := (dC, dI)) (ci := 1) (v := .long v43) (C := R_M) (T := F_M) (N := 4) hx hb hts (fun w h => List.mem_cons_of_mem _ (i_M w h)) hown hK hP 0 rfl rfl 2 (by decide) (hts (.fieldLink R_M 20 R_M "lower" "J") (List.mem_cons_of_mem _ (tm (by decide +kernel) rfl))) (fun _ h9 => h9) rfl d_M_multiply_59 ?_
      refine lv_lload_n hx hb d_M_multiply_62 rfl (lv_at hl 2 rfl) ?_
      refine lv_ladd hx hb d_M_multiply_63 ?_
      refine lv_topl (fun v63 e63 => ?_)
      refine lv_lstore (lv' := [(6, .long v63), (5, .int k), (0, .ref h0), (1, .long a), (3, .long b)]) hx hb d_M_multiply_64 hl (by decide) rfl (fun ls hl => ?_)
      refine lv_aload_n hx hb d_M_multiply_66 rfl (lv_at hl 2 rfl) ?_
      refine lv_lload hx hb d_M_multiply_67 (lv_at hl 0 rfl) ?_
      refine lv_aload_n hx hb d_M_multiply_69 rfl (lv_at hl 2 rfl) ?_
      refine va_get (D := (dC, dI)) (ci := 1) (v := .long v43) (C := R_M) (T := F_M) (N := 4) hx hb hts (fun w h => List.mem_cons_of_mem _ (i_M w h)) hown hK hP 0 rfl rfl 2 (by decide) (hts (.fieldLink R_M 20 R_M "lower" "J") (List.mem_cons_of_mem _ (tm (by decide +kernel) rfl))) (fun _ h9 => h9) rfl d_M_multiply_70 ?_
      refine vp_callSi (W.runS (As := [.long v63, .long v43]) (rest := [.ref h0]) ⟨hx, hb, hml, hown, hts⟩ (c_M_below l v63 v43 ) (cwS 2 hts g_M_23 rfl rfl rfl (by decide +kernel) ⟨Nat.le_of_ble_eq_true rfl, Nat.le_of_ble_eq_true rfl⟩) preEq rfl rfl hl.1 rfl (lv_room (Nat.le_of_ble_eq_true rfl)) d_M_multiply_73 ⟨Nat.zero_le _, Nat.zero_le _⟩) (fun v73 e73 => ?_)
      try dsimp only at e73
      refine lv_if_eq (tgt := 88) hx hb d_M_multiply_76 (by decide) (fun c76 => ?_) (fun c76 => ?_)
      · skip
        refine lv_aload_n hx hb d_M_multiply_88 rfl (lv_at hl 2 rfl) ?_
        refine va_get (D := (dC, dI)) (ci := 1) (v := .long v33) (C := R_M) (T := F_M) (N := 4) hx hb hts (fun w h => List.mem_cons_of_mem _ (i_M w h)) hown hK hP 0 rfl rfl 1 (by decide) (hts (.fieldLink R_M 16 R_M "upper" "J") (List.mem_cons_of_mem _ (tm (by decide +kernel) rfl))) (fun _ h9 => h9) rfl d_M_multiply_89 ?_
        refine va_put (D := (dC, dI)) (ci := 1) (v := .long v33) (ty := .long) (C := R_M) (T := F_M) (N := 4) hx hb hts (fun w h => List.mem_cons_of_mem _ (i_M w h)) t_M t_M_ok n_M hown hK hP hD hS 0 rfl rfl 1 (by decide) (hts (.fieldLink R_M 16 R_M "upper" "J") (List.mem_cons_of_mem _ (tm (by decide +kernel) rfl))) (fun _ h9 => h9) rfl (by decide +kernel) rfl rfl (Nat.le_of_ble_eq_true rfl) d_M_multiply_92 (fun H locs hP hD hS => ?_)
        have hP : va_P (dC, dI) classes [(h0, .inr (1, [.int th, .long v33, .long v43, .long le]))] H := hP
        have hD : va_D A [(h0, .inr (1, [.int th, .long v33, .long v43, .long le]))] := hD
        refine lv_aload_n hx hb d_M_multiply_95 rfl (lv_at hl 2 rfl) ?_
        refine lv_lload hx hb d_M_multiply_96 (lv_at hl 0 rfl) ?_
        refine va_put (D := (dC, dI)) (ci := 1) (v := .long v63) (ty := .long) (C := R_M) (T := F_M) (N := 4) hx hb hts (fun w h => List.mem_cons_of_mem _ (i_M w h)) t_M t_M_ok n_M hown hK hP hD hS 0 rfl rfl 2 (by decide) (hts (.fieldLink R_M 20 R_M "lower" "J") (List.mem_cons_of_mem _ (tm (by decide +kernel) rfl))) (fun _ h9 => h9) rfl (by decide +kernel) rfl rfl (Nat.le_of_ble_eq_true rfl) d_M_multiply_98 (fun H locs hP hD hS => ?_)
        have hP : va_P (dC, dI) classes [(h0, .inr (1, [.int th, .long v33, .long v63, .long le]))] H := hP
        have hD : va_D A [(h0, .inr (1, [.int th, .long v33, .long v63, .long le]))] := hD
        obtain ⟨v101, e101⟩ : ∃ y : Int32, y = k + Int32.ofInt (-1) := ⟨_, rfl⟩
        refine lv_iinc (v := v101) (lv' := [(5, .int v101), (6, .long v63), (0, .ref h0), (1, .long a), (3, .long b)]) hx hb d_M_multiply_101 hl (k := 1) rfl (by rw [e101]) (by decide) rfl (fun ls hl => ?_)
        refine lv_goto (tgt := 14) hx hb d_M_multiply_104 (by decide) ?_
        exact ih _ (v33, v63, v101) H _ (Nat.lt_succ_self _) ⟨mm_c0 hkj hn hE hs.1 (hbit.2.mp c55) e63 e73 c76 e101, hP, hD, hS⟩ _ (lv_sub hl [0, 2, 3, 4] rfl)
      · skip
        refine lv_aload_n hx hb d_M_multiply_79 rfl (lv_at hl 2 rfl) ?_
        refine va_get (D := (dC, dI)) (ci := 1) (v := .long v33) (C := R_M) (T := F_M) (N := 4) hx hb hts (fun w h => List.mem_cons_of_mem _ (i_M w h)) hown hK hP 0 rfl rfl 1 (by decide) (hts (.fieldLink R_M 16 R_M "upper" "J") (List.mem_cons_of_mem _ (tm (by decide +kernel) rfl))) (fun _ h9 => h9) rfl d_M_multiply_80 ?_
        refine lv_lconst (v := 1) hx hb d_M_multiply_83 (by decide) ?_
        refine lv_ladd hx hb d_M_multiply_84 ?_
        refine lv_topl (fun v84 e84 => ?_)
        refine lv_goto (tgt := 92) hx hb d_M_multiply_85 (by decide) ?_
        refine va_put (D := (dC, dI)) (ci := 1) (v := .long v84) (ty := .long) (C := R_M) (T := F_M) (N := 4) hx hb hts (fun w h => List.mem_cons_of_mem _ (i_M w h)) t_M t_M_ok n_M hown hK hP hD hS 0 rfl rfl 1 (by decide) (hts (.fieldLink R_M 16 R_M "upper" "J") (List.mem_cons_of_mem _ (tm (by decide +kernel) rfl))) (fun _ h9 => h9) rfl (by decide +kernel) rfl rfl (Nat.le_of_ble_eq_true rfl) d_M_multiply_92 (fun H locs hP hD hS => ?_)
        have hP : va_P (dC, dI) classes [(h0, .inr (1, [.int th, .long v84, .long v43, .long le]))] H := hP
        have hD : va_D A [(h0, .inr (1, [.int th, .long v84, .long v43, .long le]))] := hD
        refine lv_aload_n hx hb d_M_multiply_95 rfl (lv_at hl 2 rfl) ?_
        refine lv_lload hx hb d_M_multiply_96 (lv_at hl 0 rfl) ?_
        refine va_put (D := (dC, dI)) (ci := 1) (v := .long v63) (ty := .long) (C := R_M) (T := F_M) (N := 4) hx hb hts (fun w h => List.mem_cons_of_mem _ (i_M w h)) t_M t_M_ok n_M hown hK hP hD hS 0 rfl rfl 2 (by decide) (hts (.fieldLink R_M 20 R_M "lower" "J") (List.mem_cons_of_mem _ (tm (by decide +kernel) rfl))) (fun _ h9 => h9) rfl (by decide +kernel) rfl rfl (Nat.le_of_ble_eq_true rfl) d_M_multiply_98 (fun H locs hP hD hS => ?_)
        have hP : va_P (dC, dI) classes [(h0, .inr (1, [.int th, .long v84, .long v63, .long le]))] H := hP
        have hD : va_D A [(h0, .inr (1, [.int th, .long v84, .long v63, .long le]))] := hD
        obtain ⟨v101, e101⟩ : ∃ y : Int32, y = k + Int32.ofInt (-1) := ⟨_, rfl⟩
        refine lv_iinc (v := v101) (lv' := [(5, .int v101), (6, .long v63), (0, .ref h0), (1, .long a), (3, .long b)]) hx hb d_M_multiply_101 hl (k := 1) rfl (by rw [e101]) (by decide) rfl (fun ls hl => ?_)
        refine lv_goto (tgt := 14) hx hb d_M_multiply_104 (by decide) ?_
        exact ih _ (v84, v63, v101) H _ (Nat.lt_succ_self _) ⟨mm_c1 hkj hn hE hs.1 (hbit.2.mp c55) e63 e73 c76 e84 e101, hP, hD, hS⟩ _ (lv_sub hl [0, 2, 3, 4] rfl)
set_option maxHeartbeats 4000000 in
set_option maxRecDepth 100000 in
theorem c_M_divide (l : Launch) (dC : Nat → ClassId) (dI : Nat → Nat → Nat) (h0 sz : Nat) (th : Int32) (up lo le : Int64) (x : Int64) (hx0 : 0 < uN x) (hx1 : uN x ≤ 9223372036854775808) : Met l y_M_divide w_M_divide ({ frames := 1, cells := 0, slots := 0, locals := 30 }) (va_Pc [.ref h0, .long x] (fun U => U.heap.size = sz ∧ va_P (dC, dI) classes [(h0, .inr (1, [.int th, .long up, .long lo, .long le]))] U.heap ∧ va_K (dC, dI) classes [] U ∧ va_D (fun _ => True) [(h0, .inr (1, [.int th, .long up, .long lo, .long le]))])) (va_Qv (fun (u : MS) => u.1 = th ∧ uN u.2.1 * 18446744073709551616 + uN u.2.2.1 = (uN up * 18446744073709551616 + uN lo) / uN x ∧ uN u.2.2.2 = (uN up * 18446744073709551616 + uN lo) % uN x) (at_M dC dI (va_A [(h0, .inr (1, [.int th, .long up, .long lo, .long le]))] sz) h0) (va_A [(h0, .inr (1, [.int th, .long up, .long lo, .long le]))] sz)) 0 0 (va_A [(h0, .inr (1, [.int th, .long up, .long lo, .long le]))] sz) := by
  refine Met.ofW (cc := b_M_divide) (maxL := 13) (ret := none) (by decide) rfl ?_
  intro p e s m args below meth c s₁ B hml hv
  obtain ⟨rfl, hsz, hP, hK, hD0⟩ := hv
  have hx := B.exec
  have hb := B.bytes
  have hr := B.returns
  have hts := atoms_spec (ws := w_M_divide) B.pre
  have hown : s.vm.findClass R_M = some m.cls := findClass_of_methodNamed B.named
  have hlocks := B.notSynchronized
  subst hsz
  have hD := hD0.self (sz := s.heap.size)
  generalize hAe : va_A [(h0, .inr (1, [.int th, .long up, .long lo, .long le]))] s.heap.size = A at hD ⊢
  have hA : ∀ q : Nat, s.heap.size ≤ q → A q := fun q h => by rw [← hAe]; exact Or.inr h
  have hS : va_S A s.heap s.heap [] := va_S.rf
  have hP : va_P (dC, dI) classes [(h0, .inr (1, [.int th, .long up, .long lo, .long le]))] s.heap := hP
  have hl := lv_entry ([.ref h0, .long x]) (n := 13) (Nat.le_of_ble_eq_true rfl)
  rw [lg_entry_eq]
  generalize (lg_sl ([.ref h0, .long x]) ++ List.replicate (13 - (lg_sl ([.ref h0, .long x])).length) Slot.unset).toArray = ls at hl ⊢
  have hl : lv_has ls 13 [(0, .ref h0), (1, .long x)] := hl
  refine lv_lconst (v := 0) hx hb d_M_divide_0 (by decide) ?_
  refine lv_lstore_n (lv' := [(3, .long 0), (0, .ref h0), (1, .long x)]) hx hb d_M_divide_1 rfl hl (by decide) rfl (fun ls hl => ?_)
  refine lv_lconst (v := 0) hx hb d_M_divide_2 (by decide) ?_
  refine lv_lstore (lv' := [(5, .long 0), (3, .long 0), (0, .ref h0), (1, .long x)]) hx hb d_M_divide_3 hl (by decide) rfl (fun ls hl => ?_)
  refine lv_lconst (v := 0) hx hb d_M_divide_5 (by decide) ?_
  refine lv_lstore (lv' := [(7, .long 0), (5, .long 0), (3, .long 0), (0, .ref h0), (1, .long x)]) hx hb d_M_divide_6 hl (by decide) rfl (fun ls hl => ?_)
  refine lv_bipush (v := 127) hx hb d_M_divide_8 (by decide) ?_
  refine lv_istore (lv' := [(9, .int 127), (7, .long 0), (5, .long 0), (3, .long 0), (0, .ref h0), (1, .long x)]) hx hb d_M_divide_10 hl (by decide) rfl (fun ls hl => ?_)
  obtain ⟨N, hNe⟩ : ∃ n, n = uN up * 18446744073709551616 + uN lo := ⟨_, rfl⟩
  have hNb : N < 2 ^ 128 := by rw [hNe]; exact md_N up lo
  obtain ⟨C, hCe⟩ : ∃ n, n = uN x := ⟨_, rfl⟩
  have hC0 : 0 < C := by omega
  have hC1 : C ≤ 9223372036854775808 := by omega
  refine lp_W (nL := 13) (J := 12) (fun z : Int64 × Int64 × Int64 × Int32 => [(9, .int z.2.2.2), (7, .long z.2.2.1), (5, .long z.2.1), (3, .long z.1), (0, .ref h0), (1, .long x)]) (md_I N C) (fun n z hI ih ls hl => ?_) 128 (0, 0, 0, 127) (md_0 hNb hC0) (lv_sub hl [0, 1, 2, 3, 4, 5] rfl)
  obtain ⟨high, low, rest, k⟩ := z
  obtain ⟨hk, hn, hR, hE⟩ := hI
  dsimp only at hk hR hE
  have hr0 : 0 ≤ rest := (ra_pos rest).mpr (by omega)
  have hl : lv_has ls 13 [(9, .int k), (7, .long rest), (5, .long low), (3, .long high), (0, .ref h0), (1, .long x)] := hl
  refine lv_iload hx hb d_M_divide_12 (lv_at hl 0 rfl) ?_
  refine lv_if_lt (tgt := 121) hx hb d_M_divide_14 (by decide) (fun c14 => ?_) (fun c14 => ?_)
  · skip
    have z := dn_neg (by omega) hk c14
    subst z
    have hend := md_end hC0 hR hE
    refine lv_aload_n hx hb d_M_divide_121 rfl (lv_at hl 4 rfl) ?_
    refine lv_lload_n hx hb d_M_divide_122 rfl (lv_at hl 3 rfl) ?_
    refine va_put (D := (dC, dI)) (ci := 1) (v := .long high) (ty := .long) (C := R_M) (T := F_M) (N := 4) hx hb hts (fun w h => List.mem_cons_of_mem _ (i_M w h)) t_M t_M_ok n_M hown hK hP hD hS 0 rfl rfl 1 (by decide) (hts (.fieldLink R_M 16 R_M "upper" "J") (List.mem_cons_of_mem _ (tm (by decide +kernel) rfl))) (fun _ h9 => h9) rfl (by decide +kernel) rfl rfl (Nat.le_of_ble_eq_true rfl) d_M_divide_123 (fun H locs hP hD hS => ?_)
    have hP : va_P (dC, dI) classes [(h0, .inr (1, [.int th, .long high, .long lo, .long le]))] H := hP
    have hD : va_D A [(h0, .inr (1, [.int th, .long high, .long lo, .long le]))] := hD
    refine lv_aload_n hx hb d_M_divide_126 rfl (lv_at hl 4 rfl) ?_
    refine lv_lload hx hb d_M_divide_127 (lv_at hl 2 rfl) ?_
    refine va_put (D := (dC, dI)) (ci := 1) (v := .long low) (ty := .long) (C := R_M) (T := F_M) (N := 4) hx hb hts (fun w h => List.mem_cons_of_mem _ (i_M w h)) t_M t_M_ok n_M hown hK hP hD hS 0 rfl rfl 2 (by decide) (hts (.fieldLink R_M 20 R_M "lower" "J") (List.mem_cons_of_mem _ (tm (by decide +kernel) rfl))) (fun _ h9 => h9) rfl (by decide +kernel) rfl rfl (Nat.le_of_ble_eq_true rfl) d_M_divide_129 (fun H locs hP hD hS => ?_)
    have hP : va_P (dC, dI) classes [(h0, .inr (1, [.int th, .long high, .long low, .long le]))] H := hP
    have hD : va_D A [(h0, .inr (1, [.int th, .long high, .long low, .long le]))] := hD
    refine lv_aload_n hx hb d_M_divide_132 rfl (lv_at hl 4 rfl) ?_
    refine lv_lload hx hb d_M_divide_133 (lv_at hl 1 rfl) ?_
    refine va_put (D := (dC, dI)) (ci := 1) (v := .long rest) (ty := .long) (C := R_M) (T := F_M) (N := 4) hx hb hts (fun w h => List.mem_cons_of_mem _ (i_M w h)) t_M t_M_ok n_M hown hK hP hD hS 0 rfl rfl 3 (by decide) (hts (.fieldLink R_M 27 R_M "left" "J") (List.mem_cons_of_mem _ (tm (by decide +kernel) rfl))) (fun _ h9 => h9) rfl (by decide +kernel) rfl rfl (Nat.le_of_ble_eq_true rfl) d_M_divide_135 (fun H locs hP hD hS => ?_)
    have hP : va_P (dC, dI) classes [(h0, .inr (1, [.int th, .long high, .long low, .long rest]))] H := hP
    have hD : va_D A [(h0, .inr (1, [.int th, .long high, .long low, .long rest]))] := hD
    exact W.vret hx hb hr (fun t ht hW => ⟨⟨(th, high, low, rest), rfl, ⟨rfl, by rw [← hNe, ← hCe]; exact hend.1, by rw [← hNe, ← hCe]; exact hend.2⟩, by rw [ht]; exact hP, va_K.moved hW.alike hK, hD⟩, hS.F ht⟩) hS.2.2 d_M_divide_138
  · skip
    obtain ⟨j, rfl, hkj⟩ := dn_nn (by omega) hk c14
    refine lv_iload hx hb d_M_divide_17 (lv_at hl 0 rfl) ?_
    refine lv_bipush (v := 63) hx hb d_M_divide_19 (by decide) ?_
    refine jn_l (J := 48) (rest := []) (fun v => uN v = N / 2 ^ j % 2) (fun v48 e48 => ?_) (fun K48 => ?_)
    · skip
      refine lv_lstore (lv' := [(10, .long v48), (9, .int k), (7, .long rest), (5, .long low), (3, .long high), (0, .ref h0), (1, .long x)]) hx hb d_M_divide_48 hl (by decide) rfl (fun ls hl => ?_)
      refine lv_lload hx hb d_M_divide_50 (lv_at hl 2 rfl) ?_
      refine lv_lconst (v := 0) hx hb d_M_divide_52 (by decide) ?_
      refine W.lcmp hx hb d_M_divide_53 ?_
      refine lv_if_ge (tgt := 61) hx hb d_M_divide_54 (by decide) (fun c54 => ?_) (fun c54 => absurd ((lg_cmp_ge _ _).mpr hr0) c54)
      refine lv_iconst (v := 0) hx hb d_M_divide_61 (by decide) ?_
      refine lv_istore (lv' := [(12, .int 0), (10, .long v48), (9, .int k), (7, .long rest), (5, .long low), (3, .long high), (0, .ref h0), (1, .long x)]) hx hb d_M_divide_62 hl (by decide) rfl (fun ls hl => ?_)
      refine lv_lload hx hb d_M_divide_64 (lv_at hl 3 rfl) ?_
      refine lv_iconst (v := 1) hx hb d_M_divide_66 (by decide) ?_
      refine lv_lshl hx hb d_M_divide_67 rfl ?_
      refine lv_topl (fun v67 e67 => ?_)
      refine lv_lload hx hb d_M_divide_68 (lv_at hl 1 rfl) ?_
      refine lv_lor hx hb d_M_divide_70 ?_
      refine lv_topl (fun v70 e70 => ?_)
      have f70 := md_rest hR hC1 e48 (Nat.mod_lt _ (by decide)) e67 e70
      refine lv_lstore (lv' := [(7, .long v70), (12, .int 0), (10, .long v48), (9, .int k), (5, .long low), (3, .long high), (0, .ref h0), (1, .long x)]) hx hb d_M_divide_71 hl (by decide) rfl (fun ls hl => ?_)
      refine lv_lload_n hx hb d_M_divide_73 rfl (lv_at hl 5 rfl) ?_
      refine lv_iconst (v := 1) hx hb d_M_divide_74 (by decide) ?_
      refine lv_lshl hx hb d_M_divide_75 rfl ?_
      refine lv_topl (fun v75 e75 => ?_)
      refine lv_lload hx hb d_M_divide_76 (lv_at hl 4 rfl) ?_
      refine lv_bipush (v := 63) hx hb d_M_divide_78 (by decide) ?_
      refine lv_lushr hx hb d_M_divide_80 rfl ?_
      refine lv_topl (fun v80 e80 => ?_)
      refine lv_lor hx hb d_M_divide_81 ?_
      refine lv_topl (fun v81 e81 => ?_)
      refine lv_lstore_n (lv' := [(3, .long v81), (7, .long v70), (12, .int 0), (10, .long v48), (9, .int k), (5, .long low), (0, .ref h0), (1, .long x)]) hx hb d_M_divide_82 rfl hl (by decide) rfl (fun ls hl => ?_)
      refine lv_lload hx hb d_M_divide_83 (lv_at hl 5 rfl) ?_
      refine lv_iconst (v := 1) hx hb d_M_divide_85 (by decide) ?_
      refine lv_lshl hx hb d_M_divide_86 rfl ?_
      refine lv_topl (fun v86 e86 => ?_)
      have hs := mm_sh (up := high) (by have := md_top hNb hC0 hE; have := uN_lt low; omega) e75 e80 e81 e86
      refine lv_lstore (lv' := [(5, .long v86), (3, .long v81), (7, .long v70), (12, .int 0), (10, .long v48), (9, .int k), (0, .ref h0), (1, .long x)]) hx hb d_M_divide_87 hl (by decide) rfl (fun ls hl => ?_)
      refine lv_iload hx hb d_M_divide_89 (lv_at hl 3 rfl) ?_
      refine lv_if_ne (tgt := 103) hx hb d_M_divide_91 (by decide) (fun q => absurd (by decide) q) (fun _ => ?_)
      refine lv_lload hx hb d_M_divide_94 (lv_at hl 2 rfl) ?_
      refine lv_lload_n hx hb d_M_divide_96 rfl (lv_at hl 7 rfl) ?_
      refine vp_callSi (W.runS (As := [.long v70, .long x]) (rest := []) ⟨hx, hb, hml, hown, hts⟩ (c_M_below l v70 x ) (cwS 2 hts g_M_23 rfl rfl rfl (by decide +kernel) ⟨Nat.le_of_ble_eq_true rfl, Nat.le_of_ble_eq_true rfl⟩) preEq rfl rfl hl.1 rfl (lv_room (Nat.le_of_ble_eq_true rfl)) d_M_divide_97 ⟨Nat.zero_le _, Nat.zero_le _⟩) (fun v97 e97 => ?_)
      try dsimp only at e97
      refine lv_if_ne (tgt := 115) hx hb d_M_divide_100 (by decide) (fun c100 => ?_) (fun c100 => ?_)
      · skip
        have cx : uN v70 < C := Classical.byContradiction (fun q => by rw [hCe] at q; rw [if_neg q] at e97; exact c100 e97)
        obtain ⟨v115, e115⟩ : ∃ y : Int32, y = k + Int32.ofInt (-1) := ⟨_, rfl⟩
        refine lv_iinc (v := v115) (lv' := [(9, .int v115), (5, .long v86), (3, .long v81), (7, .long v70), (12, .int 0), (10, .long v48), (0, .ref h0), (1, .long x)]) hx hb d_M_divide_115 hl (k := 5) rfl (by rw [e115]) (by decide) rfl (fun ls hl => ?_)
        refine lv_goto (tgt := 12) hx hb d_M_divide_118 (by decide) ?_
        exact ih _ (v81, v86, v70, v115) (Nat.lt_succ_self _) (md_a hkj hn hE hs.1 f70 cx e115) _ (lv_sub hl [0, 3, 1, 2, 6, 7] rfl)
      · skip
        have cx : ¬ uN v70 < C := fun q => by rw [hCe] at q; rw [if_pos q] at e97; rw [e97] at c100; exact absurd c100 (by decide)
        refine lv_lload hx hb d_M_divide_103 (lv_at hl 2 rfl) ?_
        refine lv_lload_n hx hb d_M_divide_105 rfl (lv_at hl 7 rfl) ?_
        refine lv_lsub hx hb d_M_divide_106 ?_
        refine lv_topl (fun v106 e106 => ?_)
        refine lv_lstore (lv' := [(7, .long v106), (5, .long v86), (3, .long v81), (12, .int 0), (10, .long v48), (9, .int k), (0, .ref h0), (1, .long x)]) hx hb d_M_divide_107 hl (by decide) rfl (fun ls hl => ?_)
        refine lv_lload hx hb d_M_divide_109 (lv_at hl 1 rfl) ?_
        refine lv_lconst (v := 1) hx hb d_M_divide_111 (by decide) ?_
        refine lv_lor hx hb d_M_divide_112 ?_
        refine lv_topl (fun v112 e112 => ?_)
        refine lv_lstore (lv' := [(5, .long v112), (7, .long v106), (3, .long v81), (12, .int 0), (10, .long v48), (9, .int k), (0, .ref h0), (1, .long x)]) hx hb d_M_divide_113 hl (by decide) rfl (fun ls hl => ?_)
        obtain ⟨v115, e115⟩ : ∃ y : Int32, y = k + Int32.ofInt (-1) := ⟨_, rfl⟩
        refine lv_iinc (v := v115) (lv' := [(9, .int v115), (5, .long v112), (7, .long v106), (3, .long v81), (12, .int 0), (10, .long v48), (0, .ref h0), (1, .long x)]) hx hb d_M_divide_115 hl (k := 5) rfl (by rw [e115]) (by decide) rfl (fun ls hl => ?_)
        refine lv_goto (tgt := 12) hx hb d_M_divide_118 (by decide) ?_
        exact ih _ (v81, v112, v106, v115) (Nat.lt_succ_self _) (md_b hkj hn hCe.symm hR hE hs.1 f70 cx e106 (by rw [e112]; exact hs.2) e115) _ (lv_sub hl [0, 2, 1, 3, 6, 7] rfl)
    · skip
      refine lv_icmp_le (tgt := 39) hx hb d_M_divide_21 (by decide) (fun c21 => ?_) (fun c21 => ?_)
      · skip
        refine lv_aload_n hx hb d_M_divide_39 rfl (lv_at hl 4 rfl) ?_
        refine va_get (D := (dC, dI)) (ci := 1) (v := .long lo) (C := R_M) (T := F_M) (N := 4) hx hb hts (fun w h => List.mem_cons_of_mem _ (i_M w h)) hown hK hP 0 rfl rfl 2 (by decide) (hts (.fieldLink R_M 20 R_M "lower" "J") (List.mem_cons_of_mem _ (tm (by decide +kernel) rfl))) (fun _ h9 => h9) rfl d_M_divide_40 ?_
        refine lv_iload hx hb d_M_divide_43 (lv_at hl 0 rfl) ?_
        refine lv_lushr hx hb d_M_divide_45 rfl ?_
        refine lv_topl (fun v45 e45 => ?_)
        refine lv_lconst (v := 1) hx hb d_M_divide_46 (by decide) ?_
        refine lv_land hx hb d_M_divide_47 ?_
        refine lv_topl (fun v47 e47 => ?_)
        exact K48 _ (by rw [hNe]; first | exact md_hi hkj (by omega) c21 e32 e33 e35 | exact md_lo hkj (by omega) c21 e45 e47)
      · skip
        refine lv_aload_n hx hb d_M_divide_24 rfl (lv_at hl 4 rfl) ?_
        refine va_get (D := (dC, dI)) (ci := 1) (v := .long up) (C := R_M) (T := F_M) (N := 4) hx hb hts (fun w h => List.mem_cons_of_mem _ (i_M w h)) hown hK hP 0 rfl rfl 1 (by decide) (hts (.fieldLink R_M 16 R_M "upper" "J") (List.mem_cons_of_mem _ (tm (by decide +kernel) rfl))) (fun _ h9 => h9) rfl d_M_divide_25 ?_
        refine lv_iload hx hb d_M_divide_28 (lv_at hl 0 rfl) ?_
        refine lv_bipush (v := 64) hx hb d_M_divide_30 (by decide) ?_
        refine lv_isub hx hb d_M_divide_32 ?_
        refine lv_topi (fun v32 e32 => ?_)
        refine lv_lushr hx hb d_M_divide_33 rfl ?_
        refine lv_topl (fun v33 e33 => ?_)
        refine lv_lconst (v := 1) hx hb d_M_divide_34 (by decide) ?_
        refine lv_land hx hb d_M_divide_35 ?_
        refine lv_topl (fun v35 e35 => ?_)
        refine lv_goto (tgt := 48) hx hb d_M_divide_36 (by decide) ?_
        exact K48 _ (by rw [hNe]; first | exact md_hi hkj (by omega) c21 e32 e33 e35 | exact md_lo hkj (by omega) c21 e45 e47)
set_option maxHeartbeats 4000000 in
set_option maxRecDepth 100000 in
theorem c_M_exact (l : Launch) (dC : Nat → ClassId) (dI : Nat → Nat → Nat) (h0 sz : Nat) (th : Int32) (up lo le : Int64) (a b d : Int64) (hd0 : d.toInt ≠ 0) : Met l y_M_exact w_M_exact ({ frames := 2, cells := 0, slots := 0, locals := 80 }) (va_Pc [.ref h0, .long a, .long b, .long d] (fun U => U.heap.size = sz ∧ va_P (dC, dI) classes [(h0, .inr (1, [.int th, .long up, .long lo, .long le]))] U.heap ∧ va_K (dC, dI) classes [] U ∧ va_D (fun _ => True) [(h0, .inr (1, [.int th, .long up, .long lo, .long le]))])) (va_Ql (fun (r : Int64) (u : MS) => u.1 = th ∧ ((u.2.2.2 = 0 ∧ sp_rok a.toInt b.toInt d.toInt r.toInt) ∨ (¬ u.2.2.2 = 0 ∧ sp_rno a.toInt b.toInt d.toInt))) (at_M dC dI (va_A [(h0, .inr (1, [.int th, .long up, .long lo, .long le]))] sz) h0) (va_A [(h0, .inr (1, [.int th, .long up, .long lo, .long le]))] sz)) 0 0 (va_A [(h0, .inr (1, [.int th, .long up, .long lo, .long le]))] sz) := by
  refine Met.ofW (cc := b_M_exact) (maxL := 9) (ret := some .long) (by decide) rfl ?_
  intro p e s m args below meth c s₁ B hml hv
  obtain ⟨rfl, hsz, hP, hK, hD0⟩ := hv
  have hx := B.exec
  have hb := B.bytes
  have hr := B.returns
  have hts := atoms_spec (ws := w_M_exact) B.pre
  have hown : s.vm.findClass R_M = some m.cls := findClass_of_methodNamed B.named
  have hlocks := B.notSynchronized
  subst hsz
  have hD := hD0.self (sz := s.heap.size)
  generalize hAe : va_A [(h0, .inr (1, [.int th, .long up, .long lo, .long le]))] s.heap.size = A at hD ⊢
  have hA : ∀ q : Nat, s.heap.size ≤ q → A q := fun q h => by rw [← hAe]; exact Or.inr h
  have hS : va_S A s.heap s.heap [] := va_S.rf
  have hP : va_P (dC, dI) classes [(h0, .inr (1, [.int th, .long up, .long lo, .long le]))] s.heap := hP
  have hl := lv_entry ([.ref h0, .long a, .long b, .long d]) (n := 9) (Nat.le_of_ble_eq_true rfl)
  rw [lg_entry_eq]
  generalize (lg_sl ([.ref h0, .long a, .long b, .long d]) ++ List.replicate (9 - (lg_sl ([.ref h0, .long a, .long b, .long d])).length) Slot.unset).toArray = ls at hl ⊢
  have hl : lv_has ls 9 [(0, .ref h0), (1, .long a), (3, .long b), (5, .long d)] := hl
  refine lv_aload_n hx hb d_M_exact_0 rfl (lv_at hl 0 rfl) ?_
  refine lv_lload_n hx hb d_M_exact_1 rfl (lv_at hl 1 rfl) ?_
  refine vp_callSl (W.runS (As := [.long a]) (rest := [.ref h0]) ⟨hx, hb, hml, hown, hts⟩ (c_M_size l a ) (cwS 1 hts g_M_30 rfl rfl rfl (by decide +kernel) ⟨Nat.le_of_ble_eq_true rfl, Nat.le_of_ble_eq_true rfl⟩) preEq rfl rfl hl.1 rfl (lv_room (Nat.le_of_ble_eq_true rfl)) d_M_exact_2 ⟨Nat.zero_le _, Nat.zero_le _⟩) (fun v2 e2 => ?_)
  try dsimp only at e2
  refine lv_lload_n hx hb d_M_exact_5 rfl (lv_at hl 2 rfl) ?_
  refine vp_callSl (W.runS (As := [.long b]) (rest := [.long v2, .ref h0]) ⟨hx, hb, hml, hown, hts⟩ (c_M_size l b ) (cwS 1 hts g_M_30 rfl rfl rfl (by decide +kernel) ⟨Nat.le_of_ble_eq_true rfl, Nat.le_of_ble_eq_true rfl⟩) preEq rfl rfl hl.1 rfl (lv_room (Nat.le_of_ble_eq_true rfl)) d_M_exact_6 ⟨Nat.zero_le _, Nat.zero_le _⟩) (fun v6 e6 => ?_)
  try dsimp only at e6
  have hPc := hP.sub (ws' := [(h0, .inr (1, [.int th, .long up, .long lo, .long le]))]) [0] rfl
  have hDc := hD.sub (ws' := [(h0, .inr (1, [.int th, .long up, .long lo, .long le]))]) [0] (by decide) rfl
  have hKc := hK.sub (tys' := []) [] rfl
  have hFc := va_free (wc := [(h0, .inr (1, [.int th, .long up, .long lo, .long le]))]) hD hS hA [0] rfl
  refine va_callv (va_runV (As := [.long v2, .long v6]) (rest := []) ⟨hx, hb, hml, hown, hts⟩ (c_M_multiply l dC dI h0 s.heap.size th up lo le v2 v6 ) (cwV 2 hts g_M_34 rfl rfl rfl (by decide +kernel) ⟨Nat.le_of_ble_eq_true rfl, Nat.le_of_ble_eq_true rfl⟩) ⟨fun a U g mk q => by obtain ⟨q0, q1, qP, qK, qD⟩ := q; exact ⟨q0, q1, qP, va_K.moved (u := U) (U := U.calling g mk a) (Vm.Alike.refl U.vm) qK, qD⟩, va_recv hKc hPc (ci := 1) (q0 := 0) rfl rfl, fun U hU hW => ⟨rfl, by rw [hU], by rw [hU]; exact hPc, va_K.moved hW.alike hKc, hDc.weaken (fun _ _ _ _ => trivial)⟩⟩ rfl rfl hl.1 rfl (lv_room (Nat.le_of_ble_eq_true rfl)) d_M_exact_9 ⟨Nat.le_of_ble_eq_true rfl, Nat.le_of_ble_eq_true rfl⟩) hS (fun q _ h => hFc q h) hFc (fun u t H1 locs ht hvm hw hB hz1 hk1 hS => ?_)
  obtain ⟨th9, up9, lo9, le9⟩ := u
  obtain ⟨hP1, hK1, hD1⟩ := hB
  rw [ht] at hP1
  have hK1 := va_K.moved hvm.symm hK1
  have e9 := hw
  dsimp only at e9
  obtain ⟨hP, hD⟩ := va_join (wr := []) (w1 := [(h0, .inr (1, [.int th9, .long up9, .long lo9, .long le9]))]) hP hD [0] [] rfl rfl (by decide) (by decide) hk1 hFc hP1 hD1
  have hK := (hK.sub (tys' := []) [] rfl).app hK1
  generalize H1 = H at hP hS ⊢
  have hP : va_P (dC, dI) classes [(h0, .inr (1, [.int th9, .long up9, .long lo9, .long le9]))] H := hP
  have hD : va_D A [(h0, .inr (1, [.int th9, .long up9, .long lo9, .long le9]))] := hD
  have hK : va_K (dC, dI) classes [] s := hK
  refine lv_aload_n hx hb d_M_exact_12 rfl (lv_at hl 0 rfl) ?_
  refine lv_lload hx hb d_M_exact_13 (lv_at hl 3 rfl) ?_
  refine vp_callSl (W.runS (As := [.long d]) (rest := [.ref h0]) ⟨hx, hb, hml, hown, hts⟩ (c_M_size l d ) (cwS 1 hts g_M_30 rfl rfl rfl (by decide +kernel) ⟨Nat.le_of_ble_eq_true rfl, Nat.le_of_ble_eq_true rfl⟩) preEq rfl rfl hl.1 rfl (lv_room (Nat.le_of_ble_eq_true rfl)) d_M_exact_15 ⟨Nat.zero_le _, Nat.zero_le _⟩) (fun v15 e15 => ?_)
  try dsimp only at e15
  have hPc := hP.sub (ws' := [(h0, .inr (1, [.int th9, .long up9, .long lo9, .long le9]))]) [0] rfl
  have hDc := hD.sub (ws' := [(h0, .inr (1, [.int th9, .long up9, .long lo9, .long le9]))]) [0] (by decide) rfl
  have hKc := hK.sub (tys' := []) [] rfl
  have hFc := va_free (wc := [(h0, .inr (1, [.int th9, .long up9, .long lo9, .long le9]))]) hD hS hA [0] rfl
  refine va_callv (va_runV (As := [.long v15]) (rest := []) ⟨hx, hb, hml, hown, hts⟩ (c_M_divide l dC dI h0 H.size th9 up9 lo9 le9 v15 (by rw [e15]; exact Int.natAbs_pos.mpr hd0) (by rw [e15]; have := fx_i64 d; omega)) (cwV 1 hts g_M_38 rfl rfl rfl (by decide +kernel) ⟨Nat.le_of_ble_eq_true rfl, Nat.le_of_ble_eq_true rfl⟩) ⟨fun a U g mk q => by obtain ⟨q0, q1, qP, qK, qD⟩ := q; exact ⟨q0, q1, qP, va_K.moved (u := U) (U := U.calling g mk a) (Vm.Alike.refl U.vm) qK, qD⟩, va_recv hKc hPc (ci := 1) (q0 := 0) rfl rfl, fun U hU hW => ⟨rfl, by rw [hU], by rw [hU]; exact hPc, va_K.moved hW.alike hKc, hDc.weaken (fun _ _ _ _ => trivial)⟩⟩ rfl rfl hl.1 rfl (lv_room (Nat.le_of_ble_eq_true rfl)) d_M_exact_18 ⟨Nat.le_of_ble_eq_true rfl, Nat.le_of_ble_eq_true rfl⟩) hS (fun q _ h => hFc q h) hFc (fun u t H1 locs ht hvm hw hB hz1 hk1 hS => ?_)
  obtain ⟨th18, up18, lo18, le18⟩ := u
  obtain ⟨hP1, hK1, hD1⟩ := hB
  rw [ht] at hP1
  have hK1 := va_K.moved hvm.symm hK1
  have e18 := hw
  dsimp only at e18
  obtain ⟨hP, hD⟩ := va_join (wr := []) (w1 := [(h0, .inr (1, [.int th18, .long up18, .long lo18, .long le18]))]) hP hD [0] [] rfl rfl (by decide) (by decide) hk1 hFc hP1 hD1
  have hK := (hK.sub (tys' := []) [] rfl).app hK1
  generalize H1 = H at hP hS ⊢
  have hP : va_P (dC, dI) classes [(h0, .inr (1, [.int th18, .long up18, .long lo18, .long le18]))] H := hP
  have hD : va_D A [(h0, .inr (1, [.int th18, .long up18, .long lo18, .long le18]))] := hD
  have hK : va_K (dC, dI) classes [] s := hK
  obtain ⟨hQ0, hR00⟩ := ex_QR e2 e6 e15 e9.2.2 e18.2.1 e18.2.2
  obtain ⟨Q, hQx⟩ : ∃ n, n = a.toInt.natAbs * b.toInt.natAbs / d.toInt.natAbs := ⟨_, rfl⟩
  obtain ⟨R, hRx⟩ : ∃ n, n = a.toInt.natAbs * b.toInt.natAbs % d.toInt.natAbs := ⟨_, rfl⟩
  have hQ : Q = uN up18 * 18446744073709551616 + uN lo18 := by rw [hQx, hQ0]
  have hRe : uN le18 = R := by rw [hRx, hR00]
  have hR0 : le18 = 0 ↔ R = 0 := by rw [ex_0, hRe]
  refine lv_lload_n hx hb d_M_exact_21 rfl (lv_at hl 1 rfl) ?_
  refine lv_lconst (v := 0) hx hb d_M_exact_22 (by decide) ?_
  refine W.lcmp hx hb d_M_exact_23 ?_
  refine jn_i (J := 32) (rest := []) (fun v => v = if a.toInt < 0 then 1 else 0) (fun v32 e32 => ?_) (fun K32 => ?_)
  · skip
    refine lv_lload_n hx hb d_M_exact_32 rfl (lv_at hl 2 rfl) ?_
    refine lv_lconst (v := 0) hx hb d_M_exact_33 (by decide) ?_
    refine W.lcmp hx hb d_M_exact_34 ?_
    refine jn_i (J := 43) (rest := [.int v32]) (fun v => v = if b.toInt < 0 then 1 else 0) (fun v43 e43 => ?_) (fun K43 => ?_)
    · skip
      refine jn_i (J := 51) (rest := []) (fun v => v = if v32 = v43 then 0 else 1) (fun v51 e51 => ?_) (fun K51 => ?_)
      · skip
        have f51 := ex_51 (a := 0) (b := 0) e32 e43 e51
        refine lv_lload hx hb d_M_exact_51 (lv_at hl 3 rfl) ?_
        refine lv_lconst (v := 0) hx hb d_M_exact_53 (by decide) ?_
        refine W.lcmp hx hb d_M_exact_54 ?_
        refine jn_i (J := 63) (rest := [.int v51]) (fun v => v = if d.toInt < 0 then 1 else 0) (fun v63 e63 => ?_) (fun K63 => ?_)
        · skip
          have hng := ex_63 f51 e63
          refine jn_i (J := 98) (rest := []) (fun v => v = if sp_neg a.toInt b.toInt d.toInt ∧ (¬ up18 = 0 ∨ ¬ lo18 = 0 ∨ ¬ le18 = 0) then 1 else 0) (fun v98 e98 => ?_) (fun K98 => ?_)
          · skip
            have hN9 : (sp_neg a.toInt b.toInt d.toInt ∧ (¬ up18 = 0 ∨ ¬ lo18 = 0 ∨ ¬ le18 = 0)) ↔ sp_neg a.toInt b.toInt d.toInt ∧ ¬ (Q = 0 ∧ R = 0) := by rw [ex_zero hQ.symm hRe]
            refine lv_istore (lv' := [(7, .int v98), (0, .ref h0), (1, .long a), (3, .long b), (5, .long d)]) hx hb d_M_exact_98 hl (by decide) rfl (fun ls hl => ?_)
            refine lv_iload hx hb d_M_exact_100 (lv_at hl 0 rfl) ?_
            refine lv_if_eq (tgt := 150) hx hb d_M_exact_102 (by decide) (fun c102 => ?_) (fun c102 => ?_)
            · skip
              have hM : uN up18 * 18446744073709551616 + uN lo18 = Q + (if v98 = 0 then 0 else if R = 0 then 0 else 1) := by first | (rw [if_pos c102, Nat.add_zero]; exact hQ.symm) | (rw [if_neg c102, if_pos ((hR0).mp c111), Nat.add_zero]; exact hQ.symm)
              have hMv := ex_Mv e98 hM
              refine lv_aload_n hx hb d_M_exact_150 rfl (lv_at hl 1 rfl) ?_
              refine va_get (D := (dC, dI)) (ci := 1) (v := .long up18) (C := R_M) (T := F_M) (N := 4) hx hb hts (fun w h => List.mem_cons_of_mem _ (i_M w h)) hown hK hP 0 rfl rfl 1 (by decide) (hts (.fieldLink R_M 16 R_M "upper" "J") (List.mem_cons_of_mem _ (tm (by decide +kernel) rfl))) (fun _ h9 => h9) rfl d_M_exact_151 ?_
              refine lv_lconst (v := 0) hx hb d_M_exact_154 (by decide) ?_
              refine W.lcmp hx hb d_M_exact_155 ?_
              refine jn_i (J := 189) (rest := []) (fun v => v = if up18 = 0 ∧ (0 ≤ lo18 ∨ (¬ v98 = 0 ∧ lo18 = -9223372036854775808)) then 1 else 0) (fun v189 e189 => ?_) (fun K189 => ?_)
              · skip
                refine lv_istore (lv' := [(8, .int v189), (7, .int v98), (0, .ref h0), (1, .long a), (3, .long b), (5, .long d)]) hx hb d_M_exact_189 hl (by decide) rfl (fun ls hl => ?_)
                refine lv_aload_n hx hb d_M_exact_191 rfl (lv_at hl 2 rfl) ?_
                refine lv_iload hx hb d_M_exact_192 (lv_at hl 0 rfl) ?_
                refine lv_if_eq (tgt := 201) hx hb d_M_exact_194 (by decide) (fun c194 => ?_) (fun c194 => ?_)
                · skip
                  refine lv_lconst (v := 1) hx hb d_M_exact_201 (by decide) ?_
                  refine va_put (D := (dC, dI)) (ci := 1) (v := .long 1) (ty := .long) (C := R_M) (T := F_M) (N := 4) hx hb hts (fun w h => List.mem_cons_of_mem _ (i_M w h)) t_M t_M_ok n_M hown hK hP hD hS 0 rfl rfl 3 (by decide) (hts (.fieldLink R_M 27 R_M "left" "J") (List.mem_cons_of_mem _ (tm (by decide +kernel) rfl))) (fun _ h9 => h9) rfl (by decide +kernel) rfl rfl (Nat.le_of_ble_eq_true rfl) d_M_exact_202 (fun H locs hP hD hS => ?_)
                  have hP : va_P (dC, dI) classes [(h0, .inr (1, [.int th18, .long up18, .long lo18, .long 1]))] H := hP
                  have hD : va_D A [(h0, .inr (1, [.int th18, .long up18, .long lo18, .long 1]))] := hD
                  refine lv_iload hx hb d_M_exact_205 (lv_at hl 1 rfl) ?_
                  refine lv_if_eq (tgt := 218) hx hb d_M_exact_207 (by decide) (fun c207 => ?_) (fun c207 => ?_)
                  · skip
                    refine lv_aload_n hx hb d_M_exact_218 rfl (lv_at hl 2 rfl) ?_
                    refine va_get (D := (dC, dI)) (ci := 1) (v := .long lo18) (C := R_M) (T := F_M) (N := 4) hx hb hts (fun w h => List.mem_cons_of_mem _ (i_M w h)) hown hK hP 0 rfl rfl 2 (by decide) (hts (.fieldLink R_M 20 R_M "lower" "J") (List.mem_cons_of_mem _ (tm (by decide +kernel) rfl))) (fun _ h9 => h9) rfl d_M_exact_219 ?_
                    refine W.lret (v := lo18) hx hb hr (fun t ht hW => ⟨⟨_, (th18, up18, lo18, 1), rfl, ?_, by rw [ht]; exact hP, va_K.moved hW.alike hK, hD⟩, hS.F ht⟩) hS.2.2 d_M_exact_222
                    show th18 = th ∧ (((1 : Int64) = 0 ∧ sp_rok a.toInt b.toInt d.toInt lo18.toInt) ∨ (¬ (1 : Int64) = 0 ∧ sp_rno a.toInt b.toInt d.toInt))
                    exact ⟨e18.1.trans e9.1, ex_fin hd0 hQx hRx hN9 e98 rfl hMv e189 (by first | exact Or.inl ⟨c194, rfl⟩ | exact Or.inr ⟨c194, by decide⟩) (by first | exact Or.inl ⟨c207, rfl⟩ | exact Or.inr ⟨c207, e214⟩)⟩
                  · skip
                    refine lv_aload_n hx hb d_M_exact_210 rfl (lv_at hl 2 rfl) ?_
                    refine va_get (D := (dC, dI)) (ci := 1) (v := .long lo18) (C := R_M) (T := F_M) (N := 4) hx hb hts (fun w h => List.mem_cons_of_mem _ (i_M w h)) hown hK hP 0 rfl rfl 2 (by decide) (hts (.fieldLink R_M 20 R_M "lower" "J") (List.mem_cons_of_mem _ (tm (by decide +kernel) rfl))) (fun _ h9 => h9) rfl d_M_exact_211 ?_
                    refine lv_lneg hx hb d_M_exact_214 ?_
                    refine lv_topl (fun v214 e214 => ?_)
                    refine lv_goto (tgt := 222) hx hb d_M_exact_215 (by decide) ?_
                    refine W.lret (v := v214) hx hb hr (fun t ht hW => ⟨⟨_, (th18, up18, lo18, 1), rfl, ?_, by rw [ht]; exact hP, va_K.moved hW.alike hK, hD⟩, hS.F ht⟩) hS.2.2 d_M_exact_222
                    show th18 = th ∧ (((1 : Int64) = 0 ∧ sp_rok a.toInt b.toInt d.toInt v214.toInt) ∨ (¬ (1 : Int64) = 0 ∧ sp_rno a.toInt b.toInt d.toInt))
                    exact ⟨e18.1.trans e9.1, ex_fin hd0 hQx hRx hN9 e98 rfl hMv e189 (by first | exact Or.inl ⟨c194, rfl⟩ | exact Or.inr ⟨c194, by decide⟩) (by first | exact Or.inl ⟨c207, rfl⟩ | exact Or.inr ⟨c207, e214⟩)⟩
                · skip
                  refine lv_lconst (v := 0) hx hb d_M_exact_197 (by decide) ?_
                  refine lv_goto (tgt := 202) hx hb d_M_exact_198 (by decide) ?_
                  refine va_put (D := (dC, dI)) (ci := 1) (v := .long 0) (ty := .long) (C := R_M) (T := F_M) (N := 4) hx hb hts (fun w h => List.mem_cons_of_mem _ (i_M w h)) t_M t_M_ok n_M hown hK hP hD hS 0 rfl rfl 3 (by decide) (hts (.fieldLink R_M 27 R_M "left" "J") (List.mem_cons_of_mem _ (tm (by decide +kernel) rfl))) (fun _ h9 => h9) rfl (by decide +kernel) rfl rfl (Nat.le_of_ble_eq_true rfl) d_M_exact_202 (fun H locs hP hD hS => ?_)
                  have hP : va_P (dC, dI) classes [(h0, .inr (1, [.int th18, .long up18, .long lo18, .long 0]))] H := hP
                  have hD : va_D A [(h0, .inr (1, [.int th18, .long up18, .long lo18, .long 0]))] := hD
                  refine lv_iload hx hb d_M_exact_205 (lv_at hl 1 rfl) ?_
                  refine lv_if_eq (tgt := 218) hx hb d_M_exact_207 (by decide) (fun c207 => ?_) (fun c207 => ?_)
                  · skip
                    refine lv_aload_n hx hb d_M_exact_218 rfl (lv_at hl 2 rfl) ?_
                    refine va_get (D := (dC, dI)) (ci := 1) (v := .long lo18) (C := R_M) (T := F_M) (N := 4) hx hb hts (fun w h => List.mem_cons_of_mem _ (i_M w h)) hown hK hP 0 rfl rfl 2 (by decide) (hts (.fieldLink R_M 20 R_M "lower" "J") (List.mem_cons_of_mem _ (tm (by decide +kernel) rfl))) (fun _ h9 => h9) rfl d_M_exact_219 ?_
                    refine W.lret (v := lo18) hx hb hr (fun t ht hW => ⟨⟨_, (th18, up18, lo18, 0), rfl, ?_, by rw [ht]; exact hP, va_K.moved hW.alike hK, hD⟩, hS.F ht⟩) hS.2.2 d_M_exact_222
                    show th18 = th ∧ (((0 : Int64) = 0 ∧ sp_rok a.toInt b.toInt d.toInt lo18.toInt) ∨ (¬ (0 : Int64) = 0 ∧ sp_rno a.toInt b.toInt d.toInt))
                    exact ⟨e18.1.trans e9.1, ex_fin hd0 hQx hRx hN9 e98 rfl hMv e189 (by first | exact Or.inl ⟨c194, rfl⟩ | exact Or.inr ⟨c194, by decide⟩) (by first | exact Or.inl ⟨c207, rfl⟩ | exact Or.inr ⟨c207, e214⟩)⟩
                  · skip
                    refine lv_aload_n hx hb d_M_exact_210 rfl (lv_at hl 2 rfl) ?_
                    refine va_get (D := (dC, dI)) (ci := 1) (v := .long lo18) (C := R_M) (T := F_M) (N := 4) hx hb hts (fun w h => List.mem_cons_of_mem _ (i_M w h)) hown hK hP 0 rfl rfl 2 (by decide) (hts (.fieldLink R_M 20 R_M "lower" "J") (List.mem_cons_of_mem _ (tm (by decide +kernel) rfl))) (fun _ h9 => h9) rfl d_M_exact_211 ?_
                    refine lv_lneg hx hb d_M_exact_214 ?_
                    refine lv_topl (fun v214 e214 => ?_)
                    refine lv_goto (tgt := 222) hx hb d_M_exact_215 (by decide) ?_
                    refine W.lret (v := v214) hx hb hr (fun t ht hW => ⟨⟨_, (th18, up18, lo18, 0), rfl, ?_, by rw [ht]; exact hP, va_K.moved hW.alike hK, hD⟩, hS.F ht⟩) hS.2.2 d_M_exact_222
                    show th18 = th ∧ (((0 : Int64) = 0 ∧ sp_rok a.toInt b.toInt d.toInt v214.toInt) ∨ (¬ (0 : Int64) = 0 ∧ sp_rno a.toInt b.toInt d.toInt))
                    exact ⟨e18.1.trans e9.1, ex_fin hd0 hQx hRx hN9 e98 rfl hMv e189 (by first | exact Or.inl ⟨c194, rfl⟩ | exact Or.inr ⟨c194, by decide⟩) (by first | exact Or.inl ⟨c207, rfl⟩ | exact Or.inr ⟨c207, e214⟩)⟩
              · skip
                refine lv_if_ne (tgt := 188) hx hb d_M_exact_156 (by decide) (fun c156 => ?_) (fun c156 => ?_)
                · skip
                  have c156 := (not_congr (lg_cmp_eq _ _)).mp c156
                  refine lv_iconst (v := 0) hx hb d_M_exact_188 (by decide) ?_
                  exact K189 _ (by first | exact ex_hit ⟨c156, Or.inl c165⟩ | exact ex_hit ⟨c156, Or.inr ⟨c170, c181⟩⟩ | exact ex_miss (fun z => c156 z.1) | exact ex_miss (fun z => z.2.elim (fun y => c165 y) (fun y => y.1 c170)) | exact ex_miss (fun z => z.2.elim (fun y => c165 y) (fun y => c181 y.2)))
                · skip
                  have c156 := (lg_cmp_eq _ _).mp c156
                  refine lv_aload_n hx hb d_M_exact_159 rfl (lv_at hl 1 rfl) ?_
                  refine va_get (D := (dC, dI)) (ci := 1) (v := .long lo18) (C := R_M) (T := F_M) (N := 4) hx hb hts (fun w h => List.mem_cons_of_mem _ (i_M w h)) hown hK hP 0 rfl rfl 2 (by decide) (hts (.fieldLink R_M 20 R_M "lower" "J") (List.mem_cons_of_mem _ (tm (by decide +kernel) rfl))) (fun _ h9 => h9) rfl d_M_exact_160 ?_
                  refine lv_lconst (v := 0) hx hb d_M_exact_163 (by decide) ?_
                  refine W.lcmp hx hb d_M_exact_164 ?_
                  refine lv_if_ge (tgt := 184) hx hb d_M_exact_165 (by decide) (fun c165 => ?_) (fun c165 => ?_)
                  · skip
                    have c165 := (lg_cmp_ge _ _).mp c165
                    refine lv_iconst (v := 1) hx hb d_M_exact_184 (by decide) ?_
                    refine lv_goto (tgt := 189) hx hb d_M_exact_185 (by decide) ?_
                    exact K189 _ (by first | exact ex_hit ⟨c156, Or.inl c165⟩ | exact ex_hit ⟨c156, Or.inr ⟨c170, c181⟩⟩ | exact ex_miss (fun z => c156 z.1) | exact ex_miss (fun z => z.2.elim (fun y => c165 y) (fun y => y.1 c170)) | exact ex_miss (fun z => z.2.elim (fun y => c165 y) (fun y => c181 y.2)))
                  · skip
                    have c165 := (not_congr (lg_cmp_ge _ _)).mp c165
                    refine lv_iload hx hb d_M_exact_168 (lv_at hl 0 rfl) ?_
                    refine lv_if_eq (tgt := 188) hx hb d_M_exact_170 (by decide) (fun c170 => ?_) (fun c170 => ?_)
                    · skip
                      refine lv_iconst (v := 0) hx hb d_M_exact_188 (by decide) ?_
                      exact K189 _ (by first | exact ex_hit ⟨c156, Or.inl c165⟩ | exact ex_hit ⟨c156, Or.inr ⟨c170, c181⟩⟩ | exact ex_miss (fun z => c156 z.1) | exact ex_miss (fun z => z.2.elim (fun y => c165 y) (fun y => y.1 c170)) | exact ex_miss (fun z => z.2.elim (fun y => c165 y) (fun y => c181 y.2)))
                    · skip
                      refine lv_aload_n hx hb d_M_exact_173 rfl (lv_at hl 1 rfl) ?_
                      refine va_get (D := (dC, dI)) (ci := 1) (v := .long lo18) (C := R_M) (T := F_M) (N := 4) hx hb hts (fun w h => List.mem_cons_of_mem _ (i_M w h)) hown hK hP 0 rfl rfl 2 (by decide) (hts (.fieldLink R_M 20 R_M "lower" "J") (List.mem_cons_of_mem _ (tm (by decide +kernel) rfl))) (fun _ h9 => h9) rfl d_M_exact_174 ?_
                      refine lv_ldc2 (v := (-9223372036854775808)) hx hb hown (hts (.constantLong R_M 14 (-9223372036854775808)) (List.mem_cons_of_mem _ (tm (by decide +kernel) rfl))) d_M_exact_177 ?_
                      refine W.lcmp hx hb d_M_exact_180 ?_
                      refine lv_if_ne (tgt := 188) hx hb d_M_exact_181 (by decide) (fun c181 => ?_) (fun c181 => ?_)
                      · skip
                        have c181 := (not_congr (lg_cmp_eq _ _)).mp c181
                        refine lv_iconst (v := 0) hx hb d_M_exact_188 (by decide) ?_
                        exact K189 _ (by first | exact ex_hit ⟨c156, Or.inl c165⟩ | exact ex_hit ⟨c156, Or.inr ⟨c170, c181⟩⟩ | exact ex_miss (fun z => c156 z.1) | exact ex_miss (fun z => z.2.elim (fun y => c165 y) (fun y => y.1 c170)) | exact ex_miss (fun z => z.2.elim (fun y => c165 y) (fun y => c181 y.2)))
                      · skip
                        have c181 := (lg_cmp_eq _ _).mp c181
                        refine lv_iconst (v := 1) hx hb d_M_exact_184 (by decide) ?_
                        refine lv_goto (tgt := 189) hx hb d_M_exact_185 (by decide) ?_
                        exact K189 _ (by first | exact ex_hit ⟨c156, Or.inl c165⟩ | exact ex_hit ⟨c156, Or.inr ⟨c170, c181⟩⟩ | exact ex_miss (fun z => c156 z.1) | exact ex_miss (fun z => z.2.elim (fun y => c165 y) (fun y => y.1 c170)) | exact ex_miss (fun z => z.2.elim (fun y => c165 y) (fun y => c181 y.2)))
            · skip
              refine lv_aload_n hx hb d_M_exact_105 rfl (lv_at hl 1 rfl) ?_
              refine va_get (D := (dC, dI)) (ci := 1) (v := .long le18) (C := R_M) (T := F_M) (N := 4) hx hb hts (fun w h => List.mem_cons_of_mem _ (i_M w h)) hown hK hP 0 rfl rfl 3 (by decide) (hts (.fieldLink R_M 27 R_M "left" "J") (List.mem_cons_of_mem _ (tm (by decide +kernel) rfl))) (fun _ h9 => h9) rfl d_M_exact_106 ?_
              refine lv_lconst (v := 0) hx hb d_M_exact_109 (by decide) ?_
              refine W.lcmp hx hb d_M_exact_110 ?_
              refine lv_if_eq (tgt := 150) hx hb d_M_exact_111 (by decide) (fun c111 => ?_) (fun c111 => ?_)
              · skip
                have c111 := (lg_cmp_eq _ _).mp c111
                have hM : uN up18 * 18446744073709551616 + uN lo18 = Q + (if v98 = 0 then 0 else if R = 0 then 0 else 1) := by first | (rw [if_pos c102, Nat.add_zero]; exact hQ.symm) | (rw [if_neg c102, if_pos ((hR0).mp c111), Nat.add_zero]; exact hQ.symm)
                have hMv := ex_Mv e98 hM
                refine lv_aload_n hx hb d_M_exact_150 rfl (lv_at hl 1 rfl) ?_
                refine va_get (D := (dC, dI)) (ci := 1) (v := .long up18) (C := R_M) (T := F_M) (N := 4) hx hb hts (fun w h => List.mem_cons_of_mem _ (i_M w h)) hown hK hP 0 rfl rfl 1 (by decide) (hts (.fieldLink R_M 16 R_M "upper" "J") (List.mem_cons_of_mem _ (tm (by decide +kernel) rfl))) (fun _ h9 => h9) rfl d_M_exact_151 ?_
                refine lv_lconst (v := 0) hx hb d_M_exact_154 (by decide) ?_
                refine W.lcmp hx hb d_M_exact_155 ?_
                refine jn_i (J := 189) (rest := []) (fun v => v = if up18 = 0 ∧ (0 ≤ lo18 ∨ (¬ v98 = 0 ∧ lo18 = -9223372036854775808)) then 1 else 0) (fun v189 e189 => ?_) (fun K189 => ?_)
                · skip
                  refine lv_istore (lv' := [(8, .int v189), (7, .int v98), (0, .ref h0), (1, .long a), (3, .long b), (5, .long d)]) hx hb d_M_exact_189 hl (by decide) rfl (fun ls hl => ?_)
                  refine lv_aload_n hx hb d_M_exact_191 rfl (lv_at hl 2 rfl) ?_
                  refine lv_iload hx hb d_M_exact_192 (lv_at hl 0 rfl) ?_
                  refine lv_if_eq (tgt := 201) hx hb d_M_exact_194 (by decide) (fun c194 => ?_) (fun c194 => ?_)
                  · skip
                    refine lv_lconst (v := 1) hx hb d_M_exact_201 (by decide) ?_
                    refine va_put (D := (dC, dI)) (ci := 1) (v := .long 1) (ty := .long) (C := R_M) (T := F_M) (N := 4) hx hb hts (fun w h => List.mem_cons_of_mem _ (i_M w h)) t_M t_M_ok n_M hown hK hP hD hS 0 rfl rfl 3 (by decide) (hts (.fieldLink R_M 27 R_M "left" "J") (List.mem_cons_of_mem _ (tm (by decide +kernel) rfl))) (fun _ h9 => h9) rfl (by decide +kernel) rfl rfl (Nat.le_of_ble_eq_true rfl) d_M_exact_202 (fun H locs hP hD hS => ?_)
                    have hP : va_P (dC, dI) classes [(h0, .inr (1, [.int th18, .long up18, .long lo18, .long 1]))] H := hP
                    have hD : va_D A [(h0, .inr (1, [.int th18, .long up18, .long lo18, .long 1]))] := hD
                    refine lv_iload hx hb d_M_exact_205 (lv_at hl 1 rfl) ?_
                    refine lv_if_eq (tgt := 218) hx hb d_M_exact_207 (by decide) (fun c207 => ?_) (fun c207 => ?_)
                    · skip
                      refine lv_aload_n hx hb d_M_exact_218 rfl (lv_at hl 2 rfl) ?_
                      refine va_get (D := (dC, dI)) (ci := 1) (v := .long lo18) (C := R_M) (T := F_M) (N := 4) hx hb hts (fun w h => List.mem_cons_of_mem _ (i_M w h)) hown hK hP 0 rfl rfl 2 (by decide) (hts (.fieldLink R_M 20 R_M "lower" "J") (List.mem_cons_of_mem _ (tm (by decide +kernel) rfl))) (fun _ h9 => h9) rfl d_M_exact_219 ?_
                      refine W.lret (v := lo18) hx hb hr (fun t ht hW => ⟨⟨_, (th18, up18, lo18, 1), rfl, ?_, by rw [ht]; exact hP, va_K.moved hW.alike hK, hD⟩, hS.F ht⟩) hS.2.2 d_M_exact_222
                      show th18 = th ∧ (((1 : Int64) = 0 ∧ sp_rok a.toInt b.toInt d.toInt lo18.toInt) ∨ (¬ (1 : Int64) = 0 ∧ sp_rno a.toInt b.toInt d.toInt))
                      exact ⟨e18.1.trans e9.1, ex_fin hd0 hQx hRx hN9 e98 rfl hMv e189 (by first | exact Or.inl ⟨c194, rfl⟩ | exact Or.inr ⟨c194, by decide⟩) (by first | exact Or.inl ⟨c207, rfl⟩ | exact Or.inr ⟨c207, e214⟩)⟩
                    · skip
                      refine lv_aload_n hx hb d_M_exact_210 rfl (lv_at hl 2 rfl) ?_
                      refine va_get (D := (dC, dI)) (ci := 1) (v := .long lo18) (C := R_M) (T := F_M) (N := 4) hx hb hts (fun w h => List.mem_cons_of_mem _ (i_M w h)) hown hK hP 0 rfl rfl 2 (by decide) (hts (.fieldLink R_M 20 R_M "lower" "J") (List.mem_cons_of_mem _ (tm (by decide +kernel) rfl))) (fun _ h9 => h9) rfl d_M_exact_211 ?_
                      refine lv_lneg hx hb d_M_exact_214 ?_
                      refine lv_topl (fun v214 e214 => ?_)
                      refine lv_goto (tgt := 222) hx hb d_M_exact_215 (by decide) ?_
                      refine W.lret (v := v214) hx hb hr (fun t ht hW => ⟨⟨_, (th18, up18, lo18, 1), rfl, ?_, by rw [ht]; exact hP, va_K.moved hW.alike hK, hD⟩, hS.F ht⟩) hS.2.2 d_M_exact_222
                      show th18 = th ∧ (((1 : Int64) = 0 ∧ sp_rok a.toInt b.toInt d.toInt v214.toInt) ∨ (¬ (1 : Int64) = 0 ∧ sp_rno a.toInt b.toInt d.toInt))
                      exact ⟨e18.1.trans e9.1, ex_fin hd0 hQx hRx hN9 e98 rfl hMv e189 (by first | exact Or.inl ⟨c194, rfl⟩ | exact Or.inr ⟨c194, by decide⟩) (by first | exact Or.inl ⟨c207, rfl⟩ | exact Or.inr ⟨c207, e214⟩)⟩
                  · skip
                    refine lv_lconst (v := 0) hx hb d_M_exact_197 (by decide) ?_
                    refine lv_goto (tgt := 202) hx hb d_M_exact_198 (by decide) ?_
                    refine va_put (D := (dC, dI)) (ci := 1) (v := .long 0) (ty := .long) (C := R_M) (T := F_M) (N := 4) hx hb hts (fun w h => List.mem_cons_of_mem _ (i_M w h)) t_M t_M_ok n_M hown hK hP hD hS 0 rfl rfl 3 (by decide) (hts (.fieldLink R_M 27 R_M "left" "J") (List.mem_cons_of_mem _ (tm (by decide +kernel) rfl))) (fun _ h9 => h9) rfl (by decide +kernel) rfl rfl (Nat.le_of_ble_eq_true rfl) d_M_exact_202 (fun H locs hP hD hS => ?_)
                    have hP : va_P (dC, dI) classes [(h0, .inr (1, [.int th18, .long up18, .long lo18, .long 0]))] H := hP
                    have hD : va_D A [(h0, .inr (1, [.int th18, .long up18, .long lo18, .long 0]))] := hD
                    refine lv_iload hx hb d_M_exact_205 (lv_at hl 1 rfl) ?_
                    refine lv_if_eq (tgt := 218) hx hb d_M_exact_207 (by decide) (fun c207 => ?_) (fun c207 => ?_)
                    · skip
                      refine lv_aload_n hx hb d_M_exact_218 rfl (lv_at hl 2 rfl) ?_
                      refine va_get (D := (dC, dI)) (ci := 1) (v := .long lo18) (C := R_M) (T := F_M) (N := 4) hx hb hts (fun w h => List.mem_cons_of_mem _ (i_M w h)) hown hK hP 0 rfl rfl 2 (by decide) (hts (.fieldLink R_M 20 R_M "lower" "J") (List.mem_cons_of_mem _ (tm (by decide +kernel) rfl))) (fun _ h9 => h9) rfl d_M_exact_219 ?_
                      refine W.lret (v := lo18) hx hb hr (fun t ht hW => ⟨⟨_, (th18, up18, lo18, 0), rfl, ?_, by rw [ht]; exact hP, va_K.moved hW.alike hK, hD⟩, hS.F ht⟩) hS.2.2 d_M_exact_222
                      show th18 = th ∧ (((0 : Int64) = 0 ∧ sp_rok a.toInt b.toInt d.toInt lo18.toInt) ∨ (¬ (0 : Int64) = 0 ∧ sp_rno a.toInt b.toInt d.toInt))
                      exact ⟨e18.1.trans e9.1, ex_fin hd0 hQx hRx hN9 e98 rfl hMv e189 (by first | exact Or.inl ⟨c194, rfl⟩ | exact Or.inr ⟨c194, by decide⟩) (by first | exact Or.inl ⟨c207, rfl⟩ | exact Or.inr ⟨c207, e214⟩)⟩
                    · skip
                      refine lv_aload_n hx hb d_M_exact_210 rfl (lv_at hl 2 rfl) ?_
                      refine va_get (D := (dC, dI)) (ci := 1) (v := .long lo18) (C := R_M) (T := F_M) (N := 4) hx hb hts (fun w h => List.mem_cons_of_mem _ (i_M w h)) hown hK hP 0 rfl rfl 2 (by decide) (hts (.fieldLink R_M 20 R_M "lower" "J") (List.mem_cons_of_mem _ (tm (by decide +kernel) rfl))) (fun _ h9 => h9) rfl d_M_exact_211 ?_
                      refine lv_lneg hx hb d_M_exact_214 ?_
                      refine lv_topl (fun v214 e214 => ?_)
                      refine lv_goto (tgt := 222) hx hb d_M_exact_215 (by decide) ?_
                      refine W.lret (v := v214) hx hb hr (fun t ht hW => ⟨⟨_, (th18, up18, lo18, 0), rfl, ?_, by rw [ht]; exact hP, va_K.moved hW.alike hK, hD⟩, hS.F ht⟩) hS.2.2 d_M_exact_222
                      show th18 = th ∧ (((0 : Int64) = 0 ∧ sp_rok a.toInt b.toInt d.toInt v214.toInt) ∨ (¬ (0 : Int64) = 0 ∧ sp_rno a.toInt b.toInt d.toInt))
                      exact ⟨e18.1.trans e9.1, ex_fin hd0 hQx hRx hN9 e98 rfl hMv e189 (by first | exact Or.inl ⟨c194, rfl⟩ | exact Or.inr ⟨c194, by decide⟩) (by first | exact Or.inl ⟨c207, rfl⟩ | exact Or.inr ⟨c207, e214⟩)⟩
                · skip
                  refine lv_if_ne (tgt := 188) hx hb d_M_exact_156 (by decide) (fun c156 => ?_) (fun c156 => ?_)
                  · skip
                    have c156 := (not_congr (lg_cmp_eq _ _)).mp c156
                    refine lv_iconst (v := 0) hx hb d_M_exact_188 (by decide) ?_
                    exact K189 _ (by first | exact ex_hit ⟨c156, Or.inl c165⟩ | exact ex_hit ⟨c156, Or.inr ⟨c170, c181⟩⟩ | exact ex_miss (fun z => c156 z.1) | exact ex_miss (fun z => z.2.elim (fun y => c165 y) (fun y => y.1 c170)) | exact ex_miss (fun z => z.2.elim (fun y => c165 y) (fun y => c181 y.2)))
                  · skip
                    have c156 := (lg_cmp_eq _ _).mp c156
                    refine lv_aload_n hx hb d_M_exact_159 rfl (lv_at hl 1 rfl) ?_
                    refine va_get (D := (dC, dI)) (ci := 1) (v := .long lo18) (C := R_M) (T := F_M) (N := 4) hx hb hts (fun w h => List.mem_cons_of_mem _ (i_M w h)) hown hK hP 0 rfl rfl 2 (by decide) (hts (.fieldLink R_M 20 R_M "lower" "J") (List.mem_cons_of_mem _ (tm (by decide +kernel) rfl))) (fun _ h9 => h9) rfl d_M_exact_160 ?_
                    refine lv_lconst (v := 0) hx hb d_M_exact_163 (by decide) ?_
                    refine W.lcmp hx hb d_M_exact_164 ?_
                    refine lv_if_ge (tgt := 184) hx hb d_M_exact_165 (by decide) (fun c165 => ?_) (fun c165 => ?_)
                    · skip
                      have c165 := (lg_cmp_ge _ _).mp c165
                      refine lv_iconst (v := 1) hx hb d_M_exact_184 (by decide) ?_
                      refine lv_goto (tgt := 189) hx hb d_M_exact_185 (by decide) ?_
                      exact K189 _ (by first | exact ex_hit ⟨c156, Or.inl c165⟩ | exact ex_hit ⟨c156, Or.inr ⟨c170, c181⟩⟩ | exact ex_miss (fun z => c156 z.1) | exact ex_miss (fun z => z.2.elim (fun y => c165 y) (fun y => y.1 c170)) | exact ex_miss (fun z => z.2.elim (fun y => c165 y) (fun y => c181 y.2)))
                    · skip
                      have c165 := (not_congr (lg_cmp_ge _ _)).mp c165
                      refine lv_iload hx hb d_M_exact_168 (lv_at hl 0 rfl) ?_
                      refine lv_if_eq (tgt := 188) hx hb d_M_exact_170 (by decide) (fun c170 => ?_) (fun c170 => ?_)
                      · skip
                        refine lv_iconst (v := 0) hx hb d_M_exact_188 (by decide) ?_
                        exact K189 _ (by first | exact ex_hit ⟨c156, Or.inl c165⟩ | exact ex_hit ⟨c156, Or.inr ⟨c170, c181⟩⟩ | exact ex_miss (fun z => c156 z.1) | exact ex_miss (fun z => z.2.elim (fun y => c165 y) (fun y => y.1 c170)) | exact ex_miss (fun z => z.2.elim (fun y => c165 y) (fun y => c181 y.2)))
                      · skip
                        refine lv_aload_n hx hb d_M_exact_173 rfl (lv_at hl 1 rfl) ?_
                        refine va_get (D := (dC, dI)) (ci := 1) (v := .long lo18) (C := R_M) (T := F_M) (N := 4) hx hb hts (fun w h => List.mem_cons_of_mem _ (i_M w h)) hown hK hP 0 rfl rfl 2 (by decide) (hts (.fieldLink R_M 20 R_M "lower" "J") (List.mem_cons_of_mem _ (tm (by decide +kernel) rfl))) (fun _ h9 => h9) rfl d_M_exact_174 ?_
                        refine lv_ldc2 (v := (-9223372036854775808)) hx hb hown (hts (.constantLong R_M 14 (-9223372036854775808)) (List.mem_cons_of_mem _ (tm (by decide +kernel) rfl))) d_M_exact_177 ?_
                        refine W.lcmp hx hb d_M_exact_180 ?_
                        refine lv_if_ne (tgt := 188) hx hb d_M_exact_181 (by decide) (fun c181 => ?_) (fun c181 => ?_)
                        · skip
                          have c181 := (not_congr (lg_cmp_eq _ _)).mp c181
                          refine lv_iconst (v := 0) hx hb d_M_exact_188 (by decide) ?_
                          exact K189 _ (by first | exact ex_hit ⟨c156, Or.inl c165⟩ | exact ex_hit ⟨c156, Or.inr ⟨c170, c181⟩⟩ | exact ex_miss (fun z => c156 z.1) | exact ex_miss (fun z => z.2.elim (fun y => c165 y) (fun y => y.1 c170)) | exact ex_miss (fun z => z.2.elim (fun y => c165 y) (fun y => c181 y.2)))
                        · skip
                          have c181 := (lg_cmp_eq _ _).mp c181
                          refine lv_iconst (v := 1) hx hb d_M_exact_184 (by decide) ?_
                          refine lv_goto (tgt := 189) hx hb d_M_exact_185 (by decide) ?_
                          exact K189 _ (by first | exact ex_hit ⟨c156, Or.inl c165⟩ | exact ex_hit ⟨c156, Or.inr ⟨c170, c181⟩⟩ | exact ex_miss (fun z => c156 z.1) | exact ex_miss (fun z => z.2.elim (fun y => c165 y) (fun y => y.1 c170)) | exact ex_miss (fun z => z.2.elim (fun y => c165 y) (fun y => c181 y.2)))
              · skip
                have c111 := (not_congr (lg_cmp_eq _ _)).mp c111
                refine lv_aload_n hx hb d_M_exact_114 rfl (lv_at hl 1 rfl) ?_
                refine lv_aload_n hx hb d_M_exact_115 rfl (lv_at hl 1 rfl) ?_
                refine va_get (D := (dC, dI)) (ci := 1) (v := .long lo18) (C := R_M) (T := F_M) (N := 4) hx hb hts (fun w h => List.mem_cons_of_mem _ (i_M w h)) hown hK hP 0 rfl rfl 2 (by decide) (hts (.fieldLink R_M 20 R_M "lower" "J") (List.mem_cons_of_mem _ (tm (by decide +kernel) rfl))) (fun _ h9 => h9) rfl d_M_exact_116 ?_
                refine lv_lconst (v := 1) hx hb d_M_exact_119 (by decide) ?_
                refine lv_ladd hx hb d_M_exact_120 ?_
                refine lv_topl (fun v120 e120 => ?_)
                refine va_put (D := (dC, dI)) (ci := 1) (v := .long v120) (ty := .long) (C := R_M) (T := F_M) (N := 4) hx hb hts (fun w h => List.mem_cons_of_mem _ (i_M w h)) t_M t_M_ok n_M hown hK hP hD hS 0 rfl rfl 2 (by decide) (hts (.fieldLink R_M 20 R_M "lower" "J") (List.mem_cons_of_mem _ (tm (by decide +kernel) rfl))) (fun _ h9 => h9) rfl (by decide +kernel) rfl rfl (Nat.le_of_ble_eq_true rfl) d_M_exact_121 (fun H locs hP hD hS => ?_)
                have hP : va_P (dC, dI) classes [(h0, .inr (1, [.int th18, .long up18, .long v120, .long le18]))] H := hP
                have hD : va_D A [(h0, .inr (1, [.int th18, .long up18, .long v120, .long le18]))] := hD
                refine lv_aload_n hx hb d_M_exact_124 rfl (lv_at hl 1 rfl) ?_
                refine lv_aload_n hx hb d_M_exact_125 rfl (lv_at hl 1 rfl) ?_
                refine va_get (D := (dC, dI)) (ci := 1) (v := .long v120) (C := R_M) (T := F_M) (N := 4) hx hb hts (fun w h => List.mem_cons_of_mem _ (i_M w h)) hown hK hP 0 rfl rfl 2 (by decide) (hts (.fieldLink R_M 20 R_M "lower" "J") (List.mem_cons_of_mem _ (tm (by decide +kernel) rfl))) (fun _ h9 => h9) rfl d_M_exact_126 ?_
                refine lv_lconst (v := 0) hx hb d_M_exact_129 (by decide) ?_
                refine W.lcmp hx hb d_M_exact_130 ?_
                refine lv_if_ne (tgt := 143) hx hb d_M_exact_131 (by decide) (fun c131 => ?_) (fun c131 => ?_)
                · skip
                  have c131 := (not_congr (lg_cmp_eq _ _)).mp c131
                  refine lv_aload_n hx hb d_M_exact_143 rfl (lv_at hl 1 rfl) ?_
                  refine va_get (D := (dC, dI)) (ci := 1) (v := .long up18) (C := R_M) (T := F_M) (N := 4) hx hb hts (fun w h => List.mem_cons_of_mem _ (i_M w h)) hown hK hP 0 rfl rfl 1 (by decide) (hts (.fieldLink R_M 16 R_M "upper" "J") (List.mem_cons_of_mem _ (tm (by decide +kernel) rfl))) (fun _ h9 => h9) rfl d_M_exact_144 ?_
                  refine va_put (D := (dC, dI)) (ci := 1) (v := .long up18) (ty := .long) (C := R_M) (T := F_M) (N := 4) hx hb hts (fun w h => List.mem_cons_of_mem _ (i_M w h)) t_M t_M_ok n_M hown hK hP hD hS 0 rfl rfl 1 (by decide) (hts (.fieldLink R_M 16 R_M "upper" "J") (List.mem_cons_of_mem _ (tm (by decide +kernel) rfl))) (fun _ h9 => h9) rfl (by decide +kernel) rfl rfl (Nat.le_of_ble_eq_true rfl) d_M_exact_147 (fun H locs hP hD hS => ?_)
                  have hP : va_P (dC, dI) classes [(h0, .inr (1, [.int th18, .long up18, .long v120, .long le18]))] H := hP
                  have hD : va_D A [(h0, .inr (1, [.int th18, .long up18, .long v120, .long le18]))] := hD
                  have hM : uN up18 * 18446744073709551616 + uN v120 = Q + (if v98 = 0 then 0 else if R = 0 then 0 else 1) := by rw [if_neg c102, if_neg (fun z => c111 (hR0.mpr z))]; exact ex_inc0 hQ.symm e120 c131
                  have hMv := ex_Mv e98 hM
                  refine lv_aload_n hx hb d_M_exact_150 rfl (lv_at hl 1 rfl) ?_
                  refine va_get (D := (dC, dI)) (ci := 1) (v := .long up18) (C := R_M) (T := F_M) (N := 4) hx hb hts (fun w h => List.mem_cons_of_mem _ (i_M w h)) hown hK hP 0 rfl rfl 1 (by decide) (hts (.fieldLink R_M 16 R_M "upper" "J") (List.mem_cons_of_mem _ (tm (by decide +kernel) rfl))) (fun _ h9 => h9) rfl d_M_exact_151 ?_
                  refine lv_lconst (v := 0) hx hb d_M_exact_154 (by decide) ?_
                  refine W.lcmp hx hb d_M_exact_155 ?_
                  refine jn_i (J := 189) (rest := []) (fun v => v = if up18 = 0 ∧ (0 ≤ v120 ∨ (¬ v98 = 0 ∧ v120 = -9223372036854775808)) then 1 else 0) (fun v189 e189 => ?_) (fun K189 => ?_)
                  · skip
                    refine lv_istore (lv' := [(8, .int v189), (7, .int v98), (0, .ref h0), (1, .long a), (3, .long b), (5, .long d)]) hx hb d_M_exact_189 hl (by decide) rfl (fun ls hl => ?_)
                    refine lv_aload_n hx hb d_M_exact_191 rfl (lv_at hl 2 rfl) ?_
                    refine lv_iload hx hb d_M_exact_192 (lv_at hl 0 rfl) ?_
                    refine lv_if_eq (tgt := 201) hx hb d_M_exact_194 (by decide) (fun c194 => ?_) (fun c194 => ?_)
                    · skip
                      refine lv_lconst (v := 1) hx hb d_M_exact_201 (by decide) ?_
                      refine va_put (D := (dC, dI)) (ci := 1) (v := .long 1) (ty := .long) (C := R_M) (T := F_M) (N := 4) hx hb hts (fun w h => List.mem_cons_of_mem _ (i_M w h)) t_M t_M_ok n_M hown hK hP hD hS 0 rfl rfl 3 (by decide) (hts (.fieldLink R_M 27 R_M "left" "J") (List.mem_cons_of_mem _ (tm (by decide +kernel) rfl))) (fun _ h9 => h9) rfl (by decide +kernel) rfl rfl (Nat.le_of_ble_eq_true rfl) d_M_exact_202 (fun H locs hP hD hS => ?_)
                      have hP : va_P (dC, dI) classes [(h0, .inr (1, [.int th18, .long up18, .long v120, .long 1]))] H := hP
                      have hD : va_D A [(h0, .inr (1, [.int th18, .long up18, .long v120, .long 1]))] := hD
                      refine lv_iload hx hb d_M_exact_205 (lv_at hl 1 rfl) ?_
                      refine lv_if_eq (tgt := 218) hx hb d_M_exact_207 (by decide) (fun c207 => ?_) (fun c207 => ?_)
                      · skip
                        refine lv_aload_n hx hb d_M_exact_218 rfl (lv_at hl 2 rfl) ?_
                        refine va_get (D := (dC, dI)) (ci := 1) (v := .long v120) (C := R_M) (T := F_M) (N := 4) hx hb hts (fun w h => List.mem_cons_of_mem _ (i_M w h)) hown hK hP 0 rfl rfl 2 (by decide) (hts (.fieldLink R_M 20 R_M "lower" "J") (List.mem_cons_of_mem _ (tm (by decide +kernel) rfl))) (fun _ h9 => h9) rfl d_M_exact_219 ?_
                        refine W.lret (v := v120) hx hb hr (fun t ht hW => ⟨⟨_, (th18, up18, v120, 1), rfl, ?_, by rw [ht]; exact hP, va_K.moved hW.alike hK, hD⟩, hS.F ht⟩) hS.2.2 d_M_exact_222
                        show th18 = th ∧ (((1 : Int64) = 0 ∧ sp_rok a.toInt b.toInt d.toInt v120.toInt) ∨ (¬ (1 : Int64) = 0 ∧ sp_rno a.toInt b.toInt d.toInt))
                        exact ⟨e18.1.trans e9.1, ex_fin hd0 hQx hRx hN9 e98 rfl hMv e189 (by first | exact Or.inl ⟨c194, rfl⟩ | exact Or.inr ⟨c194, by decide⟩) (by first | exact Or.inl ⟨c207, rfl⟩ | exact Or.inr ⟨c207, e214⟩)⟩
                      · skip
                        refine lv_aload_n hx hb d_M_exact_210 rfl (lv_at hl 2 rfl) ?_
                        refine va_get (D := (dC, dI)) (ci := 1) (v := .long v120) (C := R_M) (T := F_M) (N := 4) hx hb hts (fun w h => List.mem_cons_of_mem _ (i_M w h)) hown hK hP 0 rfl rfl 2 (by decide) (hts (.fieldLink R_M 20 R_M "lower" "J") (List.mem_cons_of_mem _ (tm (by decide +kernel) rfl))) (fun _ h9 => h9) rfl d_M_exact_211 ?_
                        refine lv_lneg hx hb d_M_exact_214 ?_
                        refine lv_topl (fun v214 e214 => ?_)
                        refine lv_goto (tgt := 222) hx hb d_M_exact_215 (by decide) ?_
                        refine W.lret (v := v214) hx hb hr (fun t ht hW => ⟨⟨_, (th18, up18, v120, 1), rfl, ?_, by rw [ht]; exact hP, va_K.moved hW.alike hK, hD⟩, hS.F ht⟩) hS.2.2 d_M_exact_222
                        show th18 = th ∧ (((1 : Int64) = 0 ∧ sp_rok a.toInt b.toInt d.toInt v214.toInt) ∨ (¬ (1 : Int64) = 0 ∧ sp_rno a.toInt b.toInt d.toInt))
                        exact ⟨e18.1.trans e9.1, ex_fin hd0 hQx hRx hN9 e98 rfl hMv e189 (by first | exact Or.inl ⟨c194, rfl⟩ | exact Or.inr ⟨c194, by decide⟩) (by first | exact Or.inl ⟨c207, rfl⟩ | exact Or.inr ⟨c207, e214⟩)⟩
                    · skip
                      refine lv_lconst (v := 0) hx hb d_M_exact_197 (by decide) ?_
                      refine lv_goto (tgt := 202) hx hb d_M_exact_198 (by decide) ?_
                      refine va_put (D := (dC, dI)) (ci := 1) (v := .long 0) (ty := .long) (C := R_M) (T := F_M) (N := 4) hx hb hts (fun w h => List.mem_cons_of_mem _ (i_M w h)) t_M t_M_ok n_M hown hK hP hD hS 0 rfl rfl 3 (by decide) (hts (.fieldLink R_M 27 R_M "left" "J") (List.mem_cons_of_mem _ (tm (by decide +kernel) rfl))) (fun _ h9 => h9) rfl (by decide +kernel) rfl rfl (Nat.le_of_ble_eq_true rfl) d_M_exact_202 (fun H locs hP hD hS => ?_)
                      have hP : va_P (dC, dI) classes [(h0, .inr (1, [.int th18, .long up18, .long v120, .long 0]))] H := hP
                      have hD : va_D A [(h0, .inr (1, [.int th18, .long up18, .long v120, .long 0]))] := hD
                      refine lv_iload hx hb d_M_exact_205 (lv_at hl 1 rfl) ?_
                      refine lv_if_eq (tgt := 218) hx hb d_M_exact_207 (by decide) (fun c207 => ?_) (fun c207 => ?_)
                      · skip
                        refine lv_aload_n hx hb d_M_exact_218 rfl (lv_at hl 2 rfl) ?_
                        refine va_get (D := (dC, dI)) (ci := 1) (v := .long v120) (C := R_M) (T := F_M) (N := 4) hx hb hts (fun w h => List.mem_cons_of_mem _ (i_M w h)) hown hK hP 0 rfl rfl 2 (by decide) (hts (.fieldLink R_M 20 R_M "lower" "J") (List.mem_cons_of_mem _ (tm (by decide +kernel) rfl))) (fun _ h9 => h9) rfl d_M_exact_219 ?_
                        refine W.lret (v := v120) hx hb hr (fun t ht hW => ⟨⟨_, (th18, up18, v120, 0), rfl, ?_, by rw [ht]; exact hP, va_K.moved hW.alike hK, hD⟩, hS.F ht⟩) hS.2.2 d_M_exact_222
                        show th18 = th ∧ (((0 : Int64) = 0 ∧ sp_rok a.toInt b.toInt d.toInt v120.toInt) ∨ (¬ (0 : Int64) = 0 ∧ sp_rno a.toInt b.toInt d.toInt))
                        exact ⟨e18.1.trans e9.1, ex_fin hd0 hQx hRx hN9 e98 rfl hMv e189 (by first | exact Or.inl ⟨c194, rfl⟩ | exact Or.inr ⟨c194, by decide⟩) (by first | exact Or.inl ⟨c207, rfl⟩ | exact Or.inr ⟨c207, e214⟩)⟩
                      · skip
                        refine lv_aload_n hx hb d_M_exact_210 rfl (lv_at hl 2 rfl) ?_
                        refine va_get (D := (dC, dI)) (ci := 1) (v := .long v120) (C := R_M) (T := F_M) (N := 4) hx hb hts (fun w h => List.mem_cons_of_mem _ (i_M w h)) hown hK hP 0 rfl rfl 2 (by decide) (hts (.fieldLink R_M 20 R_M "lower" "J") (List.mem_cons_of_mem _ (tm (by decide +kernel) rfl))) (fun _ h9 => h9) rfl d_M_exact_211 ?_
                        refine lv_lneg hx hb d_M_exact_214 ?_
                        refine lv_topl (fun v214 e214 => ?_)
                        refine lv_goto (tgt := 222) hx hb d_M_exact_215 (by decide) ?_
                        refine W.lret (v := v214) hx hb hr (fun t ht hW => ⟨⟨_, (th18, up18, v120, 0), rfl, ?_, by rw [ht]; exact hP, va_K.moved hW.alike hK, hD⟩, hS.F ht⟩) hS.2.2 d_M_exact_222
                        show th18 = th ∧ (((0 : Int64) = 0 ∧ sp_rok a.toInt b.toInt d.toInt v214.toInt) ∨ (¬ (0 : Int64) = 0 ∧ sp_rno a.toInt b.toInt d.toInt))
                        exact ⟨e18.1.trans e9.1, ex_fin hd0 hQx hRx hN9 e98 rfl hMv e189 (by first | exact Or.inl ⟨c194, rfl⟩ | exact Or.inr ⟨c194, by decide⟩) (by first | exact Or.inl ⟨c207, rfl⟩ | exact Or.inr ⟨c207, e214⟩)⟩
                  · skip
                    refine lv_if_ne (tgt := 188) hx hb d_M_exact_156 (by decide) (fun c156 => ?_) (fun c156 => ?_)
                    · skip
                      have c156 := (not_congr (lg_cmp_eq _ _)).mp c156
                      refine lv_iconst (v := 0) hx hb d_M_exact_188 (by decide) ?_
                      exact K189 _ (by first | exact ex_hit ⟨c156, Or.inl c165⟩ | exact ex_hit ⟨c156, Or.inr ⟨c170, c181⟩⟩ | exact ex_miss (fun z => c156 z.1) | exact ex_miss (fun z => z.2.elim (fun y => c165 y) (fun y => y.1 c170)) | exact ex_miss (fun z => z.2.elim (fun y => c165 y) (fun y => c181 y.2)))
                    · skip
                      have c156 := (lg_cmp_eq _ _).mp c156
                      refine lv_aload_n hx hb d_M_exact_159 rfl (lv_at hl 1 rfl) ?_
                      refine va_get (D := (dC, dI)) (ci := 1) (v := .long v120) (C := R_M) (T := F_M) (N := 4) hx hb hts (fun w h => List.mem_cons_of_mem _ (i_M w h)) hown hK hP 0 rfl rfl 2 (by decide) (hts (.fieldLink R_M 20 R_M "lower" "J") (List.mem_cons_of_mem _ (tm (by decide +kernel) rfl))) (fun _ h9 => h9) rfl d_M_exact_160 ?_
                      refine lv_lconst (v := 0) hx hb d_M_exact_163 (by decide) ?_
                      refine W.lcmp hx hb d_M_exact_164 ?_
                      refine lv_if_ge (tgt := 184) hx hb d_M_exact_165 (by decide) (fun c165 => ?_) (fun c165 => ?_)
                      · skip
                        have c165 := (lg_cmp_ge _ _).mp c165
                        refine lv_iconst (v := 1) hx hb d_M_exact_184 (by decide) ?_
                        refine lv_goto (tgt := 189) hx hb d_M_exact_185 (by decide) ?_
                        exact K189 _ (by first | exact ex_hit ⟨c156, Or.inl c165⟩ | exact ex_hit ⟨c156, Or.inr ⟨c170, c181⟩⟩ | exact ex_miss (fun z => c156 z.1) | exact ex_miss (fun z => z.2.elim (fun y => c165 y) (fun y => y.1 c170)) | exact ex_miss (fun z => z.2.elim (fun y => c165 y) (fun y => c181 y.2)))
                      · skip
                        have c165 := (not_congr (lg_cmp_ge _ _)).mp c165
                        refine lv_iload hx hb d_M_exact_168 (lv_at hl 0 rfl) ?_
                        refine lv_if_eq (tgt := 188) hx hb d_M_exact_170 (by decide) (fun c170 => ?_) (fun c170 => ?_)
                        · skip
                          refine lv_iconst (v := 0) hx hb d_M_exact_188 (by decide) ?_
                          exact K189 _ (by first | exact ex_hit ⟨c156, Or.inl c165⟩ | exact ex_hit ⟨c156, Or.inr ⟨c170, c181⟩⟩ | exact ex_miss (fun z => c156 z.1) | exact ex_miss (fun z => z.2.elim (fun y => c165 y) (fun y => y.1 c170)) | exact ex_miss (fun z => z.2.elim (fun y => c165 y) (fun y => c181 y.2)))
                        · skip
                          refine lv_aload_n hx hb d_M_exact_173 rfl (lv_at hl 1 rfl) ?_
                          refine va_get (D := (dC, dI)) (ci := 1) (v := .long v120) (C := R_M) (T := F_M) (N := 4) hx hb hts (fun w h => List.mem_cons_of_mem _ (i_M w h)) hown hK hP 0 rfl rfl 2 (by decide) (hts (.fieldLink R_M 20 R_M "lower" "J") (List.mem_cons_of_mem _ (tm (by decide +kernel) rfl))) (fun _ h9 => h9) rfl d_M_exact_174 ?_
                          refine lv_ldc2 (v := (-9223372036854775808)) hx hb hown (hts (.constantLong R_M 14 (-9223372036854775808)) (List.mem_cons_of_mem _ (tm (by decide +kernel) rfl))) d_M_exact_177 ?_
                          refine W.lcmp hx hb d_M_exact_180 ?_
                          refine lv_if_ne (tgt := 188) hx hb d_M_exact_181 (by decide) (fun c181 => ?_) (fun c181 => ?_)
                          · skip
                            have c181 := (not_congr (lg_cmp_eq _ _)).mp c181
                            refine lv_iconst (v := 0) hx hb d_M_exact_188 (by decide) ?_
                            exact K189 _ (by first | exact ex_hit ⟨c156, Or.inl c165⟩ | exact ex_hit ⟨c156, Or.inr ⟨c170, c181⟩⟩ | exact ex_miss (fun z => c156 z.1) | exact ex_miss (fun z => z.2.elim (fun y => c165 y) (fun y => y.1 c170)) | exact ex_miss (fun z => z.2.elim (fun y => c165 y) (fun y => c181 y.2)))
                          · skip
                            have c181 := (lg_cmp_eq _ _).mp c181
                            refine lv_iconst (v := 1) hx hb d_M_exact_184 (by decide) ?_
                            refine lv_goto (tgt := 189) hx hb d_M_exact_185 (by decide) ?_
                            exact K189 _ (by first | exact ex_hit ⟨c156, Or.inl c165⟩ | exact ex_hit ⟨c156, Or.inr ⟨c170, c181⟩⟩ | exact ex_miss (fun z => c156 z.1) | exact ex_miss (fun z => z.2.elim (fun y => c165 y) (fun y => y.1 c170)) | exact ex_miss (fun z => z.2.elim (fun y => c165 y) (fun y => c181 y.2)))
                · skip
                  have c131 := (lg_cmp_eq _ _).mp c131
                  refine lv_aload_n hx hb d_M_exact_134 rfl (lv_at hl 1 rfl) ?_
                  refine va_get (D := (dC, dI)) (ci := 1) (v := .long up18) (C := R_M) (T := F_M) (N := 4) hx hb hts (fun w h => List.mem_cons_of_mem _ (i_M w h)) hown hK hP 0 rfl rfl 1 (by decide) (hts (.fieldLink R_M 16 R_M "upper" "J") (List.mem_cons_of_mem _ (tm (by decide +kernel) rfl))) (fun _ h9 => h9) rfl d_M_exact_135 ?_
                  refine lv_lconst (v := 1) hx hb d_M_exact_138 (by decide) ?_
                  refine lv_ladd hx hb d_M_exact_139 ?_
                  refine lv_topl (fun v139 e139 => ?_)
                  refine lv_goto (tgt := 147) hx hb d_M_exact_140 (by decide) ?_
                  refine va_put (D := (dC, dI)) (ci := 1) (v := .long v139) (ty := .long) (C := R_M) (T := F_M) (N := 4) hx hb hts (fun w h => List.mem_cons_of_mem _ (i_M w h)) t_M t_M_ok n_M hown hK hP hD hS 0 rfl rfl 1 (by decide) (hts (.fieldLink R_M 16 R_M "upper" "J") (List.mem_cons_of_mem _ (tm (by decide +kernel) rfl))) (fun _ h9 => h9) rfl (by decide +kernel) rfl rfl (Nat.le_of_ble_eq_true rfl) d_M_exact_147 (fun H locs hP hD hS => ?_)
                  have hP : va_P (dC, dI) classes [(h0, .inr (1, [.int th18, .long v139, .long v120, .long le18]))] H := hP
                  have hD : va_D A [(h0, .inr (1, [.int th18, .long v139, .long v120, .long le18]))] := hD
                  have hM : uN v139 * 18446744073709551616 + uN v120 = Q + (if v98 = 0 then 0 else if R = 0 then 0 else 1) := by rw [if_neg c102, if_neg (fun z => c111 (hR0.mpr z))]; exact ex_inc1 hQ.symm (by rw [hQx]; exact ex_Qb hd0) e120 c131 e139
                  have hMv := ex_Mv e98 hM
                  refine lv_aload_n hx hb d_M_exact_150 rfl (lv_at hl 1 rfl) ?_
                  refine va_get (D := (dC, dI)) (ci := 1) (v := .long v139) (C := R_M) (T := F_M) (N := 4) hx hb hts (fun w h => List.mem_cons_of_mem _ (i_M w h)) hown hK hP 0 rfl rfl 1 (by decide) (hts (.fieldLink R_M 16 R_M "upper" "J") (List.mem_cons_of_mem _ (tm (by decide +kernel) rfl))) (fun _ h9 => h9) rfl d_M_exact_151 ?_
                  refine lv_lconst (v := 0) hx hb d_M_exact_154 (by decide) ?_
                  refine W.lcmp hx hb d_M_exact_155 ?_
                  refine jn_i (J := 189) (rest := []) (fun v => v = if v139 = 0 ∧ (0 ≤ v120 ∨ (¬ v98 = 0 ∧ v120 = -9223372036854775808)) then 1 else 0) (fun v189 e189 => ?_) (fun K189 => ?_)
                  · skip
                    refine lv_istore (lv' := [(8, .int v189), (7, .int v98), (0, .ref h0), (1, .long a), (3, .long b), (5, .long d)]) hx hb d_M_exact_189 hl (by decide) rfl (fun ls hl => ?_)
                    refine lv_aload_n hx hb d_M_exact_191 rfl (lv_at hl 2 rfl) ?_
                    refine lv_iload hx hb d_M_exact_192 (lv_at hl 0 rfl) ?_
                    refine lv_if_eq (tgt := 201) hx hb d_M_exact_194 (by decide) (fun c194 => ?_) (fun c194 => ?_)
                    · skip
                      refine lv_lconst (v := 1) hx hb d_M_exact_201 (by decide) ?_
                      refine va_put (D := (dC, dI)) (ci := 1) (v := .long 1) (ty := .long) (C := R_M) (T := F_M) (N := 4) hx hb hts (fun w h => List.mem_cons_of_mem _ (i_M w h)) t_M t_M_ok n_M hown hK hP hD hS 0 rfl rfl 3 (by decide) (hts (.fieldLink R_M 27 R_M "left" "J") (List.mem_cons_of_mem _ (tm (by decide +kernel) rfl))) (fun _ h9 => h9) rfl (by decide +kernel) rfl rfl (Nat.le_of_ble_eq_true rfl) d_M_exact_202 (fun H locs hP hD hS => ?_)
                      have hP : va_P (dC, dI) classes [(h0, .inr (1, [.int th18, .long v139, .long v120, .long 1]))] H := hP
                      have hD : va_D A [(h0, .inr (1, [.int th18, .long v139, .long v120, .long 1]))] := hD
                      refine lv_iload hx hb d_M_exact_205 (lv_at hl 1 rfl) ?_
                      refine lv_if_eq (tgt := 218) hx hb d_M_exact_207 (by decide) (fun c207 => ?_) (fun c207 => ?_)
                      · skip
                        refine lv_aload_n hx hb d_M_exact_218 rfl (lv_at hl 2 rfl) ?_
                        refine va_get (D := (dC, dI)) (ci := 1) (v := .long v120) (C := R_M) (T := F_M) (N := 4) hx hb hts (fun w h => List.mem_cons_of_mem _ (i_M w h)) hown hK hP 0 rfl rfl 2 (by decide) (hts (.fieldLink R_M 20 R_M "lower" "J") (List.mem_cons_of_mem _ (tm (by decide +kernel) rfl))) (fun _ h9 => h9) rfl d_M_exact_219 ?_
                        refine W.lret (v := v120) hx hb hr (fun t ht hW => ⟨⟨_, (th18, v139, v120, 1), rfl, ?_, by rw [ht]; exact hP, va_K.moved hW.alike hK, hD⟩, hS.F ht⟩) hS.2.2 d_M_exact_222
                        show th18 = th ∧ (((1 : Int64) = 0 ∧ sp_rok a.toInt b.toInt d.toInt v120.toInt) ∨ (¬ (1 : Int64) = 0 ∧ sp_rno a.toInt b.toInt d.toInt))
                        exact ⟨e18.1.trans e9.1, ex_fin hd0 hQx hRx hN9 e98 rfl hMv e189 (by first | exact Or.inl ⟨c194, rfl⟩ | exact Or.inr ⟨c194, by decide⟩) (by first | exact Or.inl ⟨c207, rfl⟩ | exact Or.inr ⟨c207, e214⟩)⟩
                      · skip
                        refine lv_aload_n hx hb d_M_exact_210 rfl (lv_at hl 2 rfl) ?_
                        refine va_get (D := (dC, dI)) (ci := 1) (v := .long v120) (C := R_M) (T := F_M) (N := 4) hx hb hts (fun w h => List.mem_cons_of_mem _ (i_M w h)) hown hK hP 0 rfl rfl 2 (by decide) (hts (.fieldLink R_M 20 R_M "lower" "J") (List.mem_cons_of_mem _ (tm (by decide +kernel) rfl))) (fun _ h9 => h9) rfl d_M_exact_211 ?_
                        refine lv_lneg hx hb d_M_exact_214 ?_
                        refine lv_topl (fun v214 e214 => ?_)
                        refine lv_goto (tgt := 222) hx hb d_M_exact_215 (by decide) ?_
                        refine W.lret (v := v214) hx hb hr (fun t ht hW => ⟨⟨_, (th18, v139, v120, 1), rfl, ?_, by rw [ht]; exact hP, va_K.moved hW.alike hK, hD⟩, hS.F ht⟩) hS.2.2 d_M_exact_222
                        show th18 = th ∧ (((1 : Int64) = 0 ∧ sp_rok a.toInt b.toInt d.toInt v214.toInt) ∨ (¬ (1 : Int64) = 0 ∧ sp_rno a.toInt b.toInt d.toInt))
                        exact ⟨e18.1.trans e9.1, ex_fin hd0 hQx hRx hN9 e98 rfl hMv e189 (by first | exact Or.inl ⟨c194, rfl⟩ | exact Or.inr ⟨c194, by decide⟩) (by first | exact Or.inl ⟨c207, rfl⟩ | exact Or.inr ⟨c207, e214⟩)⟩
                    · skip
                      refine lv_lconst (v := 0) hx hb d_M_exact_197 (by decide) ?_
                      refine lv_goto (tgt := 202) hx hb d_M_exact_198 (by decide) ?_
                      refine va_put (D := (dC, dI)) (ci := 1) (v := .long 0) (ty := .long) (C := R_M) (T := F_M) (N := 4) hx hb hts (fun w h => List.mem_cons_of_mem _ (i_M w h)) t_M t_M_ok n_M hown hK hP hD hS 0 rfl rfl 3 (by decide) (hts (.fieldLink R_M 27 R_M "left" "J") (List.mem_cons_of_mem _ (tm (by decide +kernel) rfl))) (fun _ h9 => h9) rfl (by decide +kernel) rfl rfl (Nat.le_of_ble_eq_true rfl) d_M_exact_202 (fun H locs hP hD hS => ?_)
                      have hP : va_P (dC, dI) classes [(h0, .inr (1, [.int th18, .long v139, .long v120, .long 0]))] H := hP
                      have hD : va_D A [(h0, .inr (1, [.int th18, .long v139, .long v120, .long 0]))] := hD
                      refine lv_iload hx hb d_M_exact_205 (lv_at hl 1 rfl) ?_
                      refine lv_if_eq (tgt := 218) hx hb d_M_exact_207 (by decide) (fun c207 => ?_) (fun c207 => ?_)
                      · skip
                        refine lv_aload_n hx hb d_M_exact_218 rfl (lv_at hl 2 rfl) ?_
                        refine va_get (D := (dC, dI)) (ci := 1) (v := .long v120) (C := R_M) (T := F_M) (N := 4) hx hb hts (fun w h => List.mem_cons_of_mem _ (i_M w h)) hown hK hP 0 rfl rfl 2 (by decide) (hts (.fieldLink R_M 20 R_M "lower" "J") (List.mem_cons_of_mem _ (tm (by decide +kernel) rfl))) (fun _ h9 => h9) rfl d_M_exact_219 ?_
                        refine W.lret (v := v120) hx hb hr (fun t ht hW => ⟨⟨_, (th18, v139, v120, 0), rfl, ?_, by rw [ht]; exact hP, va_K.moved hW.alike hK, hD⟩, hS.F ht⟩) hS.2.2 d_M_exact_222
                        show th18 = th ∧ (((0 : Int64) = 0 ∧ sp_rok a.toInt b.toInt d.toInt v120.toInt) ∨ (¬ (0 : Int64) = 0 ∧ sp_rno a.toInt b.toInt d.toInt))
                        exact ⟨e18.1.trans e9.1, ex_fin hd0 hQx hRx hN9 e98 rfl hMv e189 (by first | exact Or.inl ⟨c194, rfl⟩ | exact Or.inr ⟨c194, by decide⟩) (by first | exact Or.inl ⟨c207, rfl⟩ | exact Or.inr ⟨c207, e214⟩)⟩
                      · skip
                        refine lv_aload_n hx hb d_M_exact_210 rfl (lv_at hl 2 rfl) ?_
                        refine va_get (D := (dC, dI)) (ci := 1) (v := .long v120) (C := R_M) (T := F_M) (N := 4) hx hb hts (fun w h => List.mem_cons_of_mem _ (i_M w h)) hown hK hP 0 rfl rfl 2 (by decide) (hts (.fieldLink R_M 20 R_M "lower" "J") (List.mem_cons_of_mem _ (tm (by decide +kernel) rfl))) (fun _ h9 => h9) rfl d_M_exact_211 ?_
                        refine lv_lneg hx hb d_M_exact_214 ?_
                        refine lv_topl (fun v214 e214 => ?_)
                        refine lv_goto (tgt := 222) hx hb d_M_exact_215 (by decide) ?_
                        refine W.lret (v := v214) hx hb hr (fun t ht hW => ⟨⟨_, (th18, v139, v120, 0), rfl, ?_, by rw [ht]; exact hP, va_K.moved hW.alike hK, hD⟩, hS.F ht⟩) hS.2.2 d_M_exact_222
                        show th18 = th ∧ (((0 : Int64) = 0 ∧ sp_rok a.toInt b.toInt d.toInt v214.toInt) ∨ (¬ (0 : Int64) = 0 ∧ sp_rno a.toInt b.toInt d.toInt))
                        exact ⟨e18.1.trans e9.1, ex_fin hd0 hQx hRx hN9 e98 rfl hMv e189 (by first | exact Or.inl ⟨c194, rfl⟩ | exact Or.inr ⟨c194, by decide⟩) (by first | exact Or.inl ⟨c207, rfl⟩ | exact Or.inr ⟨c207, e214⟩)⟩
                  · skip
                    refine lv_if_ne (tgt := 188) hx hb d_M_exact_156 (by decide) (fun c156 => ?_) (fun c156 => ?_)
                    · skip
                      have c156 := (not_congr (lg_cmp_eq _ _)).mp c156
                      refine lv_iconst (v := 0) hx hb d_M_exact_188 (by decide) ?_
                      exact K189 _ (by first | exact ex_hit ⟨c156, Or.inl c165⟩ | exact ex_hit ⟨c156, Or.inr ⟨c170, c181⟩⟩ | exact ex_miss (fun z => c156 z.1) | exact ex_miss (fun z => z.2.elim (fun y => c165 y) (fun y => y.1 c170)) | exact ex_miss (fun z => z.2.elim (fun y => c165 y) (fun y => c181 y.2)))
                    · skip
                      have c156 := (lg_cmp_eq _ _).mp c156
                      refine lv_aload_n hx hb d_M_exact_159 rfl (lv_at hl 1 rfl) ?_
                      refine va_get (D := (dC, dI)) (ci := 1) (v := .long v120) (C := R_M) (T := F_M) (N := 4) hx hb hts (fun w h => List.mem_cons_of_mem _ (i_M w h)) hown hK hP 0 rfl rfl 2 (by decide) (hts (.fieldLink R_M 20 R_M "lower" "J") (List.mem_cons_of_mem _ (tm (by decide +kernel) rfl))) (fun _ h9 => h9) rfl d_M_exact_160 ?_
                      refine lv_lconst (v := 0) hx hb d_M_exact_163 (by decide) ?_
                      refine W.lcmp hx hb d_M_exact_164 ?_
                      refine lv_if_ge (tgt := 184) hx hb d_M_exact_165 (by decide) (fun c165 => ?_) (fun c165 => ?_)
                      · skip
                        have c165 := (lg_cmp_ge _ _).mp c165
                        refine lv_iconst (v := 1) hx hb d_M_exact_184 (by decide) ?_
                        refine lv_goto (tgt := 189) hx hb d_M_exact_185 (by decide) ?_
                        exact K189 _ (by first | exact ex_hit ⟨c156, Or.inl c165⟩ | exact ex_hit ⟨c156, Or.inr ⟨c170, c181⟩⟩ | exact ex_miss (fun z => c156 z.1) | exact ex_miss (fun z => z.2.elim (fun y => c165 y) (fun y => y.1 c170)) | exact ex_miss (fun z => z.2.elim (fun y => c165 y) (fun y => c181 y.2)))
                      · skip
                        have c165 := (not_congr (lg_cmp_ge _ _)).mp c165
                        refine lv_iload hx hb d_M_exact_168 (lv_at hl 0 rfl) ?_
                        refine lv_if_eq (tgt := 188) hx hb d_M_exact_170 (by decide) (fun c170 => ?_) (fun c170 => ?_)
                        · skip
                          refine lv_iconst (v := 0) hx hb d_M_exact_188 (by decide) ?_
                          exact K189 _ (by first | exact ex_hit ⟨c156, Or.inl c165⟩ | exact ex_hit ⟨c156, Or.inr ⟨c170, c181⟩⟩ | exact ex_miss (fun z => c156 z.1) | exact ex_miss (fun z => z.2.elim (fun y => c165 y) (fun y => y.1 c170)) | exact ex_miss (fun z => z.2.elim (fun y => c165 y) (fun y => c181 y.2)))
                        · skip
                          refine lv_aload_n hx hb d_M_exact_173 rfl (lv_at hl 1 rfl) ?_
                          refine va_get (D := (dC, dI)) (ci := 1) (v := .long v120) (C := R_M) (T := F_M) (N := 4) hx hb hts (fun w h => List.mem_cons_of_mem _ (i_M w h)) hown hK hP 0 rfl rfl 2 (by decide) (hts (.fieldLink R_M 20 R_M "lower" "J") (List.mem_cons_of_mem _ (tm (by decide +kernel) rfl))) (fun _ h9 => h9) rfl d_M_exact_174 ?_
                          refine lv_ldc2 (v := (-9223372036854775808)) hx hb hown (hts (.constantLong R_M 14 (-9223372036854775808)) (List.mem_cons_of_mem _ (tm (by decide +kernel) rfl))) d_M_exact_177 ?_
                          refine W.lcmp hx hb d_M_exact_180 ?_
                          refine lv_if_ne (tgt := 188) hx hb d_M_exact_181 (by decide) (fun c181 => ?_) (fun c181 => ?_)
                          · skip
                            have c181 := (not_congr (lg_cmp_eq _ _)).mp c181
                            refine lv_iconst (v := 0) hx hb d_M_exact_188 (by decide) ?_
                            exact K189 _ (by first | exact ex_hit ⟨c156, Or.inl c165⟩ | exact ex_hit ⟨c156, Or.inr ⟨c170, c181⟩⟩ | exact ex_miss (fun z => c156 z.1) | exact ex_miss (fun z => z.2.elim (fun y => c165 y) (fun y => y.1 c170)) | exact ex_miss (fun z => z.2.elim (fun y => c165 y) (fun y => c181 y.2)))
                          · skip
                            have c181 := (lg_cmp_eq _ _).mp c181
                            refine lv_iconst (v := 1) hx hb d_M_exact_184 (by decide) ?_
                            refine lv_goto (tgt := 189) hx hb d_M_exact_185 (by decide) ?_
                            exact K189 _ (by first | exact ex_hit ⟨c156, Or.inl c165⟩ | exact ex_hit ⟨c156, Or.inr ⟨c170, c181⟩⟩ | exact ex_miss (fun z => c156 z.1) | exact ex_miss (fun z => z.2.elim (fun y => c165 y) (fun y => y.1 c170)) | exact ex_miss (fun z => z.2.elim (fun y => c165 y) (fun y => c181 y.2)))
          · skip
            refine lv_icmp_eq (tgt := 97) hx hb d_M_exact_63 (by decide) (fun c63 => ?_) (fun c63 => ?_)
            · skip
              refine lv_iconst (v := 0) hx hb d_M_exact_97 (by decide) ?_
              exact K98 _ (by first | exact ex_miss (fun z => hng.mp c63 z.1) | exact ex_hit ⟨Classical.byContradiction (fun z => c63 (hng.mpr z)), Or.inl c72⟩ | exact ex_hit ⟨Classical.byContradiction (fun z => c63 (hng.mpr z)), Or.inr (Or.inl c81)⟩ | exact ex_hit ⟨Classical.byContradiction (fun z => c63 (hng.mpr z)), Or.inr (Or.inr c90)⟩ | exact ex_miss (fun z => z.2.elim (fun y => y c72) (fun y => y.elim (fun x => x c81) (fun x => x c90))))
            · skip
              refine lv_aload_n hx hb d_M_exact_66 rfl (lv_at hl 0 rfl) ?_
              refine va_get (D := (dC, dI)) (ci := 1) (v := .long up18) (C := R_M) (T := F_M) (N := 4) hx hb hts (fun w h => List.mem_cons_of_mem _ (i_M w h)) hown hK hP 0 rfl rfl 1 (by decide) (hts (.fieldLink R_M 16 R_M "upper" "J") (List.mem_cons_of_mem _ (tm (by decide +kernel) rfl))) (fun _ h9 => h9) rfl d_M_exact_67 ?_
              refine lv_lconst (v := 0) hx hb d_M_exact_70 (by decide) ?_
              refine W.lcmp hx hb d_M_exact_71 ?_
              refine lv_if_ne (tgt := 93) hx hb d_M_exact_72 (by decide) (fun c72 => ?_) (fun c72 => ?_)
              · skip
                have c72 := (not_congr (lg_cmp_eq _ _)).mp c72
                refine lv_iconst (v := 1) hx hb d_M_exact_93 (by decide) ?_
                refine lv_goto (tgt := 98) hx hb d_M_exact_94 (by decide) ?_
                exact K98 _ (by first | exact ex_miss (fun z => hng.mp c63 z.1) | exact ex_hit ⟨Classical.byContradiction (fun z => c63 (hng.mpr z)), Or.inl c72⟩ | exact ex_hit ⟨Classical.byContradiction (fun z => c63 (hng.mpr z)), Or.inr (Or.inl c81)⟩ | exact ex_hit ⟨Classical.byContradiction (fun z => c63 (hng.mpr z)), Or.inr (Or.inr c90)⟩ | exact ex_miss (fun z => z.2.elim (fun y => y c72) (fun y => y.elim (fun x => x c81) (fun x => x c90))))
              · skip
                have c72 := (lg_cmp_eq _ _).mp c72
                refine lv_aload_n hx hb d_M_exact_75 rfl (lv_at hl 0 rfl) ?_
                refine va_get (D := (dC, dI)) (ci := 1) (v := .long lo18) (C := R_M) (T := F_M) (N := 4) hx hb hts (fun w h => List.mem_cons_of_mem _ (i_M w h)) hown hK hP 0 rfl rfl 2 (by decide) (hts (.fieldLink R_M 20 R_M "lower" "J") (List.mem_cons_of_mem _ (tm (by decide +kernel) rfl))) (fun _ h9 => h9) rfl d_M_exact_76 ?_
                refine lv_lconst (v := 0) hx hb d_M_exact_79 (by decide) ?_
                refine W.lcmp hx hb d_M_exact_80 ?_
                refine lv_if_ne (tgt := 93) hx hb d_M_exact_81 (by decide) (fun c81 => ?_) (fun c81 => ?_)
                · skip
                  have c81 := (not_congr (lg_cmp_eq _ _)).mp c81
                  refine lv_iconst (v := 1) hx hb d_M_exact_93 (by decide) ?_
                  refine lv_goto (tgt := 98) hx hb d_M_exact_94 (by decide) ?_
                  exact K98 _ (by first | exact ex_miss (fun z => hng.mp c63 z.1) | exact ex_hit ⟨Classical.byContradiction (fun z => c63 (hng.mpr z)), Or.inl c72⟩ | exact ex_hit ⟨Classical.byContradiction (fun z => c63 (hng.mpr z)), Or.inr (Or.inl c81)⟩ | exact ex_hit ⟨Classical.byContradiction (fun z => c63 (hng.mpr z)), Or.inr (Or.inr c90)⟩ | exact ex_miss (fun z => z.2.elim (fun y => y c72) (fun y => y.elim (fun x => x c81) (fun x => x c90))))
                · skip
                  have c81 := (lg_cmp_eq _ _).mp c81
                  refine lv_aload_n hx hb d_M_exact_84 rfl (lv_at hl 0 rfl) ?_
                  refine va_get (D := (dC, dI)) (ci := 1) (v := .long le18) (C := R_M) (T := F_M) (N := 4) hx hb hts (fun w h => List.mem_cons_of_mem _ (i_M w h)) hown hK hP 0 rfl rfl 3 (by decide) (hts (.fieldLink R_M 27 R_M "left" "J") (List.mem_cons_of_mem _ (tm (by decide +kernel) rfl))) (fun _ h9 => h9) rfl d_M_exact_85 ?_
                  refine lv_lconst (v := 0) hx hb d_M_exact_88 (by decide) ?_
                  refine W.lcmp hx hb d_M_exact_89 ?_
                  refine lv_if_eq (tgt := 97) hx hb d_M_exact_90 (by decide) (fun c90 => ?_) (fun c90 => ?_)
                  · skip
                    have c90 := (lg_cmp_eq _ _).mp c90
                    refine lv_iconst (v := 0) hx hb d_M_exact_97 (by decide) ?_
                    exact K98 _ (by first | exact ex_miss (fun z => hng.mp c63 z.1) | exact ex_hit ⟨Classical.byContradiction (fun z => c63 (hng.mpr z)), Or.inl c72⟩ | exact ex_hit ⟨Classical.byContradiction (fun z => c63 (hng.mpr z)), Or.inr (Or.inl c81)⟩ | exact ex_hit ⟨Classical.byContradiction (fun z => c63 (hng.mpr z)), Or.inr (Or.inr c90)⟩ | exact ex_miss (fun z => z.2.elim (fun y => y c72) (fun y => y.elim (fun x => x c81) (fun x => x c90))))
                  · skip
                    have c90 := (not_congr (lg_cmp_eq _ _)).mp c90
                    refine lv_iconst (v := 1) hx hb d_M_exact_93 (by decide) ?_
                    refine lv_goto (tgt := 98) hx hb d_M_exact_94 (by decide) ?_
                    exact K98 _ (by first | exact ex_miss (fun z => hng.mp c63 z.1) | exact ex_hit ⟨Classical.byContradiction (fun z => c63 (hng.mpr z)), Or.inl c72⟩ | exact ex_hit ⟨Classical.byContradiction (fun z => c63 (hng.mpr z)), Or.inr (Or.inl c81)⟩ | exact ex_hit ⟨Classical.byContradiction (fun z => c63 (hng.mpr z)), Or.inr (Or.inr c90)⟩ | exact ex_miss (fun z => z.2.elim (fun y => y c72) (fun y => y.elim (fun x => x c81) (fun x => x c90))))
        · skip
          refine lv_if_ge (tgt := 62) hx hb d_M_exact_55 (by decide) (fun c55 => ?_) (fun c55 => ?_)
          · skip
            have c55 := (lg_cmp_ge _ _).mp c55
            refine lv_iconst (v := 0) hx hb d_M_exact_62 (by decide) ?_
            exact K63 _ (by first | exact be_s0 c55 | exact be_s1 c55)
          · skip
            have c55 := (not_congr (lg_cmp_ge _ _)).mp c55
            refine lv_iconst (v := 1) hx hb d_M_exact_58 (by decide) ?_
            refine lv_goto (tgt := 63) hx hb d_M_exact_59 (by decide) ?_
            exact K63 _ (by first | exact be_s0 c55 | exact be_s1 c55)
      · skip
        refine lv_icmp_eq (tgt := 50) hx hb d_M_exact_43 (by decide) (fun c43 => ?_) (fun c43 => ?_)
        · skip
          refine lv_iconst (v := 0) hx hb d_M_exact_50 (by decide) ?_
          exact K51 _ (by first | (rw [if_pos c43]) | (rw [if_neg c43]))
        · skip
          refine lv_iconst (v := 1) hx hb d_M_exact_46 (by decide) ?_
          refine lv_goto (tgt := 51) hx hb d_M_exact_47 (by decide) ?_
          exact K51 _ (by first | (rw [if_pos c43]) | (rw [if_neg c43]))
    · skip
      refine lv_if_ge (tgt := 42) hx hb d_M_exact_35 (by decide) (fun c35 => ?_) (fun c35 => ?_)
      · skip
        have c35 := (lg_cmp_ge _ _).mp c35
        refine lv_iconst (v := 0) hx hb d_M_exact_42 (by decide) ?_
        exact K43 _ (by first | exact be_s0 c35 | exact be_s1 c35)
      · skip
        have c35 := (not_congr (lg_cmp_ge _ _)).mp c35
        refine lv_iconst (v := 1) hx hb d_M_exact_38 (by decide) ?_
        refine lv_goto (tgt := 43) hx hb d_M_exact_39 (by decide) ?_
        exact K43 _ (by first | exact be_s0 c35 | exact be_s1 c35)
  · skip
    refine lv_if_ge (tgt := 31) hx hb d_M_exact_24 (by decide) (fun c24 => ?_) (fun c24 => ?_)
    · skip
      have c24 := (lg_cmp_ge _ _).mp c24
      refine lv_iconst (v := 0) hx hb d_M_exact_31 (by decide) ?_
      exact K32 _ (by first | exact be_s0 c24 | exact be_s1 c24)
    · skip
      have c24 := (not_congr (lg_cmp_ge _ _)).mp c24
      refine lv_iconst (v := 1) hx hb d_M_exact_27 (by decide) ?_
      refine lv_goto (tgt := 32) hx hb d_M_exact_28 (by decide) ?_
      exact K32 _ (by first | exact be_s0 c24 | exact be_s1 c24)
set_option maxHeartbeats 4000000 in
set_option maxRecDepth 100000 in
theorem c_M_ratio (l : Launch) (dC : Nat → ClassId) (dI : Nat → Nat → Nat) (h0 sz : Nat) (th : Int32) (up lo le : Int64) (a b d : Int64)  : Met l y_M_ratio w_M_ratio ({ frames := 3, cells := 0, slots := 0, locals := 130 }) (va_Pc [.ref h0, .long a, .long b, .long d] (fun U => U.heap.size = sz ∧ va_P (dC, dI) classes [(h0, .inr (1, [.int th, .long up, .long lo, .long le]))] U.heap ∧ va_K (dC, dI) classes [] U ∧ va_D (fun _ => True) [(h0, .inr (1, [.int th, .long up, .long lo, .long le]))])) (va_Ql (fun (r : Int64) (u : MS) => (u.1 = 0 ∧ sp_rok a.toInt b.toInt d.toInt r.toInt) ∨ (u.1 = 1 ∧ sp_rno a.toInt b.toInt d.toInt)) (at_M dC dI (va_A [(h0, .inr (1, [.int th, .long up, .long lo, .long le]))] sz) h0) (va_A [(h0, .inr (1, [.int th, .long up, .long lo, .long le]))] sz)) 0 0 (va_A [(h0, .inr (1, [.int th, .long up, .long lo, .long le]))] sz) := by
  refine Met.ofW (cc := b_M_ratio) (maxL := 9) (ret := some .long) (by decide) rfl ?_
  intro p e s m args below meth c s₁ B hml hv
  obtain ⟨rfl, hsz, hP, hK, hD0⟩ := hv
  have hx := B.exec
  have hb := B.bytes
  have hr := B.returns
  have hts := atoms_spec (ws := w_M_ratio) B.pre
  have hown : s.vm.findClass R_M = some m.cls := findClass_of_methodNamed B.named
  have hlocks := B.notSynchronized
  subst hsz
  have hD := hD0.self (sz := s.heap.size)
  generalize hAe : va_A [(h0, .inr (1, [.int th, .long up, .long lo, .long le]))] s.heap.size = A at hD ⊢
  have hA : ∀ q : Nat, s.heap.size ≤ q → A q := fun q h => by rw [← hAe]; exact Or.inr h
  have hS : va_S A s.heap s.heap [] := va_S.rf
  have hP : va_P (dC, dI) classes [(h0, .inr (1, [.int th, .long up, .long lo, .long le]))] s.heap := hP
  have hl := lv_entry ([.ref h0, .long a, .long b, .long d]) (n := 9) (Nat.le_of_ble_eq_true rfl)
  rw [lg_entry_eq]
  generalize (lg_sl ([.ref h0, .long a, .long b, .long d]) ++ List.replicate (9 - (lg_sl ([.ref h0, .long a, .long b, .long d])).length) Slot.unset).toArray = ls at hl ⊢
  have hl : lv_has ls 9 [(0, .ref h0), (1, .long a), (3, .long b), (5, .long d)] := hl
  refine lv_aload_n hx hb d_M_ratio_0 rfl (lv_at hl 0 rfl) ?_
  refine lv_iconst (v := 1) hx hb d_M_ratio_1 (by decide) ?_
  refine va_put (D := (dC, dI)) (ci := 1) (v := .int 1) (ty := .int) (C := R_M) (T := F_M) (N := 4) hx hb hts (fun w h => List.mem_cons_of_mem _ (i_M w h)) t_M t_M_ok n_M hown hK hP hD hS 0 rfl rfl 0 (by decide) (hts (.fieldLink R_M 7 R_M "thrown" "I") (List.mem_cons_of_mem _ (tm (by decide +kernel) rfl))) (fun _ h9 => h9) rfl (by decide +kernel) rfl rfl (Nat.le_of_ble_eq_true rfl) d_M_ratio_2 (fun H locs hP hD hS => ?_)
  have hP : va_P (dC, dI) classes [(h0, .inr (1, [.int 1, .long up, .long lo, .long le]))] H := hP
  have hD : va_D A [(h0, .inr (1, [.int 1, .long up, .long lo, .long le]))] := hD
  refine lv_lload hx hb d_M_ratio_5 (lv_at hl 3 rfl) ?_
  refine lv_lconst (v := 0) hx hb d_M_ratio_7 (by decide) ?_
  refine W.lcmp hx hb d_M_ratio_8 ?_
  refine lv_if_ne (tgt := 14) hx hb d_M_ratio_9 (by decide) (fun c9 => ?_) (fun c9 => ?_)
  · skip
    have c9 := (not_congr (lg_cmp_eq _ _)).mp c9
    have hd0 : d.toInt ≠ 0 := fun q => c9 (Int64.toInt_inj.mp (by rw [q]; decide))
    refine lv_aload_n hx hb d_M_ratio_14 rfl (lv_at hl 0 rfl) ?_
    refine lv_lload_n hx hb d_M_ratio_15 rfl (lv_at hl 1 rfl) ?_
    refine lv_lload_n hx hb d_M_ratio_16 rfl (lv_at hl 2 rfl) ?_
    refine lv_lload hx hb d_M_ratio_17 (lv_at hl 3 rfl) ?_
    have hPc := hP.sub (ws' := [(h0, .inr (1, [.int 1, .long up, .long lo, .long le]))]) [0] rfl
    have hDc := hD.sub (ws' := [(h0, .inr (1, [.int 1, .long up, .long lo, .long le]))]) [0] (by decide) rfl
    have hKc := hK.sub (tys' := []) [] rfl
    have hFc := va_free (wc := [(h0, .inr (1, [.int 1, .long up, .long lo, .long le]))]) hD hS hA [0] rfl
    refine va_calll (va_runV (As := [.long a, .long b, .long d]) (rest := []) ⟨hx, hb, hml, hown, hts⟩ (c_M_exact l dC dI h0 H.size 1 up lo le a b d hd0) (cwV 3 hts g_M_54 rfl rfl rfl (by decide +kernel) ⟨Nat.le_of_ble_eq_true rfl, Nat.le_of_ble_eq_true rfl⟩) ⟨fun a U g mk q => by obtain ⟨q0, q1, qP, qK, qD⟩ := q; exact ⟨q0, q1, qP, va_K.moved (u := U) (U := U.calling g mk a) (Vm.Alike.refl U.vm) qK, qD⟩, va_recv hKc hPc (ci := 1) (q0 := 0) rfl rfl, fun U hU hW => ⟨rfl, by rw [hU], by rw [hU]; exact hPc, va_K.moved hW.alike hKc, hDc.weaken (fun _ _ _ _ => trivial)⟩⟩ rfl rfl hl.1 rfl (lv_room (Nat.le_of_ble_eq_true rfl)) d_M_ratio_19 ⟨Nat.le_of_ble_eq_true rfl, Nat.le_of_ble_eq_true rfl⟩) hS (fun q _ h => hFc q h) hFc (fun v19 u t H1 locs ht hvm hw hB hz1 hk1 hS => ?_)
    obtain ⟨th19, up19, lo19, le19⟩ := u
    obtain ⟨hP1, hK1, hD1⟩ := hB
    rw [ht] at hP1
    have hK1 := va_K.moved hvm.symm hK1
    have e19 := hw
    dsimp only at e19
    obtain ⟨hP, hD⟩ := va_join (wr := []) (w1 := [(h0, .inr (1, [.int th19, .long up19, .long lo19, .long le19]))]) hP hD [0] [] rfl rfl (by decide) (by decide) hk1 hFc hP1 hD1
    have hK := (hK.sub (tys' := []) [] rfl).app hK1
    generalize H1 = H at hP hS ⊢
    have hP : va_P (dC, dI) classes [(h0, .inr (1, [.int th19, .long up19, .long lo19, .long le19]))] H := hP
    have hD : va_D A [(h0, .inr (1, [.int th19, .long up19, .long lo19, .long le19]))] := hD
    have hK : va_K (dC, dI) classes [] s := hK
    refine lv_lstore (lv' := [(7, .long v19), (0, .ref h0), (1, .long a), (3, .long b), (5, .long d)]) hx hb d_M_ratio_22 hl (by decide) rfl (fun ls hl => ?_)
    refine lv_aload_n hx hb d_M_ratio_24 rfl (lv_at hl 1 rfl) ?_
    refine lv_aload_n hx hb d_M_ratio_25 rfl (lv_at hl 1 rfl) ?_
    refine va_get (D := (dC, dI)) (ci := 1) (v := .long le19) (C := R_M) (T := F_M) (N := 4) hx hb hts (fun w h => List.mem_cons_of_mem _ (i_M w h)) hown hK hP 0 rfl rfl 3 (by decide) (hts (.fieldLink R_M 27 R_M "left" "J") (List.mem_cons_of_mem _ (tm (by decide +kernel) rfl))) (fun _ h9 => h9) rfl d_M_ratio_26 ?_
    refine lv_lconst (v := 0) hx hb d_M_ratio_29 (by decide) ?_
    refine W.lcmp hx hb d_M_ratio_30 ?_
    refine jn_i (J := 39) (rest := [.ref h0]) (fun v => (le19 = 0 ∧ v = 0) ∨ (¬ le19 = 0 ∧ v = 1)) (fun v39 e39 => ?_) (fun K39 => ?_)
    · skip
      refine va_put (D := (dC, dI)) (ci := 1) (v := .int v39) (ty := .int) (C := R_M) (T := F_M) (N := 4) hx hb hts (fun w h => List.mem_cons_of_mem _ (i_M w h)) t_M t_M_ok n_M hown hK hP hD hS 0 rfl rfl 0 (by decide) (hts (.fieldLink R_M 7 R_M "thrown" "I") (List.mem_cons_of_mem _ (tm (by decide +kernel) rfl))) (fun _ h9 => h9) rfl (by decide +kernel) rfl rfl (Nat.le_of_ble_eq_true rfl) d_M_ratio_39 (fun H locs hP hD hS => ?_)
      have hP : va_P (dC, dI) classes [(h0, .inr (1, [.int v39, .long up19, .long lo19, .long le19]))] H := hP
      have hD : va_D A [(h0, .inr (1, [.int v39, .long up19, .long lo19, .long le19]))] := hD
      refine lv_aload_n hx hb d_M_ratio_42 rfl (lv_at hl 1 rfl) ?_
      refine va_get (D := (dC, dI)) (ci := 1) (v := .long le19) (C := R_M) (T := F_M) (N := 4) hx hb hts (fun w h => List.mem_cons_of_mem _ (i_M w h)) hown hK hP 0 rfl rfl 3 (by decide) (hts (.fieldLink R_M 27 R_M "left" "J") (List.mem_cons_of_mem _ (tm (by decide +kernel) rfl))) (fun _ h9 => h9) rfl d_M_ratio_43 ?_
      refine lv_lconst (v := 0) hx hb d_M_ratio_46 (by decide) ?_
      refine W.lcmp hx hb d_M_ratio_47 ?_
      refine lv_if_ne (tgt := 56) hx hb d_M_ratio_48 (by decide) (fun c48 => ?_) (fun c48 => ?_)
      · skip
        have c48 := (not_congr (lg_cmp_eq _ _)).mp c48
        refine lv_lconst (v := 0) hx hb d_M_ratio_56 (by decide) ?_
        refine W.lret (v := 0) hx hb hr (fun t ht hW => ⟨⟨_, (v39, up19, lo19, le19), rfl, ?_, by rw [ht]; exact hP, va_K.moved hW.alike hK, hD⟩, hS.F ht⟩) hS.2.2 d_M_ratio_57
        show (v39 = 0 ∧ sp_rok a.toInt b.toInt d.toInt (0 : Int64).toInt) ∨ (v39 = 1 ∧ sp_rno a.toInt b.toInt d.toInt)
        exact by first | exact Or.inl ⟨e39.resolve_right (fun z => z.1 c48) |>.2, (e19.2.resolve_right (fun z => z.1 c48)).2⟩ | exact Or.inr ⟨(e39.resolve_left (fun z => c48 z.1)).2, (e19.2.resolve_left (fun z => c48 z.1)).2⟩
      · skip
        have c48 := (lg_cmp_eq _ _).mp c48
        refine lv_lload hx hb d_M_ratio_51 (lv_at hl 0 rfl) ?_
        refine lv_goto (tgt := 57) hx hb d_M_ratio_53 (by decide) ?_
        refine W.lret (v := v19) hx hb hr (fun t ht hW => ⟨⟨_, (v39, up19, lo19, le19), rfl, ?_, by rw [ht]; exact hP, va_K.moved hW.alike hK, hD⟩, hS.F ht⟩) hS.2.2 d_M_ratio_57
        show (v39 = 0 ∧ sp_rok a.toInt b.toInt d.toInt v19.toInt) ∨ (v39 = 1 ∧ sp_rno a.toInt b.toInt d.toInt)
        exact by first | exact Or.inl ⟨e39.resolve_right (fun z => z.1 c48) |>.2, (e19.2.resolve_right (fun z => z.1 c48)).2⟩ | exact Or.inr ⟨(e39.resolve_left (fun z => c48 z.1)).2, (e19.2.resolve_left (fun z => c48 z.1)).2⟩
    · skip
      refine lv_if_ne (tgt := 38) hx hb d_M_ratio_31 (by decide) (fun c31 => ?_) (fun c31 => ?_)
      · skip
        have c31 := (not_congr (lg_cmp_eq _ _)).mp c31
        refine lv_iconst (v := 1) hx hb d_M_ratio_38 (by decide) ?_
        exact K39 _ (by first | exact Or.inl ⟨c31, rfl⟩ | exact Or.inr ⟨c31, rfl⟩)
      · skip
        have c31 := (lg_cmp_eq _ _).mp c31
        refine lv_iconst (v := 0) hx hb d_M_ratio_34 (by decide) ?_
        refine lv_goto (tgt := 39) hx hb d_M_ratio_35 (by decide) ?_
        exact K39 _ (by first | exact Or.inl ⟨c31, rfl⟩ | exact Or.inr ⟨c31, rfl⟩)
  · skip
    have c9 := (lg_cmp_eq _ _).mp c9
    refine lv_lconst (v := 0) hx hb d_M_ratio_12 (by decide) ?_
    refine W.lret (v := 0) hx hb hr (fun t ht hW => ⟨⟨_, (1, up, lo, le), rfl, ?_, by rw [ht]; exact hP, va_K.moved hW.alike hK, hD⟩, hS.F ht⟩) hS.2.2 d_M_ratio_13
    show ((1 : Int32) = 0 ∧ sp_rok a.toInt b.toInt d.toInt (0 : Int64).toInt) ∨ ((1 : Int32) = 1 ∧ sp_rno a.toInt b.toInt d.toInt)
    exact Or.inr ⟨rfl, Or.inl (by rw [c9]; decide)⟩
set_option maxHeartbeats 4000000 in
set_option maxRecDepth 100000 in
theorem c_M_between (l : Launch) (dC : Nat → ClassId) (dI : Nat → Nat → Nat) (h0 sz : Nat) (th : Int32) (up lo le : Int64) (a b : Int32) (n d : Int64)  : Met l y_M_between w_M_between ({ frames := 3, cells := 0, slots := 0, locals := 130 }) (va_Pc [.ref h0, .int a, .int b, .long n, .long d] (fun U => U.heap.size = sz ∧ va_P (dC, dI) classes [(h0, .inr (1, [.int th, .long up, .long lo, .long le]))] U.heap ∧ va_K (dC, dI) classes [] U ∧ va_D (fun _ => True) [(h0, .inr (1, [.int th, .long up, .long lo, .long le]))])) (va_Qi (fun (r : Int32) (u : MS) => (u.1 = 0 ∧ (0 < d.toInt ∧ 0 ≤ n.toInt ∧ n.toInt ≤ d.toInt) ∧ r.toInt = sp_betw a.toInt b.toInt n.toInt d.toInt) ∨ (u.1 = 1 ∧ sp_bno n.toInt d.toInt)) (at_M dC dI (va_A [(h0, .inr (1, [.int th, .long up, .long lo, .long le]))] sz) h0) (va_A [(h0, .inr (1, [.int th, .long up, .long lo, .long le]))] sz)) 0 0 (va_A [(h0, .inr (1, [.int th, .long up, .long lo, .long le]))] sz) := by
  refine Met.ofW (cc := b_M_between) (maxL := 7) (ret := some .int) (by decide) rfl ?_
  intro p e s m args below meth c s₁ B hml hv
  obtain ⟨rfl, hsz, hP, hK, hD0⟩ := hv
  have hx := B.exec
  have hb := B.bytes
  have hr := B.returns
  have hts := atoms_spec (ws := w_M_between) B.pre
  have hown : s.vm.findClass R_M = some m.cls := findClass_of_methodNamed B.named
  have hlocks := B.notSynchronized
  subst hsz
  have hD := hD0.self (sz := s.heap.size)
  generalize hAe : va_A [(h0, .inr (1, [.int th, .long up, .long lo, .long le]))] s.heap.size = A at hD ⊢
  have hA : ∀ q : Nat, s.heap.size ≤ q → A q := fun q h => by rw [← hAe]; exact Or.inr h
  have hS : va_S A s.heap s.heap [] := va_S.rf
  have hP : va_P (dC, dI) classes [(h0, .inr (1, [.int th, .long up, .long lo, .long le]))] s.heap := hP
  have hl := lv_entry ([.ref h0, .int a, .int b, .long n, .long d]) (n := 7) (Nat.le_of_ble_eq_true rfl)
  rw [lg_entry_eq]
  generalize (lg_sl ([.ref h0, .int a, .int b, .long n, .long d]) ++ List.replicate (7 - (lg_sl ([.ref h0, .int a, .int b, .long n, .long d])).length) Slot.unset).toArray = ls at hl ⊢
  have hl : lv_has ls 7 [(0, .ref h0), (1, .int a), (2, .int b), (3, .long n), (5, .long d)] := hl
  refine lv_aload_n hx hb d_M_between_0 rfl (lv_at hl 0 rfl) ?_
  refine lv_lload hx hb d_M_between_1 (lv_at hl 4 rfl) ?_
  refine lv_lconst (v := 0) hx hb d_M_between_3 (by decide) ?_
  refine W.lcmp hx hb d_M_between_4 ?_
  refine jn_i (J := 26) (rest := [.ref h0]) (fun v => v = if (0 < d.toInt ∧ 0 ≤ n.toInt ∧ n.toInt ≤ d.toInt) then 0 else 1) (fun v26 e26 => ?_) (fun K26 => ?_)
  · skip
    refine va_put (D := (dC, dI)) (ci := 1) (v := .int v26) (ty := .int) (C := R_M) (T := F_M) (N := 4) hx hb hts (fun w h => List.mem_cons_of_mem _ (i_M w h)) t_M t_M_ok n_M hown hK hP hD hS 0 rfl rfl 0 (by decide) (hts (.fieldLink R_M 7 R_M "thrown" "I") (List.mem_cons_of_mem _ (tm (by decide +kernel) rfl))) (fun _ h9 => h9) rfl (by decide +kernel) rfl rfl (Nat.le_of_ble_eq_true rfl) d_M_between_26 (fun H locs hP hD hS => ?_)
    have hP : va_P (dC, dI) classes [(h0, .inr (1, [.int v26, .long up, .long lo, .long le]))] H := hP
    have hD : va_D A [(h0, .inr (1, [.int v26, .long up, .long lo, .long le]))] := hD
    refine lv_aload_n hx hb d_M_between_29 rfl (lv_at hl 0 rfl) ?_
    refine va_get (D := (dC, dI)) (ci := 1) (v := .int v26) (C := R_M) (T := F_M) (N := 4) hx hb hts (fun w h => List.mem_cons_of_mem _ (i_M w h)) hown hK hP 0 rfl rfl 0 (by decide) (hts (.fieldLink R_M 7 R_M "thrown" "I") (List.mem_cons_of_mem _ (tm (by decide +kernel) rfl))) (fun _ h9 => h9) rfl d_M_between_30 ?_
    refine lv_if_le (tgt := 38) hx hb d_M_between_33 (by decide) (fun c33 => ?_) (fun c33 => ?_)
    · skip
      have hok := (mb_t e26).2.2.2 c33
      refine lv_iload_n hx hb d_M_between_38 rfl (lv_at hl 1 rfl) ?_
      refine lv_i2l hx hb d_M_between_39 rfl ?_
      refine lv_topl (fun v39 e39 => ?_)
      refine lv_aload_n hx hb d_M_between_40 rfl (lv_at hl 0 rfl) ?_
      refine lv_iload_n hx hb d_M_between_41 rfl (lv_at hl 2 rfl) ?_
      refine lv_i2l hx hb d_M_between_42 rfl ?_
      refine lv_topl (fun v42 e42 => ?_)
      refine lv_iload_n hx hb d_M_between_43 rfl (lv_at hl 1 rfl) ?_
      refine lv_i2l hx hb d_M_between_44 rfl ?_
      refine lv_topl (fun v44 e44 => ?_)
      refine lv_lsub hx hb d_M_between_45 ?_
      refine lv_topl (fun v45 e45 => ?_)
      have hspan := be_span a b v42 v44 v45 e42 e44 e45
      refine lv_lload_n hx hb d_M_between_46 rfl (lv_at hl 3 rfl) ?_
      refine lv_lload hx hb d_M_between_47 (lv_at hl 4 rfl) ?_
      have hPc := hP.sub (ws' := [(h0, .inr (1, [.int v26, .long up, .long lo, .long le]))]) [0] rfl
      have hDc := hD.sub (ws' := [(h0, .inr (1, [.int v26, .long up, .long lo, .long le]))]) [0] (by decide) rfl
      have hKc := hK.sub (tys' := []) [] rfl
      have hFc := va_free (wc := [(h0, .inr (1, [.int v26, .long up, .long lo, .long le]))]) hD hS hA [0] rfl
      refine va_calll (va_runV (As := [.long v45, .long n, .long d]) (rest := [.long v39]) ⟨hx, hb, hml, hown, hts⟩ (c_M_exact l dC dI h0 H.size v26 up lo le v45 n d (by omega)) (cwV 3 hts g_M_54 rfl rfl rfl (by decide +kernel) ⟨Nat.le_of_ble_eq_true rfl, Nat.le_of_ble_eq_true rfl⟩) ⟨fun a U g mk q => by obtain ⟨q0, q1, qP, qK, qD⟩ := q; exact ⟨q0, q1, qP, va_K.moved (u := U) (U := U.calling g mk a) (Vm.Alike.refl U.vm) qK, qD⟩, va_recv hKc hPc (ci := 1) (q0 := 0) rfl rfl, fun U hU hW => ⟨rfl, by rw [hU], by rw [hU]; exact hPc, va_K.moved hW.alike hKc, hDc.weaken (fun _ _ _ _ => trivial)⟩⟩ rfl rfl hl.1 rfl (lv_room (Nat.le_of_ble_eq_true rfl)) d_M_between_49 ⟨Nat.le_of_ble_eq_true rfl, Nat.le_of_ble_eq_true rfl⟩) hS (fun q _ h => hFc q h) hFc (fun v49 u t H1 locs ht hvm hw hB hz1 hk1 hS => ?_)
      obtain ⟨th49, up49, lo49, le49⟩ := u
      obtain ⟨hP1, hK1, hD1⟩ := hB
      rw [ht] at hP1
      have hK1 := va_K.moved hvm.symm hK1
      have e49 := hw
      dsimp only at e49
      obtain ⟨hP, hD⟩ := va_join (wr := []) (w1 := [(h0, .inr (1, [.int th49, .long up49, .long lo49, .long le49]))]) hP hD [0] [] rfl rfl (by decide) (by decide) hk1 hFc hP1 hD1
      have hK := (hK.sub (tys' := []) [] rfl).app hK1
      generalize H1 = H at hP hS ⊢
      have hP : va_P (dC, dI) classes [(h0, .inr (1, [.int th49, .long up49, .long lo49, .long le49]))] H := hP
      have hD : va_D A [(h0, .inr (1, [.int th49, .long up49, .long lo49, .long le49]))] := hD
      have hK : va_K (dC, dI) classes [] s := hK
      refine lv_ladd hx hb d_M_between_52 ?_
      refine lv_topl (fun v52 e52 => ?_)
      refine lv_l2i hx hb d_M_between_53 rfl ?_
      refine lv_topi (fun v53 e53 => ?_)
      refine W.iret (v := v53) hx hb hr (fun t ht hW => ⟨⟨_, (th49, up49, lo49, le49), rfl, ?_, by rw [ht]; exact hP, va_K.moved hW.alike hK, hD⟩, hS.F ht⟩) hS.2.2 d_M_between_54
      show (th49 = 0 ∧ (0 < d.toInt ∧ 0 ≤ n.toInt ∧ n.toInt ≤ d.toInt) ∧ v53.toInt = sp_betw a.toInt b.toInt n.toInt d.toInt) ∨ (th49 = 1 ∧ sp_bno n.toInt d.toInt)
      exact Or.inl ⟨e49.1.trans ((mb_t e26).2.2.1 c33), hok, mbw_fin a b n d v45 v49 v52 v53 hspan hok e49.2 (by rw [e52, e39]) e53⟩
    · skip
      refine lv_iconst (v := 0) hx hb d_M_between_36 (by decide) ?_
      refine W.iret (v := 0) hx hb hr (fun t ht hW => ⟨⟨_, (v26, up, lo, le), rfl, ?_, by rw [ht]; exact hP, va_K.moved hW.alike hK, hD⟩, hS.F ht⟩) hS.2.2 d_M_between_37
      show (v26 = 0 ∧ (0 < d.toInt ∧ 0 ≤ n.toInt ∧ n.toInt ≤ d.toInt) ∧ (0 : Int32).toInt = sp_betw a.toInt b.toInt n.toInt d.toInt) ∨ (v26 = 1 ∧ sp_bno n.toInt d.toInt)
      exact Or.inr ⟨(mb_t e26).1 c33, mbw_no ((mb_t e26).2.1 c33)⟩
  · skip
    refine lv_if_le (tgt := 21) hx hb d_M_between_5 (by decide) (fun c5 => ?_) (fun c5 => ?_)
    · skip
      have c5 := (lg_cmp_le _ _).mp c5
      refine lv_iconst (v := 1) hx hb d_M_between_21 (by decide) ?_
      refine lv_goto (tgt := 26) hx hb d_M_between_22 (by decide) ?_
      exact K26 _ (by first | exact mbw_1 (Or.inl c5) | exact mbw_1 (Or.inr (Or.inl c11)) | exact mbw_1 (Or.inr (Or.inr c18)) | exact mbw_0 c5 c11 c18)
    · skip
      have c5 := (not_congr (lg_cmp_le _ _)).mp c5
      refine lv_lload_n hx hb d_M_between_8 rfl (lv_at hl 3 rfl) ?_
      refine lv_lconst (v := 0) hx hb d_M_between_9 (by decide) ?_
      refine W.lcmp hx hb d_M_between_10 ?_
      refine lv_if_lt (tgt := 21) hx hb d_M_between_11 (by decide) (fun c11 => ?_) (fun c11 => ?_)
      · skip
        have c11 := (lg_cmp_lt _ _).mp c11
        refine lv_iconst (v := 1) hx hb d_M_between_21 (by decide) ?_
        refine lv_goto (tgt := 26) hx hb d_M_between_22 (by decide) ?_
        exact K26 _ (by first | exact mbw_1 (Or.inl c5) | exact mbw_1 (Or.inr (Or.inl c11)) | exact mbw_1 (Or.inr (Or.inr c18)) | exact mbw_0 c5 c11 c18)
      · skip
        have c11 := (not_congr (lg_cmp_lt _ _)).mp c11
        refine lv_lload_n hx hb d_M_between_14 rfl (lv_at hl 3 rfl) ?_
        refine lv_lload hx hb d_M_between_15 (lv_at hl 4 rfl) ?_
        refine W.lcmp hx hb d_M_between_17 ?_
        refine lv_if_le (tgt := 25) hx hb d_M_between_18 (by decide) (fun c18 => ?_) (fun c18 => ?_)
        · skip
          have c18 := (lg_cmp_le _ _).mp c18
          refine lv_iconst (v := 0) hx hb d_M_between_25 (by decide) ?_
          exact K26 _ (by first | exact mbw_1 (Or.inl c5) | exact mbw_1 (Or.inr (Or.inl c11)) | exact mbw_1 (Or.inr (Or.inr c18)) | exact mbw_0 c5 c11 c18)
        · skip
          have c18 := (not_congr (lg_cmp_le _ _)).mp c18
          refine lv_iconst (v := 1) hx hb d_M_between_21 (by decide) ?_
          refine lv_goto (tgt := 26) hx hb d_M_between_22 (by decide) ?_
          exact K26 _ (by first | exact mbw_1 (Or.inl c5) | exact mbw_1 (Or.inr (Or.inl c11)) | exact mbw_1 (Or.inr (Or.inr c18)) | exact mbw_0 c5 c11 c18)
