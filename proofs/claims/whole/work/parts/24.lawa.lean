set_option maxHeartbeats 8000000 in
set_option maxRecDepth 100000 in
theorem lc_0 {p : Program} {l : Launch} {e : Env} {s : State} {m : MethodId} {below : List Frame} {meth : Method} {c : Code} {dC : Nat → ClassId} {dI : Nat → Nat → Nat} {b L : Nat} {xs : Nat → Int32} (hfl : l.flags = flags0) (hL : L ≤ 3584) (C0 : lw_At p s m meth c b L xs) (hZ : th_Z s.heap.size s) {tt : Nat} (htt : 7 * tt + 7 ≤ L) {q0 q1 q2 : Nat} {cA : ClassId} {th : Int32} {up lo le : Int64} {f : Nat → Int64} {H : Heap} {locs : List Loc} {ls : Array Slot} {iv : Int32} (hi : iv = nI (7 * tt)) (hK : va_K (dC, dI) classes [(cA, .long)] s) (hP : va_P (dC, dI) classes (WX q0 q1 q2 cA th up lo le f) H) (hD : va_D (fun q : Nat => s.heap.size ≤ q) (WX q0 q1 q2 cA th up lo le f)) (hS : va_S (fun q : Nat => s.heap.size ≤ q) s.heap H locs) (hl : lv_has ls 8 [(4, .int iv), (3, .ref q2), (2, .ref q1), (1, .ref q0), (0, .ref b)])
    (KK : ∀ (th : Int32) (up lo le : Int64) (f : Nat → Int64) (H : Heap) (locs : List Loc) (ls : Array Slot), va_P (dC, dI) classes (WX q0 q1 q2 cA th up lo le f) H → va_D (fun q : Nat => s.heap.size ≤ q) (WX q0 q1 q2 cA th up lo le f) → va_S (fun q : Nat => s.heap.size ≤ q) s.heap H locs → lv_has ls 8 [(4, .int iv), (3, .ref q2), (2, .ref q1), (1, .ref q0), (0, .ref b)] → W p l e room_1 s m #[Value.ref b] below meth c H locs (4 + tt) (11 + 6 * tt) (lw_Z below #[Value.ref b] s) (F0 m 758 ls [])) :
    W p l e room_1 s m #[Value.ref b] below meth c H locs (3 + tt) (5 + 6 * tt) (lw_Z below #[Value.ref b] s) (F0 m 100 ls []) := by
  obtain ⟨hx, hb, hr, hml, hown, hts, hX, hbl, hlocks, hgv⟩ := C0
  have hown : s.vm.findClass R_L = some m.cls := hown
  have hA : ∀ q : Nat, s.heap.size ≤ q → (fun q : Nat => s.heap.size ≤ q) q := fun _ h => h
  obtain ⟨X1, hX1⟩ : ∃ y, y = xs (7 * tt + 1) := ⟨_, rfl⟩
  obtain ⟨X2, hX2⟩ : ∃ y, y = xs (7 * tt + 2) := ⟨_, rfl⟩
  have hP : va_P (dC, dI) classes [(q0, .inr (0, [])), (q1, .inr (1, [.int th, .long up, .long lo, .long le])), (q2, .inl (cA, 1, .inr (.inl f)))] H := hP
  have hD : va_D (fun q : Nat => s.heap.size ≤ q) [(q0, .inr (0, [])), (q1, .inr (1, [.int th, .long up, .long lo, .long le])), (q2, .inl (cA, 1, .inr (.inl f)))] := hD
  refine lv_aload_n hx hb d_law_100 rfl (lv_at hl 3 rfl) ?_
  refine lv_aload_n hx hb d_law_101 rfl (lv_at hl 4 rfl) ?_
  refine lv_iload hx hb d_law_102 (lv_at hl 0 rfl) ?_
  refine lv_iconst (v := 1) hx hb d_law_104 (by decide) ?_
  refine lv_iadd hx hb d_law_105 ?_
  refine lv_topi (fun v105 e105 => ?_)
  refine lw_ld hx hb hX hbl hS hL (j := 7 * tt + 1) (by omega) (by rw [e105, hi]; exact nI_add _ _) hX1 d_law_106 ?_
  refine lv_aload_n hx hb d_law_107 rfl (lv_at hl 4 rfl) ?_
  refine lv_iload hx hb d_law_108 (lv_at hl 0 rfl) ?_
  refine lv_iconst (v := 2) hx hb d_law_110 (by decide) ?_
  refine lv_iadd hx hb d_law_111 ?_
  refine lv_topi (fun v111 e111 => ?_)
  refine lw_ld hx hb hX hbl hS hL (j := 7 * tt + 2) (by omega) (by rw [e111, hi]; exact nI_add _ _) hX2 d_law_112 ?_
  refine vp_callSi (W.runV (As := [.int X1, .int X2]) (rest := []) ⟨hx, hb, hml, hown, hts⟩ (c_F_product l q0 X1 X2) (cwV 2 hts g_law_33 rfl rfl rfl (by decide +kernel) ⟨Nat.le_of_ble_eq_true rfl, Nat.le_of_ble_eq_true rfl⟩) ⟨fun _ _ _ _ q => q, va_recv hK hP (ci := 0) (q0 := 0) rfl rfl, fun _ _ _ => rfl⟩ rfl rfl hl.1 rfl (lv_room (Nat.le_of_ble_eq_true rfl)) d_law_113 ⟨by show _ ≤ 1034; omega, by show _ ≤ 8239; omega⟩) (fun v113 e113 => ?_)
  try dsimp only at e113
  refine lv_aload_n hx hb d_law_116 rfl (lv_at hl 2 rfl) ?_
  refine lv_aload_n hx hb d_law_117 rfl (lv_at hl 4 rfl) ?_
  refine lv_iload hx hb d_law_118 (lv_at hl 0 rfl) ?_
  refine lv_iconst (v := 1) hx hb d_law_120 (by decide) ?_
  refine lv_iadd hx hb d_law_121 ?_
  refine lv_topi (fun v121 e121 => ?_)
  refine lw_ld hx hb hX hbl hS hL (j := 7 * tt + 1) (by omega) (by rw [e121, hi]; exact nI_add _ _) hX1 d_law_122 ?_
  refine lv_aload_n hx hb d_law_123 rfl (lv_at hl 4 rfl) ?_
  refine lv_iload hx hb d_law_124 (lv_at hl 0 rfl) ?_
  refine lv_iconst (v := 2) hx hb d_law_126 (by decide) ?_
  refine lv_iadd hx hb d_law_127 ?_
  refine lv_topi (fun v127 e127 => ?_)
  refine lw_ld hx hb hX hbl hS hL (j := 7 * tt + 2) (by omega) (by rw [e127, hi]; exact nI_add _ _) hX2 d_law_128 ?_
  have hPc := hP.sub (ws' := [(q1, .inr (1, [.int th, .long up, .long lo, .long le]))]) [1] rfl
  have hDc := hD.sub (ws' := [(q1, .inr (1, [.int th, .long up, .long lo, .long le]))]) [1] (by decide) rfl
  have hFc := va_free (wc := [(q1, .inr (1, [.int th, .long up, .long lo, .long le]))]) hD hS hA [1] rfl
  have hKc := hK.sub (tys' := []) [] rfl
  refine va_calli (va_runV (As := [.int X1, .int X2]) (rest := [.int v113]) ⟨hx, hb, hml, hown, hts⟩ (c_M_product l dC dI q1 H.size th up lo le X1 X2) (cwV 2 hts g_law_36 rfl rfl rfl (by decide +kernel) ⟨Nat.le_of_ble_eq_true rfl, Nat.le_of_ble_eq_true rfl⟩) ⟨fun a U g mk q => by obtain ⟨q0, q1, qP, qK, qD⟩ := q; exact ⟨q0, q1, qP, va_K.moved (u := U) (U := U.calling g mk a) (Vm.Alike.refl U.vm) qK, qD⟩, va_recv hKc hPc (ci := 1) (q0 := 0) rfl rfl, fun U hU hW => ⟨rfl, by rw [hU], by rw [hU]; exact hPc, va_K.moved hW.alike hKc, hDc.weaken (fun _ _ _ _ => trivial)⟩⟩ rfl rfl hl.1 rfl (lv_room (Nat.le_of_ble_eq_true rfl)) d_law_129 ⟨by show _ ≤ 1034; omega, by show _ ≤ 8239; omega⟩) hS (fun q _ h => hFc q h) hFc (fun v129 u t H1 locs ht hvm hw hB hz1 hk1 hS => ?_)
  obtain ⟨th129, up129, lo129, le129⟩ := u
  obtain ⟨hP1, hK1, hD1⟩ := hB
  rw [ht] at hP1
  have e129 := hw
  try dsimp only at e129
  obtain ⟨hP, hD⟩ := va_join (wr := [(q0, .inr (0, [])), (q2, .inl (cA, 1, .inr (.inl f)))]) (w1 := [(q1, .inr (1, [.int th129, .long up129, .long lo129, .long le129]))]) hP hD [1] [0, 2] rfl rfl (by decide) (by decide) hk1 hFc hP1 hD1
  generalize H1 = H at hP hS ⊢
  have hP := hP.sub (ws' := [(q0, .inr (0, [])), (q1, .inr (1, [.int th129, .long up129, .long lo129, .long le129])), (q2, .inl (cA, 1, .inr (.inl f)))]) [0, 2, 1] rfl
  have hD := hD.sub (ws' := [(q0, .inr (0, [])), (q1, .inr (1, [.int th129, .long up129, .long lo129, .long le129])), (q2, .inl (cA, 1, .inr (.inl f)))]) [0, 2, 1] (by decide) rfl
  refine lv_icmp_eq (tgt := 758) hx hb d_law_132 (by decide) (fun c132 => ?_) (fun c132 => absurd (Int32.toInt_inj.mp (e113.trans e129.symm)) c132)
  refine W.widen (k := 4 + tt) (n := 11 + 6 * tt) (by omega) (by omega) ?_
  exact KK th129 up129 lo129 le129 f _ _ _ hP hD hS (lv_sub hl [0, 1, 2, 3, 4] rfl)
set_option maxHeartbeats 8000000 in
set_option maxRecDepth 100000 in
theorem lc_1 {p : Program} {l : Launch} {e : Env} {s : State} {m : MethodId} {below : List Frame} {meth : Method} {c : Code} {dC : Nat → ClassId} {dI : Nat → Nat → Nat} {b L : Nat} {xs : Nat → Int32} (hfl : l.flags = flags0) (hL : L ≤ 3584) (C0 : lw_At p s m meth c b L xs) (hZ : th_Z s.heap.size s) {tt : Nat} (htt : 7 * tt + 7 ≤ L) {q0 q1 q2 : Nat} {cA : ClassId} {th : Int32} {up lo le : Int64} {f : Nat → Int64} {H : Heap} {locs : List Loc} {ls : Array Slot} {iv : Int32} (hi : iv = nI (7 * tt)) (hK : va_K (dC, dI) classes [(cA, .long)] s) (hP : va_P (dC, dI) classes (WX q0 q1 q2 cA th up lo le f) H) (hD : va_D (fun q : Nat => s.heap.size ≤ q) (WX q0 q1 q2 cA th up lo le f)) (hS : va_S (fun q : Nat => s.heap.size ≤ q) s.heap H locs) (hl : lv_has ls 8 [(4, .int iv), (3, .ref q2), (2, .ref q1), (1, .ref q0), (0, .ref b)])
    (KK : ∀ (th : Int32) (up lo le : Int64) (f : Nat → Int64) (H : Heap) (locs : List Loc) (ls : Array Slot), va_P (dC, dI) classes (WX q0 q1 q2 cA th up lo le f) H → va_D (fun q : Nat => s.heap.size ≤ q) (WX q0 q1 q2 cA th up lo le f) → va_S (fun q : Nat => s.heap.size ≤ q) s.heap H locs → lv_has ls 8 [(4, .int iv), (3, .ref q2), (2, .ref q1), (1, .ref q0), (0, .ref b)] → W p l e room_1 s m #[Value.ref b] below meth c H locs (4 + tt) (11 + 6 * tt) (lw_Z below #[Value.ref b] s) (F0 m 758 ls [])) :
    W p l e room_1 s m #[Value.ref b] below meth c H locs (3 + tt) (5 + 6 * tt) (lw_Z below #[Value.ref b] s) (F0 m 137 ls []) := by
  obtain ⟨hx, hb, hr, hml, hown, hts, hX, hbl, hlocks, hgv⟩ := C0
  have hown : s.vm.findClass R_L = some m.cls := hown
  have hA : ∀ q : Nat, s.heap.size ≤ q → (fun q : Nat => s.heap.size ≤ q) q := fun _ h => h
  obtain ⟨X1, hX1⟩ : ∃ y, y = xs (7 * tt + 1) := ⟨_, rfl⟩
  obtain ⟨X2, hX2⟩ : ∃ y, y = xs (7 * tt + 2) := ⟨_, rfl⟩
  have hP : va_P (dC, dI) classes [(q0, .inr (0, [])), (q1, .inr (1, [.int th, .long up, .long lo, .long le])), (q2, .inl (cA, 1, .inr (.inl f)))] H := hP
  have hD : va_D (fun q : Nat => s.heap.size ≤ q) [(q0, .inr (0, [])), (q1, .inr (1, [.int th, .long up, .long lo, .long le])), (q2, .inl (cA, 1, .inr (.inl f)))] := hD
  refine lv_aload_n hx hb d_law_137 rfl (lv_at hl 3 rfl) ?_
  refine lv_aload_n hx hb d_law_138 rfl (lv_at hl 4 rfl) ?_
  refine lv_iload hx hb d_law_139 (lv_at hl 0 rfl) ?_
  refine lv_iconst (v := 1) hx hb d_law_141 (by decide) ?_
  refine lv_iadd hx hb d_law_142 ?_
  refine lv_topi (fun v142 e142 => ?_)
  refine lw_ld hx hb hX hbl hS hL (j := 7 * tt + 1) (by omega) (by rw [e142, hi]; exact nI_add _ _) hX1 d_law_143 ?_
  refine lv_aload_n hx hb d_law_144 rfl (lv_at hl 4 rfl) ?_
  refine lv_iload hx hb d_law_145 (lv_at hl 0 rfl) ?_
  refine lv_iconst (v := 2) hx hb d_law_147 (by decide) ?_
  refine lv_iadd hx hb d_law_148 ?_
  refine lv_topi (fun v148 e148 => ?_)
  refine lw_ld hx hb hX hbl hS hL (j := 7 * tt + 2) (by omega) (by rw [e148, hi]; exact nI_add _ _) hX2 d_law_149 ?_
  refine vp_callSi (W.runV (As := [.int X1, .int X2]) (rest := []) ⟨hx, hb, hml, hown, hts⟩ (c_F_quotient l q0 X1 X2) (cwV 2 hts g_law_37 rfl rfl rfl (by decide +kernel) ⟨Nat.le_of_ble_eq_true rfl, Nat.le_of_ble_eq_true rfl⟩) ⟨fun _ _ _ _ q => q, va_recv hK hP (ci := 0) (q0 := 0) rfl rfl, fun _ _ _ => rfl⟩ rfl rfl hl.1 rfl (lv_room (Nat.le_of_ble_eq_true rfl)) d_law_150 ⟨by show _ ≤ 1034; omega, by show _ ≤ 8239; omega⟩) (fun v150 e150 => ?_)
  try dsimp only at e150
  refine lv_aload_n hx hb d_law_153 rfl (lv_at hl 2 rfl) ?_
  refine lv_aload_n hx hb d_law_154 rfl (lv_at hl 4 rfl) ?_
  refine lv_iload hx hb d_law_155 (lv_at hl 0 rfl) ?_
  refine lv_iconst (v := 1) hx hb d_law_157 (by decide) ?_
  refine lv_iadd hx hb d_law_158 ?_
  refine lv_topi (fun v158 e158 => ?_)
  refine lw_ld hx hb hX hbl hS hL (j := 7 * tt + 1) (by omega) (by rw [e158, hi]; exact nI_add _ _) hX1 d_law_159 ?_
  refine lv_aload_n hx hb d_law_160 rfl (lv_at hl 4 rfl) ?_
  refine lv_iload hx hb d_law_161 (lv_at hl 0 rfl) ?_
  refine lv_iconst (v := 2) hx hb d_law_163 (by decide) ?_
  refine lv_iadd hx hb d_law_164 ?_
  refine lv_topi (fun v164 e164 => ?_)
  refine lw_ld hx hb hX hbl hS hL (j := 7 * tt + 2) (by omega) (by rw [e164, hi]; exact nI_add _ _) hX2 d_law_165 ?_
  have hPc := hP.sub (ws' := [(q1, .inr (1, [.int th, .long up, .long lo, .long le]))]) [1] rfl
  have hDc := hD.sub (ws' := [(q1, .inr (1, [.int th, .long up, .long lo, .long le]))]) [1] (by decide) rfl
  have hFc := va_free (wc := [(q1, .inr (1, [.int th, .long up, .long lo, .long le]))]) hD hS hA [1] rfl
  have hKc := hK.sub (tys' := []) [] rfl
  refine va_calli (va_runV (As := [.int X1, .int X2]) (rest := [.int v150]) ⟨hx, hb, hml, hown, hts⟩ (c_M_quotient l dC dI q1 H.size th up lo le X1 X2) (cwV 2 hts g_law_40 rfl rfl rfl (by decide +kernel) ⟨Nat.le_of_ble_eq_true rfl, Nat.le_of_ble_eq_true rfl⟩) ⟨fun a U g mk q => by obtain ⟨q0, q1, qP, qK, qD⟩ := q; exact ⟨q0, q1, qP, va_K.moved (u := U) (U := U.calling g mk a) (Vm.Alike.refl U.vm) qK, qD⟩, va_recv hKc hPc (ci := 1) (q0 := 0) rfl rfl, fun U hU hW => ⟨rfl, by rw [hU], by rw [hU]; exact hPc, va_K.moved hW.alike hKc, hDc.weaken (fun _ _ _ _ => trivial)⟩⟩ rfl rfl hl.1 rfl (lv_room (Nat.le_of_ble_eq_true rfl)) d_law_166 ⟨by show _ ≤ 1034; omega, by show _ ≤ 8239; omega⟩) hS (fun q _ h => hFc q h) hFc (fun v166 u t H1 locs ht hvm hw hB hz1 hk1 hS => ?_)
  obtain ⟨th166, up166, lo166, le166⟩ := u
  obtain ⟨hP1, hK1, hD1⟩ := hB
  rw [ht] at hP1
  have e166 := hw
  try dsimp only at e166
  obtain ⟨hP, hD⟩ := va_join (wr := [(q0, .inr (0, [])), (q2, .inl (cA, 1, .inr (.inl f)))]) (w1 := [(q1, .inr (1, [.int th166, .long up166, .long lo166, .long le166]))]) hP hD [1] [0, 2] rfl rfl (by decide) (by decide) hk1 hFc hP1 hD1
  generalize H1 = H at hP hS ⊢
  have hP := hP.sub (ws' := [(q0, .inr (0, [])), (q1, .inr (1, [.int th166, .long up166, .long lo166, .long le166])), (q2, .inl (cA, 1, .inr (.inl f)))]) [0, 2, 1] rfl
  have hD := hD.sub (ws' := [(q0, .inr (0, [])), (q1, .inr (1, [.int th166, .long up166, .long lo166, .long le166])), (q2, .inl (cA, 1, .inr (.inl f)))]) [0, 2, 1] (by decide) rfl
  refine lv_icmp_eq (tgt := 758) hx hb d_law_169 (by decide) (fun c169 => ?_) (fun c169 => absurd (Int32.toInt_inj.mp (e150.trans e166.symm)) c169)
  refine W.widen (k := 4 + tt) (n := 11 + 6 * tt) (by omega) (by omega) ?_
  exact KK th166 up166 lo166 le166 f _ _ _ hP hD hS (lv_sub hl [0, 1, 2, 3, 4] rfl)
set_option maxHeartbeats 8000000 in
set_option maxRecDepth 100000 in
theorem lc_2 {p : Program} {l : Launch} {e : Env} {s : State} {m : MethodId} {below : List Frame} {meth : Method} {c : Code} {dC : Nat → ClassId} {dI : Nat → Nat → Nat} {b L : Nat} {xs : Nat → Int32} (hfl : l.flags = flags0) (hL : L ≤ 3584) (C0 : lw_At p s m meth c b L xs) (hZ : th_Z s.heap.size s) {tt : Nat} (htt : 7 * tt + 7 ≤ L) {q0 q1 q2 : Nat} {cA : ClassId} {th : Int32} {up lo le : Int64} {f : Nat → Int64} {H : Heap} {locs : List Loc} {ls : Array Slot} {iv : Int32} (hi : iv = nI (7 * tt)) (hK : va_K (dC, dI) classes [(cA, .long)] s) (hP : va_P (dC, dI) classes (WX q0 q1 q2 cA th up lo le f) H) (hD : va_D (fun q : Nat => s.heap.size ≤ q) (WX q0 q1 q2 cA th up lo le f)) (hS : va_S (fun q : Nat => s.heap.size ≤ q) s.heap H locs) (hl : lv_has ls 8 [(4, .int iv), (3, .ref q2), (2, .ref q1), (1, .ref q0), (0, .ref b)])
    (KK : ∀ (th : Int32) (up lo le : Int64) (f : Nat → Int64) (H : Heap) (locs : List Loc) (ls : Array Slot), va_P (dC, dI) classes (WX q0 q1 q2 cA th up lo le f) H → va_D (fun q : Nat => s.heap.size ≤ q) (WX q0 q1 q2 cA th up lo le f) → va_S (fun q : Nat => s.heap.size ≤ q) s.heap H locs → lv_has ls 8 [(4, .int iv), (3, .ref q2), (2, .ref q1), (1, .ref q0), (0, .ref b)] → W p l e room_1 s m #[Value.ref b] below meth c H locs (4 + tt) (11 + 6 * tt) (lw_Z below #[Value.ref b] s) (F0 m 758 ls [])) :
    W p l e room_1 s m #[Value.ref b] below meth c H locs (3 + tt) (5 + 6 * tt) (lw_Z below #[Value.ref b] s) (F0 m 174 ls []) := by
  obtain ⟨hx, hb, hr, hml, hown, hts, hX, hbl, hlocks, hgv⟩ := C0
  have hown : s.vm.findClass R_L = some m.cls := hown
  have hA : ∀ q : Nat, s.heap.size ≤ q → (fun q : Nat => s.heap.size ≤ q) q := fun _ h => h
  obtain ⟨X1, hX1⟩ : ∃ y, y = xs (7 * tt + 1) := ⟨_, rfl⟩
  have hP : va_P (dC, dI) classes [(q0, .inr (0, [])), (q1, .inr (1, [.int th, .long up, .long lo, .long le])), (q2, .inl (cA, 1, .inr (.inl f)))] H := hP
  have hD : va_D (fun q : Nat => s.heap.size ≤ q) [(q0, .inr (0, [])), (q1, .inr (1, [.int th, .long up, .long lo, .long le])), (q2, .inl (cA, 1, .inr (.inl f)))] := hD
  refine lv_aload_n hx hb d_law_174 rfl (lv_at hl 3 rfl) ?_
  refine lv_aload_n hx hb d_law_175 rfl (lv_at hl 4 rfl) ?_
  refine lv_iload hx hb d_law_176 (lv_at hl 0 rfl) ?_
  refine lv_iconst (v := 1) hx hb d_law_178 (by decide) ?_
  refine lv_iadd hx hb d_law_179 ?_
  refine lv_topi (fun v179 e179 => ?_)
  refine lw_ld hx hb hX hbl hS hL (j := 7 * tt + 1) (by omega) (by rw [e179, hi]; exact nI_add _ _) hX1 d_law_180 ?_
  refine vp_callSi (W.runV (As := [.int X1]) (rest := []) ⟨hx, hb, hml, hown, hts⟩ (c_F_root l q0 X1) (cwV 1 hts g_law_41 rfl rfl rfl (by decide +kernel) ⟨Nat.le_of_ble_eq_true rfl, Nat.le_of_ble_eq_true rfl⟩) ⟨fun _ _ _ _ q => q, va_recv hK hP (ci := 0) (q0 := 0) rfl rfl, fun _ _ _ => rfl⟩ rfl rfl hl.1 rfl (lv_room (Nat.le_of_ble_eq_true rfl)) d_law_181 ⟨by show _ ≤ 1034; omega, by show _ ≤ 8239; omega⟩) (fun v181 e181 => ?_)
  try dsimp only at e181
  refine lv_aload_n hx hb d_law_184 rfl (lv_at hl 2 rfl) ?_
  refine lv_aload_n hx hb d_law_185 rfl (lv_at hl 4 rfl) ?_
  refine lv_iload hx hb d_law_186 (lv_at hl 0 rfl) ?_
  refine lv_iconst (v := 1) hx hb d_law_188 (by decide) ?_
  refine lv_iadd hx hb d_law_189 ?_
  refine lv_topi (fun v189 e189 => ?_)
  refine lw_ld hx hb hX hbl hS hL (j := 7 * tt + 1) (by omega) (by rw [e189, hi]; exact nI_add _ _) hX1 d_law_190 ?_
  have hPc := hP.sub (ws' := [(q1, .inr (1, [.int th, .long up, .long lo, .long le]))]) [1] rfl
  have hDc := hD.sub (ws' := [(q1, .inr (1, [.int th, .long up, .long lo, .long le]))]) [1] (by decide) rfl
  have hFc := va_free (wc := [(q1, .inr (1, [.int th, .long up, .long lo, .long le]))]) hD hS hA [1] rfl
  have hKc := hK.sub (tys' := []) [] rfl
  refine va_calli (va_runV (As := [.int X1]) (rest := [.int v181]) ⟨hx, hb, hml, hown, hts⟩ (c_M_root l dC dI q1 H.size th up lo le X1) (cwV 1 hts g_law_44 rfl rfl rfl (by decide +kernel) ⟨Nat.le_of_ble_eq_true rfl, Nat.le_of_ble_eq_true rfl⟩) ⟨fun a U g mk q => by obtain ⟨q0, q1, qP, qK, qD⟩ := q; exact ⟨q0, q1, qP, va_K.moved (u := U) (U := U.calling g mk a) (Vm.Alike.refl U.vm) qK, qD⟩, va_recv hKc hPc (ci := 1) (q0 := 0) rfl rfl, fun U hU hW => ⟨rfl, by rw [hU], by rw [hU]; exact hPc, va_K.moved hW.alike hKc, hDc.weaken (fun _ _ _ _ => trivial)⟩⟩ rfl rfl hl.1 rfl (lv_room (Nat.le_of_ble_eq_true rfl)) d_law_191 ⟨by show _ ≤ 1034; omega, by show _ ≤ 8239; omega⟩) hS (fun q _ h => hFc q h) hFc (fun v191 u t H1 locs ht hvm hw hB hz1 hk1 hS => ?_)
  obtain ⟨th191, up191, lo191, le191⟩ := u
  obtain ⟨hP1, hK1, hD1⟩ := hB
  rw [ht] at hP1
  have e191 := hw
  try dsimp only at e191
  obtain ⟨hP, hD⟩ := va_join (wr := [(q0, .inr (0, [])), (q2, .inl (cA, 1, .inr (.inl f)))]) (w1 := [(q1, .inr (1, [.int th191, .long up191, .long lo191, .long le191]))]) hP hD [1] [0, 2] rfl rfl (by decide) (by decide) hk1 hFc hP1 hD1
  generalize H1 = H at hP hS ⊢
  have hP := hP.sub (ws' := [(q0, .inr (0, [])), (q1, .inr (1, [.int th191, .long up191, .long lo191, .long le191])), (q2, .inl (cA, 1, .inr (.inl f)))]) [0, 2, 1] rfl
  have hD := hD.sub (ws' := [(q0, .inr (0, [])), (q1, .inr (1, [.int th191, .long up191, .long lo191, .long le191])), (q2, .inl (cA, 1, .inr (.inl f)))]) [0, 2, 1] (by decide) rfl
  refine lv_icmp_eq (tgt := 758) hx hb d_law_194 (by decide) (fun c194 => ?_) (fun c194 => absurd (Int32.toInt_inj.mp (sp_root_one e181 e191)) c194)
  refine W.widen (k := 4 + tt) (n := 11 + 6 * tt) (by omega) (by omega) ?_
  exact KK th191 up191 lo191 le191 f _ _ _ hP hD hS (lv_sub hl [0, 1, 2, 3, 4] rfl)
set_option maxHeartbeats 8000000 in
set_option maxRecDepth 100000 in
theorem lc_3 {p : Program} {l : Launch} {e : Env} {s : State} {m : MethodId} {below : List Frame} {meth : Method} {c : Code} {dC : Nat → ClassId} {dI : Nat → Nat → Nat} {b L : Nat} {xs : Nat → Int32} (hfl : l.flags = flags0) (hL : L ≤ 3584) (C0 : lw_At p s m meth c b L xs) (hZ : th_Z s.heap.size s) {tt : Nat} (htt : 7 * tt + 7 ≤ L) {q0 q1 q2 : Nat} {cA : ClassId} {th : Int32} {up lo le : Int64} {f : Nat → Int64} {H : Heap} {locs : List Loc} {ls : Array Slot} {iv : Int32} (hi : iv = nI (7 * tt)) (hK : va_K (dC, dI) classes [(cA, .long)] s) (hP : va_P (dC, dI) classes (WX q0 q1 q2 cA th up lo le f) H) (hD : va_D (fun q : Nat => s.heap.size ≤ q) (WX q0 q1 q2 cA th up lo le f)) (hS : va_S (fun q : Nat => s.heap.size ≤ q) s.heap H locs) (hl : lv_has ls 8 [(4, .int iv), (3, .ref q2), (2, .ref q1), (1, .ref q0), (0, .ref b)])
    (KK : ∀ (th : Int32) (up lo le : Int64) (f : Nat → Int64) (H : Heap) (locs : List Loc) (ls : Array Slot), va_P (dC, dI) classes (WX q0 q1 q2 cA th up lo le f) H → va_D (fun q : Nat => s.heap.size ≤ q) (WX q0 q1 q2 cA th up lo le f) → va_S (fun q : Nat => s.heap.size ≤ q) s.heap H locs → lv_has ls 8 [(4, .int iv), (3, .ref q2), (2, .ref q1), (1, .ref q0), (0, .ref b)] → W p l e room_1 s m #[Value.ref b] below meth c H locs (4 + tt) (11 + 6 * tt) (lw_Z below #[Value.ref b] s) (F0 m 758 ls [])) :
    W p l e room_1 s m #[Value.ref b] below meth c H locs (3 + tt) (5 + 6 * tt) (lw_Z below #[Value.ref b] s) (F0 m 199 ls []) := by
  obtain ⟨hx, hb, hr, hml, hown, hts, hX, hbl, hlocks, hgv⟩ := C0
  have hown : s.vm.findClass R_L = some m.cls := hown
  have hA : ∀ q : Nat, s.heap.size ≤ q → (fun q : Nat => s.heap.size ≤ q) q := fun _ h => h
  obtain ⟨X1, hX1⟩ : ∃ y, y = xs (7 * tt + 1) := ⟨_, rfl⟩
  have hP : va_P (dC, dI) classes [(q0, .inr (0, [])), (q1, .inr (1, [.int th, .long up, .long lo, .long le])), (q2, .inl (cA, 1, .inr (.inl f)))] H := hP
  have hD : va_D (fun q : Nat => s.heap.size ≤ q) [(q0, .inr (0, [])), (q1, .inr (1, [.int th, .long up, .long lo, .long le])), (q2, .inl (cA, 1, .inr (.inl f)))] := hD
  refine lv_aload_n hx hb d_law_199 rfl (lv_at hl 3 rfl) ?_
  refine lv_aload_n hx hb d_law_200 rfl (lv_at hl 4 rfl) ?_
  refine lv_iload hx hb d_law_201 (lv_at hl 0 rfl) ?_
  refine lv_iconst (v := 1) hx hb d_law_203 (by decide) ?_
  refine lv_iadd hx hb d_law_204 ?_
  refine lv_topi (fun v204 e204 => ?_)
  refine lw_ld hx hb hX hbl hS hL (j := 7 * tt + 1) (by omega) (by rw [e204, hi]; exact nI_add _ _) hX1 d_law_205 ?_
  refine vp_callSi (W.runV (As := [.int X1]) (rest := []) ⟨hx, hb, hml, hown, hts⟩ (c_F_oneByRoot l q0 X1) (cwV 1 hts g_law_45 rfl rfl rfl (by decide +kernel) ⟨Nat.le_of_ble_eq_true rfl, Nat.le_of_ble_eq_true rfl⟩) ⟨fun _ _ _ _ q => q, va_recv hK hP (ci := 0) (q0 := 0) rfl rfl, fun _ _ _ => rfl⟩ rfl rfl hl.1 rfl (lv_room (Nat.le_of_ble_eq_true rfl)) d_law_206 ⟨by show _ ≤ 1034; omega, by show _ ≤ 8239; omega⟩) (fun v206 e206 => ?_)
  try dsimp only at e206
  refine lv_aload_n hx hb d_law_209 rfl (lv_at hl 2 rfl) ?_
  refine lv_aload_n hx hb d_law_210 rfl (lv_at hl 4 rfl) ?_
  refine lv_iload hx hb d_law_211 (lv_at hl 0 rfl) ?_
  refine lv_iconst (v := 1) hx hb d_law_213 (by decide) ?_
  refine lv_iadd hx hb d_law_214 ?_
  refine lv_topi (fun v214 e214 => ?_)
  refine lw_ld hx hb hX hbl hS hL (j := 7 * tt + 1) (by omega) (by rw [e214, hi]; exact nI_add _ _) hX1 d_law_215 ?_
  have hPc := hP.sub (ws' := [(q1, .inr (1, [.int th, .long up, .long lo, .long le]))]) [1] rfl
  have hDc := hD.sub (ws' := [(q1, .inr (1, [.int th, .long up, .long lo, .long le]))]) [1] (by decide) rfl
  have hFc := va_free (wc := [(q1, .inr (1, [.int th, .long up, .long lo, .long le]))]) hD hS hA [1] rfl
  have hKc := hK.sub (tys' := []) [] rfl
  refine va_calli (va_runV (As := [.int X1]) (rest := [.int v206]) ⟨hx, hb, hml, hown, hts⟩ (c_M_oneByRoot l dC dI q1 H.size th up lo le X1) (cwV 1 hts g_law_48 rfl rfl rfl (by decide +kernel) ⟨Nat.le_of_ble_eq_true rfl, Nat.le_of_ble_eq_true rfl⟩) ⟨fun a U g mk q => by obtain ⟨q0, q1, qP, qK, qD⟩ := q; exact ⟨q0, q1, qP, va_K.moved (u := U) (U := U.calling g mk a) (Vm.Alike.refl U.vm) qK, qD⟩, va_recv hKc hPc (ci := 1) (q0 := 0) rfl rfl, fun U hU hW => ⟨rfl, by rw [hU], by rw [hU]; exact hPc, va_K.moved hW.alike hKc, hDc.weaken (fun _ _ _ _ => trivial)⟩⟩ rfl rfl hl.1 rfl (lv_room (Nat.le_of_ble_eq_true rfl)) d_law_216 ⟨by show _ ≤ 1034; omega, by show _ ≤ 8239; omega⟩) hS (fun q _ h => hFc q h) hFc (fun v216 u t H1 locs ht hvm hw hB hz1 hk1 hS => ?_)
  obtain ⟨th216, up216, lo216, le216⟩ := u
  obtain ⟨hP1, hK1, hD1⟩ := hB
  rw [ht] at hP1
  have e216 := hw
  try dsimp only at e216
  obtain ⟨hP, hD⟩ := va_join (wr := [(q0, .inr (0, [])), (q2, .inl (cA, 1, .inr (.inl f)))]) (w1 := [(q1, .inr (1, [.int th216, .long up216, .long lo216, .long le216]))]) hP hD [1] [0, 2] rfl rfl (by decide) (by decide) hk1 hFc hP1 hD1
  generalize H1 = H at hP hS ⊢
  have hP := hP.sub (ws' := [(q0, .inr (0, [])), (q1, .inr (1, [.int th216, .long up216, .long lo216, .long le216])), (q2, .inl (cA, 1, .inr (.inl f)))]) [0, 2, 1] rfl
  have hD := hD.sub (ws' := [(q0, .inr (0, [])), (q1, .inr (1, [.int th216, .long up216, .long lo216, .long le216])), (q2, .inl (cA, 1, .inr (.inl f)))]) [0, 2, 1] (by decide) rfl
  refine lv_icmp_eq (tgt := 758) hx hb d_law_219 (by decide) (fun c219 => ?_) (fun c219 => absurd (Int32.toInt_inj.mp (sp_obr_one e206 e216)) c219)
  refine W.widen (k := 4 + tt) (n := 11 + 6 * tt) (by omega) (by omega) ?_
  exact KK th216 up216 lo216 le216 f _ _ _ hP hD hS (lv_sub hl [0, 1, 2, 3, 4] rfl)
set_option maxHeartbeats 8000000 in
set_option maxRecDepth 100000 in
theorem lc_6 {p : Program} {l : Launch} {e : Env} {s : State} {m : MethodId} {below : List Frame} {meth : Method} {c : Code} {dC : Nat → ClassId} {dI : Nat → Nat → Nat} {b L : Nat} {xs : Nat → Int32} (hfl : l.flags = flags0) (hL : L ≤ 3584) (C0 : lw_At p s m meth c b L xs) (hZ : th_Z s.heap.size s) {tt : Nat} (htt : 7 * tt + 7 ≤ L) {q0 q1 q2 : Nat} {cA : ClassId} {th : Int32} {up lo le : Int64} {f : Nat → Int64} {H : Heap} {locs : List Loc} {ls : Array Slot} {iv : Int32} (hi : iv = nI (7 * tt)) (hK : va_K (dC, dI) classes [(cA, .long)] s) (hP : va_P (dC, dI) classes (WX q0 q1 q2 cA th up lo le f) H) (hD : va_D (fun q : Nat => s.heap.size ≤ q) (WX q0 q1 q2 cA th up lo le f)) (hS : va_S (fun q : Nat => s.heap.size ≤ q) s.heap H locs) (hl : lv_has ls 8 [(4, .int iv), (3, .ref q2), (2, .ref q1), (1, .ref q0), (0, .ref b)])
    (KK : ∀ (th : Int32) (up lo le : Int64) (f : Nat → Int64) (H : Heap) (locs : List Loc) (ls : Array Slot), va_P (dC, dI) classes (WX q0 q1 q2 cA th up lo le f) H → va_D (fun q : Nat => s.heap.size ≤ q) (WX q0 q1 q2 cA th up lo le f) → va_S (fun q : Nat => s.heap.size ≤ q) s.heap H locs → lv_has ls 8 [(4, .int iv), (3, .ref q2), (2, .ref q1), (1, .ref q0), (0, .ref b)] → W p l e room_1 s m #[Value.ref b] below meth c H locs (4 + tt) (11 + 6 * tt) (lw_Z below #[Value.ref b] s) (F0 m 758 ls [])) :
    W p l e room_1 s m #[Value.ref b] below meth c H locs (3 + tt) (5 + 6 * tt) (lw_Z below #[Value.ref b] s) (F0 m 559 ls []) := by
  obtain ⟨hx, hb, hr, hml, hown, hts, hX, hbl, hlocks, hgv⟩ := C0
  have hown : s.vm.findClass R_L = some m.cls := hown
  have hA : ∀ q : Nat, s.heap.size ≤ q → (fun q : Nat => s.heap.size ≤ q) q := fun _ h => h
  obtain ⟨X1, hX1⟩ : ∃ y, y = xs (7 * tt + 1) := ⟨_, rfl⟩
  have hP : va_P (dC, dI) classes [(q0, .inr (0, [])), (q1, .inr (1, [.int th, .long up, .long lo, .long le])), (q2, .inl (cA, 1, .inr (.inl f)))] H := hP
  have hD : va_D (fun q : Nat => s.heap.size ≤ q) [(q0, .inr (0, [])), (q1, .inr (1, [.int th, .long up, .long lo, .long le])), (q2, .inl (cA, 1, .inr (.inl f)))] := hD
  refine lv_aload_n hx hb d_law_559 rfl (lv_at hl 3 rfl) ?_
  refine lv_aload_n hx hb d_law_560 rfl (lv_at hl 4 rfl) ?_
  refine lv_iload hx hb d_law_561 (lv_at hl 0 rfl) ?_
  refine lv_iconst (v := 1) hx hb d_law_563 (by decide) ?_
  refine lv_iadd hx hb d_law_564 ?_
  refine lv_topi (fun v564 e564 => ?_)
  refine lw_ld hx hb hX hbl hS hL (j := 7 * tt + 1) (by omega) (by rw [e564, hi]; exact nI_add _ _) hX1 d_law_565 ?_
  refine vp_callSi (W.runV (As := [.int X1]) (rest := []) ⟨hx, hb, hml, hown, hts⟩ (c_F_channel l q0 X1) (cwV 1 hts g_law_65 rfl rfl rfl (by decide +kernel) ⟨Nat.le_of_ble_eq_true rfl, Nat.le_of_ble_eq_true rfl⟩) ⟨fun _ _ _ _ q => q, va_recv hK hP (ci := 0) (q0 := 0) rfl rfl, fun _ _ _ => rfl⟩ rfl rfl hl.1 rfl (lv_room (Nat.le_of_ble_eq_true rfl)) d_law_566 ⟨by show _ ≤ 1034; omega, by show _ ≤ 8239; omega⟩) (fun v566 e566 => ?_)
  try dsimp only at e566
  refine lv_aload_n hx hb d_law_569 rfl (lv_at hl 2 rfl) ?_
  refine lv_aload_n hx hb d_law_570 rfl (lv_at hl 4 rfl) ?_
  refine lv_iload hx hb d_law_571 (lv_at hl 0 rfl) ?_
  refine lv_iconst (v := 1) hx hb d_law_573 (by decide) ?_
  refine lv_iadd hx hb d_law_574 ?_
  refine lv_topi (fun v574 e574 => ?_)
  refine lw_ld hx hb hX hbl hS hL (j := 7 * tt + 1) (by omega) (by rw [e574, hi]; exact nI_add _ _) hX1 d_law_575 ?_
  have hPc := hP.sub (ws' := [(q1, .inr (1, [.int th, .long up, .long lo, .long le]))]) [1] rfl
  have hDc := hD.sub (ws' := [(q1, .inr (1, [.int th, .long up, .long lo, .long le]))]) [1] (by decide) rfl
  have hFc := va_free (wc := [(q1, .inr (1, [.int th, .long up, .long lo, .long le]))]) hD hS hA [1] rfl
  have hKc := hK.sub (tys' := []) [] rfl
  refine va_calli (va_runV (As := [.int X1]) (rest := [.int v566]) ⟨hx, hb, hml, hown, hts⟩ (c_M_channel l dC dI q1 H.size th up lo le X1) (cwV 1 hts g_law_68 rfl rfl rfl (by decide +kernel) ⟨Nat.le_of_ble_eq_true rfl, Nat.le_of_ble_eq_true rfl⟩) ⟨fun a U g mk q => by obtain ⟨q0, q1, qP, qK, qD⟩ := q; exact ⟨q0, q1, qP, va_K.moved (u := U) (U := U.calling g mk a) (Vm.Alike.refl U.vm) qK, qD⟩, va_recv hKc hPc (ci := 1) (q0 := 0) rfl rfl, fun U hU hW => ⟨rfl, by rw [hU], by rw [hU]; exact hPc, va_K.moved hW.alike hKc, hDc.weaken (fun _ _ _ _ => trivial)⟩⟩ rfl rfl hl.1 rfl (lv_room (Nat.le_of_ble_eq_true rfl)) d_law_576 ⟨by show _ ≤ 1034; omega, by show _ ≤ 8239; omega⟩) hS (fun q _ h => hFc q h) hFc (fun v576 u t H1 locs ht hvm hw hB hz1 hk1 hS => ?_)
  obtain ⟨th576, up576, lo576, le576⟩ := u
  obtain ⟨hP1, hK1, hD1⟩ := hB
  rw [ht] at hP1
  have e576 := hw
  try dsimp only at e576
  obtain ⟨hP, hD⟩ := va_join (wr := [(q0, .inr (0, [])), (q2, .inl (cA, 1, .inr (.inl f)))]) (w1 := [(q1, .inr (1, [.int th576, .long up576, .long lo576, .long le576]))]) hP hD [1] [0, 2] rfl rfl (by decide) (by decide) hk1 hFc hP1 hD1
  generalize H1 = H at hP hS ⊢
  have hP := hP.sub (ws' := [(q0, .inr (0, [])), (q1, .inr (1, [.int th576, .long up576, .long lo576, .long le576])), (q2, .inl (cA, 1, .inr (.inl f)))]) [0, 2, 1] rfl
  have hD := hD.sub (ws' := [(q0, .inr (0, [])), (q1, .inr (1, [.int th576, .long up576, .long lo576, .long le576])), (q2, .inl (cA, 1, .inr (.inl f)))]) [0, 2, 1] (by decide) rfl
  refine lv_icmp_eq (tgt := 758) hx hb d_law_579 (by decide) (fun c579 => ?_) (fun c579 => absurd (Int32.toInt_inj.mp (e566.trans e576.symm)) c579)
  refine W.widen (k := 4 + tt) (n := 11 + 6 * tt) (by omega) (by omega) ?_
  exact KK th576 up576 lo576 le576 f _ _ _ hP hD hS (lv_sub hl [0, 1, 2, 3, 4] rfl)
set_option maxHeartbeats 8000000 in
set_option maxRecDepth 100000 in
theorem lc_9 {p : Program} {l : Launch} {e : Env} {s : State} {m : MethodId} {below : List Frame} {meth : Method} {c : Code} {dC : Nat → ClassId} {dI : Nat → Nat → Nat} {b L : Nat} {xs : Nat → Int32} (hfl : l.flags = flags0) (hL : L ≤ 3584) (C0 : lw_At p s m meth c b L xs) (hZ : th_Z s.heap.size s) {tt : Nat} (htt : 7 * tt + 7 ≤ L) {q0 q1 q2 : Nat} {cA : ClassId} {th : Int32} {up lo le : Int64} {f : Nat → Int64} {H : Heap} {locs : List Loc} {ls : Array Slot} {iv : Int32} (hi : iv = nI (7 * tt)) (hK : va_K (dC, dI) classes [(cA, .long)] s) (hP : va_P (dC, dI) classes (WX q0 q1 q2 cA th up lo le f) H) (hD : va_D (fun q : Nat => s.heap.size ≤ q) (WX q0 q1 q2 cA th up lo le f)) (hS : va_S (fun q : Nat => s.heap.size ≤ q) s.heap H locs) (hl : lv_has ls 8 [(4, .int iv), (3, .ref q2), (2, .ref q1), (1, .ref q0), (0, .ref b)])
    (KK : ∀ (th : Int32) (up lo le : Int64) (f : Nat → Int64) (H : Heap) (locs : List Loc) (ls : Array Slot), va_P (dC, dI) classes (WX q0 q1 q2 cA th up lo le f) H → va_D (fun q : Nat => s.heap.size ≤ q) (WX q0 q1 q2 cA th up lo le f) → va_S (fun q : Nat => s.heap.size ≤ q) s.heap H locs → lv_has ls 8 [(4, .int iv), (3, .ref q2), (2, .ref q1), (1, .ref q0), (0, .ref b)] → W p l e room_1 s m #[Value.ref b] below meth c H locs (4 + tt) (11 + 6 * tt) (lw_Z below #[Value.ref b] s) (F0 m 758 ls [])) :
    W p l e room_1 s m #[Value.ref b] below meth c H locs (3 + tt) (5 + 6 * tt) (lw_Z below #[Value.ref b] s) (F0 m 708 ls []) := by
  obtain ⟨hx, hb, hr, hml, hown, hts, hX, hbl, hlocks, hgv⟩ := C0
  have hown : s.vm.findClass R_L = some m.cls := hown
  have hA : ∀ q : Nat, s.heap.size ≤ q → (fun q : Nat => s.heap.size ≤ q) q := fun _ h => h
  obtain ⟨X1, hX1⟩ : ∃ y, y = xs (7 * tt + 1) := ⟨_, rfl⟩
  have hP : va_P (dC, dI) classes [(q0, .inr (0, [])), (q1, .inr (1, [.int th, .long up, .long lo, .long le])), (q2, .inl (cA, 1, .inr (.inl f)))] H := hP
  have hD : va_D (fun q : Nat => s.heap.size ≤ q) [(q0, .inr (0, [])), (q1, .inr (1, [.int th, .long up, .long lo, .long le])), (q2, .inl (cA, 1, .inr (.inl f)))] := hD
  refine lv_aload_n hx hb d_law_708 rfl (lv_at hl 3 rfl) ?_
  refine lv_aload_n hx hb d_law_709 rfl (lv_at hl 4 rfl) ?_
  refine lv_iload hx hb d_law_710 (lv_at hl 0 rfl) ?_
  refine lv_iconst (v := 1) hx hb d_law_712 (by decide) ?_
  refine lv_iadd hx hb d_law_713 ?_
  refine lv_topi (fun v713 e713 => ?_)
  refine lw_ld hx hb hX hbl hS hL (j := 7 * tt + 1) (by omega) (by rw [e713, hi]; exact nI_add _ _) hX1 d_law_714 ?_
  refine vp_callSi (W.runV (As := [.int X1]) (rest := []) ⟨hx, hb, hml, hown, hts⟩ (c_F_fromHalf l q0 X1) (cwV 1 hts g_law_77 rfl rfl rfl (by decide +kernel) ⟨Nat.le_of_ble_eq_true rfl, Nat.le_of_ble_eq_true rfl⟩) ⟨fun _ _ _ _ q => q, va_recv hK hP (ci := 0) (q0 := 0) rfl rfl, fun _ _ _ => rfl⟩ rfl rfl hl.1 rfl (lv_room (Nat.le_of_ble_eq_true rfl)) d_law_715 ⟨by show _ ≤ 1034; omega, by show _ ≤ 8239; omega⟩) (fun v715 e715 => ?_)
  try dsimp only at e715
  refine lv_aload_n hx hb d_law_718 rfl (lv_at hl 2 rfl) ?_
  refine lv_aload_n hx hb d_law_719 rfl (lv_at hl 4 rfl) ?_
  refine lv_iload hx hb d_law_720 (lv_at hl 0 rfl) ?_
  refine lv_iconst (v := 1) hx hb d_law_722 (by decide) ?_
  refine lv_iadd hx hb d_law_723 ?_
  refine lv_topi (fun v723 e723 => ?_)
  refine lw_ld hx hb hX hbl hS hL (j := 7 * tt + 1) (by omega) (by rw [e723, hi]; exact nI_add _ _) hX1 d_law_724 ?_
  have hPc := hP.sub (ws' := [(q1, .inr (1, [.int th, .long up, .long lo, .long le]))]) [1] rfl
  have hDc := hD.sub (ws' := [(q1, .inr (1, [.int th, .long up, .long lo, .long le]))]) [1] (by decide) rfl
  have hFc := va_free (wc := [(q1, .inr (1, [.int th, .long up, .long lo, .long le]))]) hD hS hA [1] rfl
  have hKc := hK.sub (tys' := []) [] rfl
  refine va_calli (va_runV (As := [.int X1]) (rest := [.int v715]) ⟨hx, hb, hml, hown, hts⟩ (c_M_fromHalf l dC dI q1 H.size th up lo le X1) (cwV 1 hts g_law_80 rfl rfl rfl (by decide +kernel) ⟨Nat.le_of_ble_eq_true rfl, Nat.le_of_ble_eq_true rfl⟩) ⟨fun a U g mk q => by obtain ⟨q0, q1, qP, qK, qD⟩ := q; exact ⟨q0, q1, qP, va_K.moved (u := U) (U := U.calling g mk a) (Vm.Alike.refl U.vm) qK, qD⟩, va_recv hKc hPc (ci := 1) (q0 := 0) rfl rfl, fun U hU hW => ⟨rfl, by rw [hU], by rw [hU]; exact hPc, va_K.moved hW.alike hKc, hDc.weaken (fun _ _ _ _ => trivial)⟩⟩ rfl rfl hl.1 rfl (lv_room (Nat.le_of_ble_eq_true rfl)) d_law_725 ⟨by show _ ≤ 1034; omega, by show _ ≤ 8239; omega⟩) hS (fun q _ h => hFc q h) hFc (fun v725 u t H1 locs ht hvm hw hB hz1 hk1 hS => ?_)
  obtain ⟨th725, up725, lo725, le725⟩ := u
  obtain ⟨hP1, hK1, hD1⟩ := hB
  rw [ht] at hP1
  have e725 := hw
  try dsimp only at e725
  obtain ⟨hP, hD⟩ := va_join (wr := [(q0, .inr (0, [])), (q2, .inl (cA, 1, .inr (.inl f)))]) (w1 := [(q1, .inr (1, [.int th725, .long up725, .long lo725, .long le725]))]) hP hD [1] [0, 2] rfl rfl (by decide) (by decide) hk1 hFc hP1 hD1
  generalize H1 = H at hP hS ⊢
  have hP := hP.sub (ws' := [(q0, .inr (0, [])), (q1, .inr (1, [.int th725, .long up725, .long lo725, .long le725])), (q2, .inl (cA, 1, .inr (.inl f)))]) [0, 2, 1] rfl
  have hD := hD.sub (ws' := [(q0, .inr (0, [])), (q1, .inr (1, [.int th725, .long up725, .long lo725, .long le725])), (q2, .inl (cA, 1, .inr (.inl f)))]) [0, 2, 1] (by decide) rfl
  refine lv_icmp_eq (tgt := 758) hx hb d_law_728 (by decide) (fun c728 => ?_) (fun c728 => absurd (Int32.toInt_inj.mp (e715.trans e725.symm)) c728)
  refine W.widen (k := 4 + tt) (n := 11 + 6 * tt) (by omega) (by omega) ?_
  exact KK th725 up725 lo725 le725 f _ _ _ hP hD hS (lv_sub hl [0, 1, 2, 3, 4] rfl)
set_option maxHeartbeats 8000000 in
set_option maxRecDepth 100000 in
theorem lc_10 {p : Program} {l : Launch} {e : Env} {s : State} {m : MethodId} {below : List Frame} {meth : Method} {c : Code} {dC : Nat → ClassId} {dI : Nat → Nat → Nat} {b L : Nat} {xs : Nat → Int32} (hfl : l.flags = flags0) (hL : L ≤ 3584) (C0 : lw_At p s m meth c b L xs) (hZ : th_Z s.heap.size s) {tt : Nat} (htt : 7 * tt + 7 ≤ L) {q0 q1 q2 : Nat} {cA : ClassId} {th : Int32} {up lo le : Int64} {f : Nat → Int64} {H : Heap} {locs : List Loc} {ls : Array Slot} {iv : Int32} (hi : iv = nI (7 * tt)) (hK : va_K (dC, dI) classes [(cA, .long)] s) (hP : va_P (dC, dI) classes (WX q0 q1 q2 cA th up lo le f) H) (hD : va_D (fun q : Nat => s.heap.size ≤ q) (WX q0 q1 q2 cA th up lo le f)) (hS : va_S (fun q : Nat => s.heap.size ≤ q) s.heap H locs) (hl : lv_has ls 8 [(4, .int iv), (3, .ref q2), (2, .ref q1), (1, .ref q0), (0, .ref b)])
    (KK : ∀ (th : Int32) (up lo le : Int64) (f : Nat → Int64) (H : Heap) (locs : List Loc) (ls : Array Slot), va_P (dC, dI) classes (WX q0 q1 q2 cA th up lo le f) H → va_D (fun q : Nat => s.heap.size ≤ q) (WX q0 q1 q2 cA th up lo le f) → va_S (fun q : Nat => s.heap.size ≤ q) s.heap H locs → lv_has ls 8 [(4, .int iv), (3, .ref q2), (2, .ref q1), (1, .ref q0), (0, .ref b)] → W p l e room_1 s m #[Value.ref b] below meth c H locs (4 + tt) (11 + 6 * tt) (lw_Z below #[Value.ref b] s) (F0 m 758 ls [])) :
    W p l e room_1 s m #[Value.ref b] below meth c H locs (3 + tt) (5 + 6 * tt) (lw_Z below #[Value.ref b] s) (F0 m 733 ls []) := by
  obtain ⟨hx, hb, hr, hml, hown, hts, hX, hbl, hlocks, hgv⟩ := C0
  have hown : s.vm.findClass R_L = some m.cls := hown
  have hA : ∀ q : Nat, s.heap.size ≤ q → (fun q : Nat => s.heap.size ≤ q) q := fun _ h => h
  obtain ⟨X1, hX1⟩ : ∃ y, y = xs (7 * tt + 1) := ⟨_, rfl⟩
  have hP : va_P (dC, dI) classes [(q0, .inr (0, [])), (q1, .inr (1, [.int th, .long up, .long lo, .long le])), (q2, .inl (cA, 1, .inr (.inl f)))] H := hP
  have hD : va_D (fun q : Nat => s.heap.size ≤ q) [(q0, .inr (0, [])), (q1, .inr (1, [.int th, .long up, .long lo, .long le])), (q2, .inl (cA, 1, .inr (.inl f)))] := hD
  refine lv_aload_n hx hb d_law_733 rfl (lv_at hl 3 rfl) ?_
  refine lv_aload_n hx hb d_law_734 rfl (lv_at hl 4 rfl) ?_
  refine lv_iload hx hb d_law_735 (lv_at hl 0 rfl) ?_
  refine lv_iconst (v := 1) hx hb d_law_737 (by decide) ?_
  refine lv_iadd hx hb d_law_738 ?_
  refine lv_topi (fun v738 e738 => ?_)
  refine lw_ld hx hb hX hbl hS hL (j := 7 * tt + 1) (by omega) (by rw [e738, hi]; exact nI_add _ _) hX1 d_law_739 ?_
  refine vp_callSi (W.runV (As := [.int X1]) (rest := []) ⟨hx, hb, hml, hown, hts⟩ (c_F_toHalf l q0 X1) (cwV 1 hts g_law_81 rfl rfl rfl (by decide +kernel) ⟨Nat.le_of_ble_eq_true rfl, Nat.le_of_ble_eq_true rfl⟩) ⟨fun _ _ _ _ q => q, va_recv hK hP (ci := 0) (q0 := 0) rfl rfl, fun _ _ _ => rfl⟩ rfl rfl hl.1 rfl (lv_room (Nat.le_of_ble_eq_true rfl)) d_law_740 ⟨by show _ ≤ 1034; omega, by show _ ≤ 8239; omega⟩) (fun v740 e740 => ?_)
  try dsimp only at e740
  refine lv_aload_n hx hb d_law_743 rfl (lv_at hl 2 rfl) ?_
  refine lv_aload_n hx hb d_law_744 rfl (lv_at hl 4 rfl) ?_
  refine lv_iload hx hb d_law_745 (lv_at hl 0 rfl) ?_
  refine lv_iconst (v := 1) hx hb d_law_747 (by decide) ?_
  refine lv_iadd hx hb d_law_748 ?_
  refine lv_topi (fun v748 e748 => ?_)
  refine lw_ld hx hb hX hbl hS hL (j := 7 * tt + 1) (by omega) (by rw [e748, hi]; exact nI_add _ _) hX1 d_law_749 ?_
  have hPc := hP.sub (ws' := [(q1, .inr (1, [.int th, .long up, .long lo, .long le]))]) [1] rfl
  have hDc := hD.sub (ws' := [(q1, .inr (1, [.int th, .long up, .long lo, .long le]))]) [1] (by decide) rfl
  have hFc := va_free (wc := [(q1, .inr (1, [.int th, .long up, .long lo, .long le]))]) hD hS hA [1] rfl
  have hKc := hK.sub (tys' := []) [] rfl
  refine va_calli (va_runV (As := [.int X1]) (rest := [.int v740]) ⟨hx, hb, hml, hown, hts⟩ (c_M_toHalf l dC dI q1 H.size th up lo le X1) (cwV 1 hts g_law_84 rfl rfl rfl (by decide +kernel) ⟨Nat.le_of_ble_eq_true rfl, Nat.le_of_ble_eq_true rfl⟩) ⟨fun a U g mk q => by obtain ⟨q0, q1, qP, qK, qD⟩ := q; exact ⟨q0, q1, qP, va_K.moved (u := U) (U := U.calling g mk a) (Vm.Alike.refl U.vm) qK, qD⟩, va_recv hKc hPc (ci := 1) (q0 := 0) rfl rfl, fun U hU hW => ⟨rfl, by rw [hU], by rw [hU]; exact hPc, va_K.moved hW.alike hKc, hDc.weaken (fun _ _ _ _ => trivial)⟩⟩ rfl rfl hl.1 rfl (lv_room (Nat.le_of_ble_eq_true rfl)) d_law_750 ⟨by show _ ≤ 1034; omega, by show _ ≤ 8239; omega⟩) hS (fun q _ h => hFc q h) hFc (fun v750 u t H1 locs ht hvm hw hB hz1 hk1 hS => ?_)
  obtain ⟨th750, up750, lo750, le750⟩ := u
  obtain ⟨hP1, hK1, hD1⟩ := hB
  rw [ht] at hP1
  have e750 := hw
  try dsimp only at e750
  obtain ⟨hP, hD⟩ := va_join (wr := [(q0, .inr (0, [])), (q2, .inl (cA, 1, .inr (.inl f)))]) (w1 := [(q1, .inr (1, [.int th750, .long up750, .long lo750, .long le750]))]) hP hD [1] [0, 2] rfl rfl (by decide) (by decide) hk1 hFc hP1 hD1
  generalize H1 = H at hP hS ⊢
  have hP := hP.sub (ws' := [(q0, .inr (0, [])), (q1, .inr (1, [.int th750, .long up750, .long lo750, .long le750])), (q2, .inl (cA, 1, .inr (.inl f)))]) [0, 2, 1] rfl
  have hD := hD.sub (ws' := [(q0, .inr (0, [])), (q1, .inr (1, [.int th750, .long up750, .long lo750, .long le750])), (q2, .inl (cA, 1, .inr (.inl f)))]) [0, 2, 1] (by decide) rfl
  refine lv_icmp_eq (tgt := 758) hx hb d_law_753 (by decide) (fun c753 => ?_) (fun c753 => absurd (e740.trans e750.symm) c753)
  refine W.widen (k := 4 + tt) (n := 11 + 6 * tt) (by omega) (by omega) ?_
  exact KK th750 up750 lo750 le750 f _ _ _ hP hD hS (lv_sub hl [0, 1, 2, 3, 4] rfl)
