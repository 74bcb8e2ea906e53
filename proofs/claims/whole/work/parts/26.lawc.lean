set_option maxHeartbeats 8000000 in
set_option maxRecDepth 100000 in
theorem law_loop {p : Program} {l : Launch} {e : Env} {s : State} {m : MethodId} {below : List Frame} {meth : Method} {c : Code} {dC : Nat → ClassId} {dI : Nat → Nat → Nat} {b L : Nat} {xs : Nat → Int32} (hfl : l.flags = flags0) (hL : L ≤ 3584) (C0 : lw_At p s m meth c b L xs) (hZ : th_Z s.heap.size s) :
    ∀ (n tt : Nat) (iv : Int32), 7 * tt ≤ L → L + 1 ≤ 7 * tt + n → iv = nI (7 * tt) → ∀ (q0 q1 q2 : Nat) (cA : ClassId) (th : Int32) (up lo le : Int64) (f : Nat → Int64) (H : Heap) (locs : List Loc), va_K (dC, dI) classes [(cA, .long)] s → va_P (dC, dI) classes (WX q0 q1 q2 cA th up lo le f) H → va_D (fun q : Nat => s.heap.size ≤ q) (WX q0 q1 q2 cA th up lo le f) → va_S (fun q : Nat => s.heap.size ≤ q) s.heap H locs → ∀ (ls : Array Slot), lv_has ls 8 [(4, .int iv), (3, .ref q2), (2, .ref q1), (1, .ref q0), (0, .ref b)] → W p l e room_1 s m #[Value.ref b] below meth c H locs (3 + tt) (5 + 6 * tt) (lw_Z below #[Value.ref b] s) (F0 m 23 ls []) := by
  obtain ⟨hx, hb, hr, hml, hown, hts, hX, hbl, hlocks, hgv⟩ := id C0
  have hbA : ¬ (fun q : Nat => s.heap.size ≤ q) b := Nat.not_le.mpr hbl
  intro n
  induction n with
  | zero =>
    intro tt iv h1 h2
    exact absurd h2 (by omega)
  | succ n ih =>
    intro tt iv ht1 ht2 hi q0 q1 q2 cA th up lo le f H locs hK hP hD hS ls hl
    refine lv_iload hx hb d_law_23 (lv_at hl 0 rfl) ?_
    refine lv_aload_n hx hb d_law_25 rfl (lv_at hl 4 rfl) ?_
    refine va_slen hx hb hX hbl hbA hS d_law_26 ?_
    refine lv_bipush (v := 7) hx hb d_law_27 (by decide) ?_
    refine lv_isub hx hb d_law_29 ?_
    refine lv_topi (fun v29 e29 => ?_)
    have e29i : v29.toInt = (L : Int) - 7 := by rw [e29]; exact pk_sub_toInt (a := L) (b := 7) (by omega) (by decide)
    have hii : iv.toInt = ((7 * tt : Nat) : Int) := by rw [hi]; exact nI_toInt (by omega)
    refine lv_icmp_gt (tgt := 764) hx hb d_law_30 (by decide) (fun c30 => ?_) (fun c30 => ?_)
    · refine lv_iconst (v := 1) hx hb d_law_764 (by decide) ?_
      refine va_forget (fun q hq => hS.2.2 q hq) ?_
      refine W.widen (k := 1034) (n := 8239) (by omega) (by omega) ?_
      exact lw_ret hx hb hr hlocks d_law_765
    · rw [Int32.lt_iff_toInt_lt, e29i, hii] at c30
      have htt : 7 * tt + 7 ≤ L := by omega
      refine lv_aload_n hx hb d_law_33 rfl (lv_at hl 4 rfl) ?_
      refine lv_iload hx hb d_law_34 (lv_at hl 0 rfl) ?_
      refine lw_ld hx hb hX hbl hS hL (j := 7 * tt) (by omega) hi rfl d_law_36 ?_
      refine lv_bipush (v := 15) hx hb d_law_37 (by decide) ?_
      refine lv_iand hx hb d_law_39 ?_
      have KK : ∀ (th : Int32) (up lo le : Int64) (f : Nat → Int64) (H : Heap) (locs : List Loc) (ls : Array Slot), va_P (dC, dI) classes (WX q0 q1 q2 cA th up lo le f) H → va_D (fun q : Nat => s.heap.size ≤ q) (WX q0 q1 q2 cA th up lo le f) → va_S (fun q : Nat => s.heap.size ≤ q) s.heap H locs → lv_has ls 8 [(4, .int iv), (3, .ref q2), (2, .ref q1), (1, .ref q0), (0, .ref b)] → W p l e room_1 s m #[Value.ref b] below meth c H locs (4 + tt) (11 + 6 * tt) (lw_Z below #[Value.ref b] s) (F0 m 758 ls []) := by
        intro th up lo le f H locs ls hP hD hS hl
        obtain ⟨v758, e758⟩ : ∃ y : Int32, y = iv + Int32.ofInt 7 := ⟨_, rfl⟩
        refine lv_iinc (v := v758) (lv' := [(4, .int v758), (3, .ref q2), (2, .ref q1), (1, .ref q0), (0, .ref b)]) hx hb d_law_758 hl (k := 0) rfl (by rw [e758]) (by decide) rfl (fun ls hl => ?_)
        refine lv_goto (tgt := 23) hx hb d_law_761 (by decide) ?_
        refine W.widen (k := 3 + (tt + 1)) (n := 5 + 6 * (tt + 1)) (by omega) (by omega) ?_
        exact ih (tt + 1) v758 (by omega) (by omega) (by rw [e758, hi]; exact nI_add (7 * tt) 7) q0 q1 q2 cA th up lo le f H locs hK hP hD hS ls hl
      obtain ⟨j, hj, hje⟩ := pk_andE (xs (7 * tt)) (m := 15) 4 (by decide)
      rw [hje]
      have hj : j < 16 := hj
      rcases Nat.lt_or_ge j 11 with hj2 | hj2
      · match j, hj2 with
        | 0, _ => exact lv_tableIn (off := 60) (tgt := 100) hx hb d_law_40 (by decide) (by decide) rfl rfl (lc_0 hfl hL C0 hZ htt hi hK hP hD hS hl KK)
        | 1, _ => exact lv_tableIn (off := 97) (tgt := 137) hx hb d_law_40 (by decide) (by decide) rfl rfl (lc_1 hfl hL C0 hZ htt hi hK hP hD hS hl KK)
        | 2, _ => exact lv_tableIn (off := 134) (tgt := 174) hx hb d_law_40 (by decide) (by decide) rfl rfl (lc_2 hfl hL C0 hZ htt hi hK hP hD hS hl KK)
        | 3, _ => exact lv_tableIn (off := 159) (tgt := 199) hx hb d_law_40 (by decide) (by decide) rfl rfl (lc_3 hfl hL C0 hZ htt hi hK hP hD hS hl KK)
        | 4, _ => exact lv_tableIn (off := 184) (tgt := 224) hx hb d_law_40 (by decide) (by decide) rfl rfl (lc_4 hfl hL C0 hZ htt hi hK hP hD hS hl KK)
        | 5, _ => exact lv_tableIn (off := 361) (tgt := 401) hx hb d_law_40 (by decide) (by decide) rfl rfl (lc_5 hfl hL C0 hZ htt hi hK hP hD hS hl KK)
        | 6, _ => exact lv_tableIn (off := 519) (tgt := 559) hx hb d_law_40 (by decide) (by decide) rfl rfl (lc_6 hfl hL C0 hZ htt hi hK hP hD hS hl KK)
        | 7, _ => exact lv_tableIn (off := 544) (tgt := 584) hx hb d_law_40 (by decide) (by decide) rfl rfl (lc_7 hfl hL C0 hZ htt hi hK hP hD hS hl KK)
        | 8, _ => exact lv_tableIn (off := 600) (tgt := 640) hx hb d_law_40 (by decide) (by decide) rfl rfl (lc_8 hfl hL C0 hZ htt hi hK hP hD hS hl KK)
        | 9, _ => exact lv_tableIn (off := 668) (tgt := 708) hx hb d_law_40 (by decide) (by decide) rfl rfl (lc_9 hfl hL C0 hZ htt hi hK hP hD hS hl KK)
        | 10, _ => exact lv_tableIn (off := 693) (tgt := 733) hx hb d_law_40 (by decide) (by decide) rfl rfl (lc_10 hfl hL C0 hZ htt hi hK hP hD hS hl KK)
      · refine lv_tableOut (tgt := 758) hx hb d_law_40 (Or.inr (by rw [nI_toInt (by omega)]; omega)) rfl ?_
        refine W.widen (k := 4 + tt) (n := 11 + 6 * tt) (by omega) (by omega) ?_
        exact KK th up lo le f H locs ls hP hD hS hl
