/-! the reference's toHalf: the search among the halves -/
set_option maxRecDepth 100000 in
theorem tm_step {n : Nat} (h : n < 31744) : sp_sc (n + 1) = sp_sc n + 2 ^ (n / 1024 - 1) := by
  unfold sp_sc
  obtain ⟨e, f, hf, rfl⟩ : ∃ e f, f < 1024 ∧ n = e * 1024 + f := ⟨n / 1024, n % 1024, Nat.mod_lt _ (by decide), by omega⟩
  have he : e < 31 := by omega
  have d1 : (e * 1024 + f) / 1024 = e := by omega
  have d2 : (e * 1024 + f) % 1024 = f := by omega
  rw [d1, d2, Nat.mod_eq_of_lt (show e < 32 by omega)]
  rcases Nat.lt_or_ge f 1023 with hlt | hge
  · have d3 : (e * 1024 + f + 1) / 1024 = e := by omega
    have d4 : (e * 1024 + f + 1) % 1024 = f + 1 := by omega
    rw [d3, d4, Nat.mod_eq_of_lt (show e < 32 by omega)]
    by_cases z : e = 0
    · subst z
      rfl
    · rw [if_neg z, if_neg z, ← Nat.add_assoc, Nat.add_mul _ 1, Nat.one_mul]
  · have d3 : (e * 1024 + f + 1) / 1024 = e + 1 := by omega
    have d4 : (e * 1024 + f + 1) % 1024 = 0 := by omega
    have hf2 : f = 1023 := by omega
    subst hf2
    rw [d3, d4, Nat.mod_eq_of_lt (show e + 1 < 32 by omega), if_neg (by omega)]
    by_cases z : e = 0
    · subst z
      rfl
    · obtain ⟨j, rfl⟩ : ∃ j, e = j + 1 := ⟨e - 1, by omega⟩
      rw [if_neg z, Nat.add_sub_cancel, Nat.add_sub_cancel, Nat.pow_succ]
      generalize 2 ^ j = P
      omega
theorem tm_mono (m : Nat) : ∀ k, m + k ≤ 31744 → sp_sc m ≤ sp_sc (m + k)
  | 0, _ => Nat.le_refl _
  | k + 1, h => by
    have h1 := tm_mono m k (by omega)
    have h2 := tm_step (n := m + k) (by omega)
    rw [← Nat.add_assoc, h2]
    exact Nat.le_trans h1 (Nat.le_add_right _ _)
theorem tm_one {L n d : Nat} (hL : L < 31744) (hn : n < 31744) (a1 : sp_sc L ≤ d) (a2 : d < sp_sc (L + 1)) (b1 : sp_sc n ≤ d) (b2 : d < sp_sc (n + 1)) : L = n := by
  rcases Nat.lt_trichotomy L n with z | z | z
  · obtain ⟨k, rfl⟩ : ∃ k, n = L + 1 + k := ⟨n - (L + 1), by omega⟩
    have := tm_mono (L + 1) k (by omega)
    omega
  · exact z
  · obtain ⟨k, rfl⟩ : ∃ k, L = n + 1 + k := ⟨L - (n + 1), by omega⟩
    have := tm_mono (n + 1) k (by omega)
    omega
theorem tm_val {n t D : Nat} (ht : 2 ≤ t) (ht2 : t ≤ 31) (h1 : 1024 ≤ D) (h2 : D < 2048) (hn : n = (t - 1) * 1024 + (D - 1024)) : sp_sc n = D * 2 ^ (t - 2) ∧ sp_sc (n + 1) = D * 2 ^ (t - 2) + 2 ^ (t - 2) ∧ n < 31744 ∧ n % 2 = D % 2 := by
  have d1 : n / 1024 = t - 1 := by omega
  have d2 : n % 1024 = D - 1024 := by omega
  have v : sp_sc n = D * 2 ^ (t - 2) := by
    unfold sp_sc
    rw [d1, d2, Nat.mod_eq_of_lt (by omega), if_neg (by omega), show 1024 + (D - 1024) = D by omega, show t - 1 - 1 = t - 2 by omega]
  refine ⟨v, ?_, by omega, by omega⟩
  rw [tm_step (by omega), v, d1, show t - 1 - 1 = t - 2 by omega]
def tm_h (s : Nat) : Nat := if s < 4 then s * 256 else sp_hv s (Nat.log2 s)
theorem tm_pow {s : Nat} (h4 : 4 ≤ s) (hs : s ≤ 2147483648) : ∃ t, Nat.log2 s = t ∧ 2 ≤ t ∧ t ≤ 31 ∧ 2 ^ t ≤ s ∧ s < 2 ^ (t + 1) := by
  have p1 := Nat.log2_self_le (n := s) (by omega)
  have p2 := Nat.lt_log2_self (n := s)
  refine ⟨_, rfl, th_t2 h4 p2, ?_, p1, p2⟩
  rcases Nat.lt_or_ge 31 (Nat.log2 s) with z | z
  · have := Nat.pow_le_pow_right (n := 2) (by decide) (show 32 ≤ Nat.log2 s by omega)
    omega
  · exact z
theorem tm_pos {s : Nat} (h : 0 < s) (hs : s ≤ 2147483648) : 0 < tm_h s := by
  unfold tm_h
  by_cases z : s < 4
  · rw [if_pos z]
    omega
  · rw [if_neg z]
    obtain ⟨t, e, t2, t31, p1, p2⟩ := tm_pow (by omega) hs
    have hd := th_dig t2 t31 p1 p2
    rw [e]
    unfold sp_hv
    generalize (if t ≤ 10 then s * 2 ^ (10 - t) else sp_ne s (t - 10)) = D at hd ⊢
    omega
set_option maxRecDepth 100000 in
theorem tm_fin {s L : Nat} {P : Prop} [Decidable P] (hs : s ≤ 2147483648) (hL : L < 31744) (a1 : sp_sc L ≤ s * 256) (a2 : s * 256 < sp_sc (L + 1)) (hP : P ↔ (s * 256 - sp_sc L < sp_sc (L + 1) - s * 256 ∨ (s * 256 - sp_sc L = sp_sc (L + 1) - s * 256 ∧ L % 2 = 0))) : (if P then L else L + 1) = tm_h s := by
  unfold tm_h
  by_cases z : s < 4
  · rw [if_pos z]
    have v : sp_sc (s * 256) = s * 256 := by
      unfold sp_sc
      rw [show s * 256 / 1024 % 32 = 0 by omega, if_pos rfl, Nat.mod_eq_of_lt (by omega)]
    have v2 := tm_step (n := s * 256) (by omega)
    rw [show s * 256 / 1024 - 1 = 0 by omega, v] at v2
    have e := tm_one hL (by omega) a1 a2 (n := s * 256) (by omega) (by omega)
    rw [if_pos (hP.mpr (by rw [e, v, v2]; omega)), e]
  · rw [if_neg z]
    obtain ⟨t, e, t2, t31, p1, p2⟩ := tm_pow (by omega) hs
    rw [e]
    unfold sp_hv
    by_cases y : t ≤ 10
    · rw [if_pos y]
      have b1 := Nat.mul_le_mul_right (2 ^ (10 - t)) p1
      have b2 := Nat.mul_lt_mul_of_pos_right p2 (Nat.two_pow_pos (10 - t))
      rw [← Nat.pow_add, show t + (10 - t) = 10 by omega] at b1
      rw [← Nat.pow_add, show t + 1 + (10 - t) = 11 by omega] at b2
      obtain ⟨v1, v2, v3, v4⟩ := tm_val t2 t31 b1 b2 rfl
      have w : s * 2 ^ (10 - t) * 2 ^ (t - 2) = s * 256 := by
        rw [Nat.mul_assoc, ← Nat.pow_add, show 10 - t + (t - 2) = 8 by omega]
      rw [w] at v1 v2
      have pp := Nat.two_pow_pos (t - 2)
      have e9 := tm_one hL v3 a1 a2 (by omega) (by omega)
      rw [if_pos (hP.mpr (by rw [e9, v1, v2]; omega)), e9]
      omega
    · rw [if_neg y]
      obtain ⟨k, rfl⟩ : ∃ k, t = k + 10 := ⟨t - 10, by omega⟩
      rw [Nat.add_sub_cancel]
      have p := Nat.two_pow_pos k
      have c1 : 1024 ≤ s / 2 ^ k := (Nat.le_div_iff_mul_le p).mpr (by rw [show 1024 = 2 ^ 10 from rfl, ← Nat.pow_add, Nat.add_comm]; exact p1)
      have c2 : s / 2 ^ k < 2048 := (Nat.div_lt_iff_lt_mul p).mpr (by rw [show 2048 = 2 ^ 11 from rfl, ← Nat.pow_add, Nat.add_comm]; exact p2)
      obtain ⟨v1, v2, v3, v4⟩ := tm_val t2 t31 c1 c2 rfl
      have w : 2 ^ (k + 10 - 2) = 2 ^ k * 256 := by rw [show k + 10 - 2 = k + 8 by omega, Nat.pow_add]
      rw [w] at v1 v2
      have dm := Nat.div_add_mod s (2 ^ k)
      have ml := Nat.mod_lt s p
      have w2 : s / 2 ^ k * (2 ^ k * 256) = 2 ^ k * (s / 2 ^ k) * 256 := by rw [← Nat.mul_assoc, Nat.mul_comm (s / 2 ^ k)]
      rw [w2] at v1 v2
      unfold sp_ne
      generalize s / 2 ^ k = q at *
      generalize s % 2 ^ k = r at *
      generalize 2 ^ k * q = X at *
      generalize 2 ^ k = Y at *
      have e9 := tm_one hL v3 a1 a2 (by omega) (by omega)
      by_cases x : P
      · have hp := hP.mp x
        rw [e9, v1, v2] at hp
        rw [if_pos x, if_neg (by omega), e9]
        omega
      · have hp := mt hP.mpr x
        rw [e9, v1, v2] at hp
        rw [if_neg x, if_pos (by omega), e9]
        omega
def tm_I (d : Nat) (n : Nat) (z : Int32 × Int32) : Prop := ∃ L H, z.1 = nI L ∧ z.2 = nI H ∧ L < H ∧ H ≤ 31744 ∧ n = H - L ∧ sp_sc L ≤ d ∧ d < sp_sc H
set_option maxRecDepth 100000 in
theorem tm_0 {s : Nat} (hs : s ≤ 2147483648) : tm_I (s * 256) 31744 (0, 31744) := by
  refine ⟨0, 31744, rfl, rfl, by decide, by decide, rfl, ?_, ?_⟩
  · rw [show sp_sc 0 = 0 by decide]
    exact Nat.zero_le _
  · rw [show sp_sc 31744 = 1099511627776 by decide]
    omega
theorem tm_mid {L H : Nat} {low high v35 v37 : Int32} (e1 : low = nI L) (e2 : high = nI H) (hH : H ≤ 31744) (hL : L < H) (e35 : v35 = low + high) (e37 : v37 = v35 >>> ((1 : Int32) &&& 31)) : v37 = nI ((L + H) / 2) := by
  rw [e37, e35, e1, e2, nI_add]
  exact pk_shrN (by omega) _ 1 (by decide)
theorem tm_sc {v37 : Int32} {v42 : Int64} {M : Nat} (hM : M ≤ 31744) (e37 : v37 = nI M) (e42 : v42 = lN (sp_sc v37.toBitVec.toNat)) : v42 = lN (sp_sc M) := by
  rw [e42, e37, pk_tn (by omega)]
theorem tm_gap {L H : Nat} {low high v26 : Int32} (e1 : low = nI L) (e2 : high = nI H) (hH : H ≤ 31744) (hL : L < H) (e26 : v26 = high - low) : v26 ≤ 1 ↔ H = L + 1 := by
  rw [e26, e1, e2, pk_sub (by omega), show (1 : Int32) = nI 1 from rfl, nI_leI (by omega) (by decide)]
  omega
theorem tm_gt {v42 v12 : Int64} {M d : Nat} (e42 : v42 = lN (sp_sc M)) (e12 : v12 = lN d) (hd : d < 2 ^ 63) : v12 < v42 ↔ d < sp_sc M := by
  have := mh_scb M
  rw [e42, e12, pk_lLT hd (by omega)]
theorem tm_lsub {a b : Nat} (h : b ≤ a) (ha : a < 2 ^ 63) : lN a - lN b = lN (a - b) := by
  apply uN_inj
  have h1 : uN (lN a) = a := wb_tn (by omega)
  have h2 : uN (lN b) = b := wb_tn (by omega)
  have h3 : uN (lN (a - b)) = a - b := wb_tn (by omega)
  rw [fx_usub _ _ (by rw [h1, h2]; exact h), h1, h2, h3]
theorem tm_end {s L : Nat} {low v76 : Int32} {v12 v67 v70 v77 v81 : Int64} (hs : s ≤ 2147483648) (hL : L < 31744) (e1 : low = nI L) (e12 : v12 = lN (s * 256)) (a1 : sp_sc L ≤ s * 256) (a2 : s * 256 < sp_sc (L + 1)) (e67 : v67 = lN (sp_sc low.toBitVec.toNat)) (e70 : v70 = v12 - v67) (e76 : v76 = low + 1) (e77 : v77 = lN (sp_sc v76.toBitVec.toNat)) (e81 : v81 = v77 - v12) :
    (v70 < v81 ↔ s * 256 - sp_sc L < sp_sc (L + 1) - s * 256) ∧ (v70 = v81 ↔ s * 256 - sp_sc L = sp_sc (L + 1) - s * 256) ∧ v76 = nI (L + 1) := by
  have g76 : v76 = nI (L + 1) := by rw [e76, e1]; exact nI_add L 1
  have b1 := mh_scb (L + 1)
  have g67 := tm_sc (by omega) e1 e67
  have g77 := tm_sc (by omega) g76 e77
  have g70 : v70 = lN (s * 256 - sp_sc L) := by rw [e70, e12, g67, tm_lsub a1 (by omega)]
  have g81 : v81 = lN (sp_sc (L + 1) - s * 256) := by rw [e81, e12, g77, tm_lsub (by omega) (by omega)]
  refine ⟨?_, ?_, g76⟩
  · rw [g70, g81, pk_lLT (by omega) (by omega)]
  · rw [g70, g81, pk_lEQ (by omega) (by omega)]
theorem tm_par {L : Nat} {low v103 : Int32} (hL : L < 31744) (e1 : low = nI L) (e103 : v103 = low - low / 2 * 2) : v103 = 0 ↔ L % 2 = 0 := by
  have g : v103 = nI (L % 2) := by rw [e103, e1]; exact pk_rem (d := 2) (by omega) (by decide) (by decide)
  rw [g, show (0 : Int32) = nI 0 from rfl]
  rcases Nat.mod_two_eq_zero_or_one L with z | z <;> rw [z] <;> decide
theorem tm_lo {s L : Nat} {low : Int32} (hs : s ≤ 2147483648) (hL : L < 31744) (e1 : low = nI L) (a1 : sp_sc L ≤ s * 256) (a2 : s * 256 < sp_sc (L + 1)) (hP : s * 256 - sp_sc L < sp_sc (L + 1) - s * 256 ∨ (s * 256 - sp_sc L = sp_sc (L + 1) - s * 256 ∧ L % 2 = 0)) : low = nI (tm_h s) := by
  have := tm_fin hs hL a1 a2 (P := True) ⟨fun _ => hP, fun _ => trivial⟩
  rw [if_pos trivial] at this
  rw [e1, this]
theorem tm_hi {s L : Nat} {v : Int32} (hs : s ≤ 2147483648) (hL : L < 31744) (e1 : v = nI (L + 1)) (a1 : sp_sc L ≤ s * 256) (a2 : s * 256 < sp_sc (L + 1)) (hP : ¬ (s * 256 - sp_sc L < sp_sc (L + 1) - s * 256 ∨ (s * 256 - sp_sc L = sp_sc (L + 1) - s * 256 ∧ L % 2 = 0))) : v = nI (tm_h s) := by
  have := tm_fin hs hL a1 a2 (P := False) ⟨fun z => z.elim, fun z => hP z⟩
  rw [if_neg (fun z => z)] at this
  rw [e1, this]
theorem tm_bd {s : Nat} (hs : s ≤ 2147483648) : tm_h s < 32768 := by
  unfold tm_h
  by_cases z : s < 4
  · rw [if_pos z]
    omega
  · rw [if_neg z]
    obtain ⟨t, e, t2, t31, p1, p2⟩ := tm_pow (by omega) hs
    have hd := th_dig t2 t31 p1 p2
    rw [e]
    unfold sp_hv
    generalize (if t ≤ 10 then s * 2 ^ (10 - t) else sp_ne s (t - 10)) = D at hd ⊢
    omega
theorem tm_sp (a : Int) : sp_th a = (if a < 0 then 32768 else 0) + tm_h a.natAbs := rfl
theorem tm_r0 {a : Int32} {v : Int32} (e : v = nI (tm_h a.toInt.natAbs)) (c : 0 ≤ a) : v = nI (sp_th a.toInt) := by
  have := fx_ge a c
  rw [e, tm_sp, if_neg (by omega), Nat.zero_add]
theorem tm_r1 {a : Int32} {v : Int32} (e : v = nI (tm_h a.toInt.natAbs)) (c : ¬ 0 ≤ a) (c2 : v ≤ 0) : v = nI (sp_th a.toInt) := by
  have ha := fx_i32 a
  have z : (0 : Int32).toInt = 0 := by decide
  rw [Int32.le_iff_toInt_le, z] at c
  have b := tm_bd (s := a.toInt.natAbs) (by omega)
  have p := tm_pos (s := a.toInt.natAbs) (by omega) (by omega)
  rw [e, show (0 : Int32) = nI 0 from rfl, nI_leI (by omega) (by decide)] at c2
  omega
theorem tm_r2 {a : Int32} {v r : Int32} (e : v = nI (tm_h a.toInt.natAbs)) (c : ¬ 0 ≤ a) (er : r = v ||| 32768) : r = nI (sp_th a.toInt) := by
  have ha := fx_i32 a
  rw [tm_sp]
  exact fx_ior (fx_sg1 a c) e (tm_bd (by omega)) (by rw [er, Int32.or_comm])
theorem nI_up {low v : Int32} {L : Nat} (e1 : low = nI L) (e : v = low + 1) : v = nI (L + 1) := by rw [e, e1]; exact nI_add L 1
