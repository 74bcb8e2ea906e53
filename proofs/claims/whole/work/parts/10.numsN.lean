/-! the reference's roots, quotient, fromHalf -/
def mr_I (S : Nat) (n : Nat) (z : Int64 × Int64) : Prop := n ≤ 25 ∧ z.2 = lN (2 ^ n / 2) ∧ ∃ f : Nat, z.1 = lN f ∧ f + 2 ^ n ≤ 33554432 ∧ f * f ≤ S ∧ S < (f + 2 ^ n) * (f + 2 ^ n)
theorem mr_0 {S : Nat} (hS : S ≤ 281474976710656) : mr_I S 25 (0, 16777216) := ⟨by decide, show (16777216 : Int64) = lN (2 ^ 25 / 2) by decide +kernel, 0, by decide, by decide, Nat.zero_le _, by show S < _; omega⟩
theorem mr_h (j : Nat) : 2 ^ (j + 1) / 2 = 2 ^ j := by rw [Nat.pow_succ]; omega
theorem mr_neg {n : Nat} {b : Int64} (hn : n ≤ 25) (hb : b = lN (2 ^ n / 2)) (h : b ≤ 0) : n = 0 := by
  cases n with
  | zero => rfl
  | succ j =>
    have h1 : 2 ^ j ≤ 2 ^ 24 := Nat.pow_le_pow_right (by decide) (by omega)
    have h2 := Nat.two_pow_pos j
    rw [hb, mr_h] at h
    have h3 := (pk_lLE (a := 2 ^ j) (b := 0) (by omega) (by decide)).mp h
    omega
theorem mr_nn {n : Nat} {b : Int64} (hn : n ≤ 25) (hb : b = lN (2 ^ n / 2)) (h : ¬ b ≤ 0) : ∃ j, n = j + 1 ∧ b = lN (2 ^ j) := by
  cases n with
  | zero => exact absurd (by rw [hb]; decide) h
  | succ j => exact ⟨j, rfl, by rw [hb, mr_h]⟩
theorem mr_try {x r b v39 v44 v45 : Int64} {j S f : Nat} (hx : x = lN S) (hS : S ≤ 281474976710656) (hj : j + 1 ≤ 25) (hb : b = lN (2 ^ j)) (hf : r = lN f) (hb1 : f + 2 ^ (j + 1) ≤ 33554432) (e39 : v39 = r + b) (e44 : v44 = r + b) (e45 : v45 = v39 * v44) : v39 = lN (f + 2 ^ j) ∧ (x < v45 ↔ S < (f + 2 ^ j) * (f + 2 ^ j)) := by
  have f39 : v39 = lN (f + 2 ^ j) := by rw [e39, hf, hb, lN_add]
  have f44 : v44 = lN (f + 2 ^ j) := by rw [e44, hf, hb, lN_add]
  have hp : 2 ^ (j + 1) = 2 ^ j + 2 ^ j := by rw [Nat.pow_succ]; omega
  have hq := Nat.two_pow_pos j
  have hm := Nat.mul_le_mul (show f + 2 ^ j ≤ 33554432 by omega) (show f + 2 ^ j ≤ 33554432 by omega)
  refine ⟨f39, ?_⟩
  rw [hx, e45, f39, f44, lN_mul, pk_lLT (by omega) (by omega)]
theorem mr_sh {b v : Int64} {j : Nat} (hj : j + 1 ≤ 25) (hb : b = lN (2 ^ j)) (e : v = b >>> ((1 : Int32).toInt64 &&& 63)) : v = lN (2 ^ j / 2) := by
  have h1 : 2 ^ j ≤ 2 ^ 24 := Nat.pow_le_pow_right (by decide) (by omega)
  exact hb_sh (n := 1) hb (by omega) (by decide) e
theorem mr_yes {S j f : Nat} {v bt : Int64} (hj : j + 1 ≤ 25) (e : v = lN (f + 2 ^ j)) (hb1 : f + 2 ^ (j + 1) ≤ 33554432) (h2 : S < (f + 2 ^ (j + 1)) * (f + 2 ^ (j + 1))) (h : (f + 2 ^ j) * (f + 2 ^ j) ≤ S) (hb : bt = lN (2 ^ j / 2)) : mr_I S j (v, bt) := by
  have e0 : f + 2 ^ j + 2 ^ j = f + 2 ^ (j + 1) := by rw [Nat.pow_succ]; omega
  exact ⟨by omega, hb, f + 2 ^ j, e, by rw [e0]; exact hb1, h, by rw [e0]; exact h2⟩
theorem mr_no {S j f : Nat} {v bt : Int64} (hj : j + 1 ≤ 25) (e : v = lN f) (hb1 : f + 2 ^ (j + 1) ≤ 33554432) (h1 : f * f ≤ S) (h : S < (f + 2 ^ j) * (f + 2 ^ j)) (hb : bt = lN (2 ^ j / 2)) : mr_I S j (v, bt) := by
  have hp : 2 ^ (j + 1) = 2 ^ j + 2 ^ j := by rw [Nat.pow_succ]; omega
  have hq := Nat.two_pow_pos j
  exact ⟨by omega, hb, f, e, by omega, h1, h⟩
theorem mr_m0 (a : Int32) (h : ¬ 0 ≤ a) : (0 : Int64).toInt = max 0 (65536 * a.toInt) := by
  have z : (0 : Int32).toInt = 0 := by decide
  rw [Int32.le_iff_toInt_le, z] at h
  rw [show (0 : Int64).toInt = 0 from by decide]
  omega
theorem mr_m1 (a : Int32) (x : Int64) (h : 0 ≤ a) (ex : x = 65536 * a.toInt64) : x.toInt = max 0 (65536 * a.toInt) := by
  have h1 := fx_ge a h
  rw [fx_l16 a x ex]
  omega
theorem mr_mb (a : Int32) (x : Int64) (e : x.toInt = max 0 (65536 * a.toInt)) : 0 ≤ x.toInt ∧ x.toInt ≤ 281474976710656 := by
  have h2 := fx_i32 a
  omega
theorem mr_end (a r : Int32) (x : Int64) (e : x.toInt = max 0 (65536 * a.toInt)) (hr : sp_isr x.toInt r.toInt) : sp_root a.toInt r.toInt := by
  unfold sp_root
  by_cases h : a.toInt < 0
  · rw [if_pos h]
    obtain ⟨h1, h2, h3⟩ := hr
    rw [show x.toInt = 0 by omega] at h2
    rcases Int.lt_or_eq_of_le h1 with z | z
    · have := Int.mul_pos z z
      omega
    · exact z.symm
  · rw [if_neg h]
    rw [show x.toInt = 65536 * a.toInt by omega] at hr
    exact hr
/-- quotient -/
def mq_bit (N j : Nat) : Nat := 65536 * N / 2 ^ j % 2
theorem mq_hi {n v74 v76 : Int64} {k v73 : Int32} {N j : Nat} (hn : n = lN N) (hN : N ≤ 2147483648) (hk : k = nI j) (hj : j < 48) (c : ¬ k ≤ 15) (e73 : v73 = k - 16) (e74 : v74 = n >>> (v73.toInt64 &&& 63)) (e76 : v76 = v74 &&& 1) : v76 = lN (mq_bit N j) := by
  have h16 : 16 ≤ j := by
    have : ¬ j ≤ 15 := fun z => c (by rw [hk, show (15 : Int32) = nI 15 from rfl, nI_leI (by omega) (by decide)]; exact z)
    omega
  obtain ⟨i, rfl⟩ : ∃ i, j = 16 + i := ⟨j - 16, by omega⟩
  have f73 : v73 = nI i := by rw [e73, hk, show (16 : Int32) = nI 16 from rfl, pk_sub (by omega)]; congr 1; omega
  rw [f73] at e74
  have f74 := hb_sh hn (by omega) (by omega) e74
  have hd : N / 2 ^ i ≤ N := Nat.div_le_self _ _
  have hq : 65536 * N / 2 ^ (16 + i) = N / 2 ^ i := by
    rw [Nat.pow_add, show (65536 : Nat) = 2 ^ 16 from rfl]
    exact Nat.mul_div_mul_left _ _ (by decide)
  rw [e76, f74, wb_a1 (by omega), mq_bit, hq]
theorem mq_lo {k : Int32} {N j : Nat} (hk : k = nI j) (hj : j < 48) (c : k ≤ 15) : (0 : Int64) = lN (mq_bit N j) := by
  have h16 : j ≤ 15 := by
    rw [hk, show (15 : Int32) = nI 15 from rfl, nI_leI (by omega) (by decide)] at c
    exact c
  obtain ⟨i, hi⟩ : ∃ i, 16 = j + (i + 1) := ⟨15 - j, by omega⟩
  have hq : 65536 * N / 2 ^ j = N * 2 ^ i * 2 := by
    rw [show (65536 : Nat) = 2 ^ 16 from rfl, hi, Nat.pow_add, Nat.mul_assoc, Nat.mul_div_cancel_left _ (Nat.two_pow_pos j), Nat.pow_succ, Nat.mul_comm, Nat.mul_assoc]
  have h0 : mq_bit N j = 0 := by
    unfold mq_bit
    rw [hq]
    omega
  rw [h0]
  rfl
def mq_I (N D : Nat) (n : Nat) (z : Int64 × Int64 × Int32) : Prop := z.2.2 = dn n ∧ n ≤ 48 ∧ ∃ Q R : Nat, z.1 = lN Q ∧ z.2.1 = lN R ∧ R < D ∧ 65536 * N / 2 ^ n = Q * D + R
theorem mq_0 {N D : Nat} (hN : N ≤ 2147483648) (hD : 0 < D) : mq_I N D 48 (0, 0, 47) := ⟨show (47 : Int32) = dn 48 by decide, by decide, 0, 0, rfl, rfl, hD, by
  rw [Nat.zero_mul]
  exact Nat.div_eq_of_lt (by omega)⟩
theorem mq_big {N D Q R n : Nat} (hN : N ≤ 2147483648) (hD : 0 < D) (h : 65536 * N / 2 ^ n = Q * D + R) : Q ≤ 140737488355328 := by
  have h1 : 65536 * N / 2 ^ n ≤ 65536 * N := Nat.div_le_self _ _
  have h2 : Q * 1 ≤ Q * D := Nat.mul_le_mul_left _ hD
  omega
theorem mq_rest {rest v60 v81 w : Int64} {R t : Nat} (hr : rest = lN R) (hR : R < 4294967296) (ht : t < 2) (hw : w = lN t) (e60 : v60 = rest <<< ((1 : Int32).toInt64 &&& 63)) (e81 : v81 = v60 ||| w) : v81 = lN (2 * R + t) := by
  have h := wb_shl R (k := 1) (by decide)
  have f60 : v60 = lN (R * 2) := by rw [e60, hr]; exact h
  rw [e81, f60, hw, g_or (k := 1) rfl ht (by omega), Nat.mul_comm]
theorem mq_q {q v87 : Int64} {Q : Nat} (hq : q = lN Q) (hQ : Q ≤ 140737488355328) (e87 : v87 = q <<< ((1 : Int32).toInt64 &&& 63)) : v87 = lN (2 * Q) ∧ (v87 ||| 1) = lN (2 * Q + 1) := by
  have h := wb_shl Q (k := 1) (by decide)
  have f87 : v87 = lN (Q * 2) := by rw [e87, hq]; exact h
  refine ⟨by rw [f87, Nat.mul_comm], ?_⟩
  rw [f87]
  have := g_or (k := 1) (p := 2) (a := 1) (b := Q) rfl (by decide) (by omega)
  rw [show 2 * Q + 1 = Q * 2 + 1 by omega]
  exact this
theorem mq_sum {N D Q R j : Nat} (h : 65536 * N / 2 ^ (j + 1) = Q * D + R) : 65536 * N / 2 ^ j = 2 * Q * D + (2 * R + mq_bit N j) := by
  have b := fx_bit (65536 * N) j
  have c2 : 2 * Q * D = 2 * (Q * D) := Nat.mul_assoc ..
  unfold mq_bit
  rw [c2]
  omega
theorem mq_a {N D Q R j : Nat} {k v111 : Int32} {v81 v87 : Int64} (hk : k = nI j) (hj : j + 1 ≤ 48) (h : 65536 * N / 2 ^ (j + 1) = Q * D + R) (f81 : v81 = lN (2 * R + mq_bit N j)) (f87 : v87 = lN (2 * Q)) (hlt : 2 * R + mq_bit N j < D) (ev : v111 = k + Int32.ofInt (-1)) : mq_I N D j (v87, v81, v111) :=
  ⟨dn_i hk ev, by omega, 2 * Q, 2 * R + mq_bit N j, f87, f81, hlt, mq_sum h⟩
theorem mq_b {N D Q R j : Nat} {k v111 : Int32} {v81 v102 v108 d : Int64} (hk : k = nI j) (hj : j + 1 ≤ 48) (hR : R < D) (h : 65536 * N / 2 ^ (j + 1) = Q * D + R) (hd : d = lN D) (f81 : v81 = lN (2 * R + mq_bit N j)) (f108 : v108 = lN (2 * Q + 1)) (hge : ¬ 2 * R + mq_bit N j < D) (e102 : v102 = v81 - d) (ev : v111 = k + Int32.ofInt (-1)) : mq_I N D j (v108, v102, v111) := by
  have hs := mq_sum h
  have hb : mq_bit N j < 2 := Nat.mod_lt _ (by decide)
  refine ⟨dn_i hk ev, by omega, 2 * Q + 1, 2 * R + mq_bit N j - D, f108, ?_, by omega, ?_⟩
  · show v102 = _
    rw [e102, f81, hd, lN_sub (by omega)]
  · rw [hs, Nat.add_mul, Nat.one_mul]
    omega
/-- the answer, by its sign -/
theorem mq_val {a b : Int32} {N D Q R : Nat} (hb : ¬ b = 0) (hN : N = a.toInt.natAbs) (hD : D = b.toInt.natAbs) (hR : R < D) (h : 65536 * N = Q * D + R) : (65536 * a.toInt).fdiv b.toInt = if (a.toInt < 0 ↔ b.toInt < 0) then (Q : Int) else -(Q : Int) - (if R = 0 then 0 else 1) := by
  have hb0 := fx_ne0 b hb
  rw [Int32.toInt_toInt64] at hb0
  have hz : (65536 * a.toInt).natAbs = 65536 * N := by omega
  have hq : 65536 * N / D = Q := by rw [h, Nat.add_comm, Nat.add_mul_div_right _ _ (by omega), Nat.div_eq_of_lt hR, Nat.zero_add]
  have hr : 65536 * N % D = R := by rw [h, Nat.add_comm, Nat.add_mul_mod_self_right, Nat.mod_eq_of_lt hR]
  have e := fx_fabs (65536 * a.toInt) b.toInt hb0
  rw [hz, ← hD, hq, hr] at e
  rw [e]
  by_cases z : (a.toInt < 0 ↔ b.toInt < 0)
  · rw [if_pos z, if_pos (by rw [← z]; omega)]
  · rw [if_neg z, if_neg (fun y => z (by rw [← y]; omega))]
theorem mq_s {a b v126 v135 : Int32} (e1 : v126 = if a.toInt < 0 then 1 else 0) (e2 : v135 = if b.toInt < 0 then 1 else 0) : v126 = v135 ↔ (a.toInt < 0 ↔ b.toInt < 0) := by
  by_cases h1 : a.toInt < 0 <;> by_cases h2 : b.toInt < 0 <;> simp [h1, h2] at e1 e2 <;> subst e1 <;> subst e2 <;> simp [h1, h2]
theorem mq_sg0 {a : Int32} (h : 0 ≤ a) : (0 : Int32) = if a.toInt < 0 then 1 else 0 := by
  have := fx_ge a h
  rw [if_neg (by omega)]
theorem mq_sg1 {a : Int32} (h : ¬ 0 ≤ a) : (1 : Int32) = if a.toInt < 0 then 1 else 0 := by
  have z : (0 : Int32).toInt = 0 := by decide
  rw [Int32.le_iff_toInt_le, z] at h
  rw [if_pos (by omega)]
theorem mq_p {a b : Int32} {q : Int64} {V : Int} {Q R : Nat} (hV : V = if (a.toInt < 0 ↔ b.toInt < 0) then (Q : Int) else -(Q : Int) - (if R = 0 then 0 else 1)) (hq : q = lN Q) (hQ : Q < 2 ^ 63) (h : a.toInt < 0 ↔ b.toInt < 0) : q.toInt = V := by
  rw [hV, if_pos h, hq]
  exact pk_lT hQ
theorem mq_z {a b : Int32} {q : Int64} {N D Q R : Nat} (hb : ¬ b = 0) (hN : N = a.toInt.natAbs) (hD : D = b.toInt.natAbs) (hR : R < D) (h : 65536 * N = Q * D + R) (hq : q = lN Q) (ha : a = 0) : q.toInt = (65536 * a.toInt).fdiv b.toInt := by
  have a0 : a.toInt = 0 := by rw [ha]; decide
  rw [a0] at hN ⊢
  have hN0 : N = 0 := hN
  rw [hN0] at h
  have hQD : Q * D = 0 := by omega
  have hQ0 : Q = 0 := by
    rcases Nat.mul_eq_zero.mp hQD with z | z
    · exact z
    · omega
  rw [hq, hQ0]
  simp
  decide
theorem mq_n1 {a b : Int32} {q v v2 rest : Int64} {V : Int} {Q R : Nat} (hV : V = if (a.toInt < 0 ↔ b.toInt < 0) then (Q : Int) else -(Q : Int) - (if R = 0 then 0 else 1)) (hq : q = lN Q) (hQ : Q ≤ 140737488355328) (hr : rest = lN R) (hR : R < 2 ^ 63) (h : ¬ (a.toInt < 0 ↔ b.toInt < 0)) (c : ¬ rest ≤ 0) (ev : v = -q) (ev2 : v2 = v - 1) : v2.toInt = V := by
  have hR0 : R ≠ 0 := fun z => c (by rw [hr, z]; decide)
  have e1 : q.toInt = (Q : Int) := by rw [hq]; exact pk_lT (by omega)
  have e2 : v.toInt = -(Q : Int) := by rw [ev, Int64.toInt_neg, e1, fx_bm64 (by omega) (by omega)]
  rw [ev2, Int64.toInt_sub, e2, show (1 : Int64).toInt = 1 from by decide, fx_bm64 (by omega) (by omega), hV, if_neg h, if_neg hR0]
theorem mq_n0 {a b : Int32} {q v rest : Int64} {V : Int} {Q R : Nat} (hV : V = if (a.toInt < 0 ↔ b.toInt < 0) then (Q : Int) else -(Q : Int) - (if R = 0 then 0 else 1)) (hq : q = lN Q) (hQ : Q ≤ 140737488355328) (hr : rest = lN R) (hR : R < 2 ^ 63) (h : ¬ (a.toInt < 0 ↔ b.toInt < 0)) (c : rest ≤ 0) (ev : v = -q) : v.toInt = V := by
  have hR0 : R = 0 := by
    rw [hr] at c
    have := (pk_lLE (b := 0) hR (by decide)).mp c
    omega
  have e1 : q.toInt = (Q : Int) := by rw [hq]; exact pk_lT (by omega)
  rw [ev, Int64.toInt_neg, e1, fx_bm64 (by omega) (by omega), hV, if_neg h, if_pos hR0]
  omega
/-- clamped to an int -/
theorem cl_1 {q : Int64} {V : Int} (hV : q.toInt = V) (c : ¬ q ≤ 2147483647) : (2147483647 : Int32).toInt = max (-2147483648) (min V 2147483647) := by
  rw [Int64.le_iff_toInt_le, show (2147483647 : Int64).toInt = 2147483647 from by decide, hV] at c
  rw [show (2147483647 : Int32).toInt = 2147483647 from by decide]
  omega
theorem cl_2 {q : Int64} {V : Int} (hV : q.toInt = V) (c : ¬ (-2147483648) ≤ q) : (-2147483648 : Int32).toInt = max (-2147483648) (min V 2147483647) := by
  rw [Int64.le_iff_toInt_le, show (-2147483648 : Int64).toInt = -2147483648 from by decide, hV] at c
  rw [show (-2147483648 : Int32).toInt = -2147483648 from by decide]
  omega
theorem cl_3 {q : Int64} {V : Int} {r : Int32} (hV : q.toInt = V) (c1 : q ≤ 2147483647) (c2 : (-2147483648) ≤ q) (er : r = q.toInt32) : r.toInt = max (-2147483648) (min V 2147483647) := by
  rw [Int64.le_iff_toInt_le, show (2147483647 : Int64).toInt = 2147483647 from by decide, hV] at c1
  rw [Int64.le_iff_toInt_le, show (-2147483648 : Int64).toInt = -2147483648 from by decide, hV] at c2
  rw [er, Int64.toInt_toInt32, hV, fx_bm32 (by omega) (by omega)]
  omega
theorem mq_fin {a b : Int32} {r : Int} (hb : ¬ b = 0) (h : r = max (-2147483648) (min ((65536 * a.toInt).fdiv b.toInt) 2147483647)) : r = sp_quot a.toInt b.toInt := by
  have hb0 := fx_ne0 b hb
  rw [Int32.toInt_toInt64] at hb0
  rw [h, sp_quot, if_neg hb0]
/-- fromHalf -/
theorem mh_s {h v8 v10 : Int32} (e8 : v8 = h >>> ((15 : Int32) &&& 31)) (e10 : v10 = v8 &&& 1) : v10 = 1 ↔ ¬ h.toBitVec.toNat / 32768 % 2 = 0 := by
  have a1 : v10 = nI (v8.toBitVec.toNat % 2 ^ 1) := by rw [e10]; exact pk_and v8 1 (by decide)
  have a2 : v8.toInt = h.toInt / 32768 := by
    rw [e8, pk_shr h _ 15 (by decide), Int.shiftRight_eq_div_pow]
    rfl
  have b1 := fx_tn h
  have b2 := fx_tn v8
  have a4 : v8.toBitVec.toNat % 2 ^ 1 = h.toBitVec.toNat / 32768 % 2 := by
    show v8.toBitVec.toNat % 2 = _
    omega
  rw [a1, a4, show (1 : Int32) = nI 1 from rfl, nI_eq (by omega) (by decide)]
  omega
theorem mh_20 {h v10 v : Int32} (hs : v10 = 1 ↔ ¬ h.toBitVec.toNat / 32768 % 2 = 0) (e : v = if v10 = 1 then 1 else 0) : v = 0 ↔ h.toBitVec.toNat / 32768 % 2 = 0 := by
  by_cases z : v10 = 1
  · have := hs.mp z
    simp [e, z, this]
  · have : h.toBitVec.toNat / 32768 % 2 = 0 := Classical.byContradiction (fun y => z (hs.mpr y))
    simp [e, z, this]
theorem mh_f {h v37 : Int32} (e : v37 = nI (h.toBitVec.toNat % 1024)) : v37 ≤ 0 ↔ h.toBitVec.toNat % 1024 = 0 := by
  rw [e, show (0 : Int32) = nI 0 from rfl, nI_leI (by omega) (by decide)]
  omega
theorem mh_sc (n : Nat) : sp_sc n * 2 = sp_hD n * 2 ^ (max (n / 1024 % 32) 1) := by
  unfold sp_sc sp_hD
  by_cases h : n / 1024 % 32 = 0
  · rw [if_pos h, if_pos h, h]
    rfl
  · rw [if_neg h, if_neg h, Nat.mul_assoc, ← Nat.pow_succ, show (n / 1024 % 32 - 1).succ = max (n / 1024 % 32) 1 by omega]
theorem mh_scb (n : Nat) : sp_sc n ≤ 2199023255552 := by
  unfold sp_sc
  split
  · omega
  · have h1 : 2 ^ (n / 1024 % 32 - 1) ≤ 2 ^ 30 := Nat.pow_le_pow_right (by decide) (by omega)
    have h2 := Nat.mul_le_mul (show 1024 + n % 1024 ≤ 2048 by omega) h1
    omega
theorem mh_v0 {h v20 : Int32} {w v : Int64} (hs : v20 = 0 ↔ h.toBitVec.toNat / 32768 % 2 = 0) (e : w = lN (sp_sc h.toBitVec.toNat)) (c : v20 = 0) (ev : v = w) : v.toInt * 2 = sp_hZ h.toBitVec.toNat * 2 ^ (max (h.toBitVec.toNat / 1024 % 32) 1) := by
  have hb := mh_scb h.toBitVec.toNat
  have h1 : v.toInt = (sp_sc h.toBitVec.toNat : Int) := by rw [ev, e]; exact pk_lT (by omega)
  have h2 := mh_sc h.toBitVec.toNat
  rw [h1, sp_hZ, if_pos (hs.mp c)]
  exact_mod_cast h2
theorem mh_v1 {h v20 : Int32} {w v : Int64} (hs : v20 = 0 ↔ h.toBitVec.toNat / 32768 % 2 = 0) (e : w = lN (sp_sc h.toBitVec.toNat)) (c : ¬ v20 = 0) (ev : v = -w) : v.toInt * 2 = sp_hZ h.toBitVec.toNat * 2 ^ (max (h.toBitVec.toNat / 1024 % 32) 1) := by
  have hb := mh_scb h.toBitVec.toNat
  have h1 : w.toInt = (sp_sc h.toBitVec.toNat : Int) := by rw [e]; exact pk_lT (by omega)
  have h2 := mh_sc h.toBitVec.toNat
  have h3 : (sp_sc h.toBitVec.toNat : Int) * 2 = (sp_hD h.toBitVec.toNat : Int) * 2 ^ (max (h.toBitVec.toNat / 1024 % 32) 1) := by exact_mod_cast h2
  rw [ev, Int64.toInt_neg, h1, fx_bm64 (by omega) (by omega), sp_hZ, if_neg (fun z => c (hs.mpr z)), Int.neg_mul, Int.neg_mul, h3]
theorem mh_sh {v v77 : Int64} {Z : Int} (h : v.toInt * 2 = Z) (e : v77 = v >>> ((8 : Int32).toInt64 &&& 63)) : v77.toInt = Z / 512 := by
  have e1 := fx_lshr v ((8 : Int32).toInt64 &&& 63) 8 (by decide)
  have e2 : v77.toInt = v.toInt / 256 := by rw [e]; exact e1
  omega
