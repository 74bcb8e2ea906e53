section
-- ===== PART A: goes FIRST, ahead of the names: the tables' words, and 'selects' of the private methods out of them =====
/-- a private method of a class that the tables say can be made, by its rows of tables_1 -/
def lw_okq (q : MethodName × Nat) : Prop := (q.1.cls ≠ "java/lang/invoke/MethodHandle" ∧ q.1.cls ≠ "java/lang/invoke/VarHandle") ∧ Cond.instantiable q.1.cls q.2 ∈ tables_1 ∧ Cond.privateMethod q.1 ∈ tables_1 ∧ Cond.instanceMethod q.1 ∈ tables_1
theorem lw_p0 : lw_okq (⟨"java/lang/Throwable", "fillInStackTrace", "(I)Ljava/lang/Throwable;"⟩, 6) := ⟨⟨by decide +kernel, by decide +kernel⟩, List.mem_of_getElem? (i := 131) (by decide +kernel), List.mem_of_getElem? (i := 129) (by decide +kernel), List.mem_of_getElem? (i := 130) (by decide +kernel)⟩
theorem lw_p1 : lw_okq (⟨"FixedNumbersModel", "exact", "(JJJ)J"⟩, 4) := ⟨⟨by decide +kernel, by decide +kernel⟩, List.mem_of_getElem? (i := 226) (by decide +kernel), List.mem_of_getElem? (i := 280) (by decide +kernel), List.mem_of_getElem? (i := 281) (by decide +kernel)⟩
theorem lw_p2 : lw_okq (⟨"FixedNumbersModel", "multiply", "(JJ)V"⟩, 4) := ⟨⟨by decide +kernel, by decide +kernel⟩, List.mem_of_getElem? (i := 226) (by decide +kernel), List.mem_of_getElem? (i := 284) (by decide +kernel), List.mem_of_getElem? (i := 285) (by decide +kernel)⟩
theorem lw_p3 : lw_okq (⟨"FixedNumbersModel", "divide", "(J)V"⟩, 4) := ⟨⟨by decide +kernel, by decide +kernel⟩, List.mem_of_getElem? (i := 226) (by decide +kernel), List.mem_of_getElem? (i := 292) (by decide +kernel), List.mem_of_getElem? (i := 293) (by decide +kernel)⟩
def lw_privs_1 : List (MethodName × Nat) := [(⟨"java/lang/Throwable", "fillInStackTrace", "(I)Ljava/lang/Throwable;"⟩, 6), (⟨"FixedNumbersModel", "exact", "(JJJ)J"⟩, 4), (⟨"FixedNumbersModel", "multiply", "(JJ)V"⟩, 4), (⟨"FixedNumbersModel", "divide", "(J)V"⟩, 4)]
theorem lw_r1 : ∀ q ∈ lw_privs_1, lw_okq q := List.forall_mem_cons.mpr ⟨lw_p0, List.forall_mem_cons.mpr ⟨lw_p1, List.forall_mem_cons.mpr ⟨lw_p2, List.forall_mem_cons.mpr ⟨lw_p3, fun _ h => absurd h List.not_mem_nil⟩⟩⟩⟩
def lw_privs : List (MethodName × Nat) := lw_privs_1
def lw_tbl : List Cond := k2_sels lw_privs ++ tables_1
theorem lw_privs_ok : ∀ q ∈ lw_privs, lw_okq q := lw_r1
-- ===== end of PART A =====
/-- the words that stay true under warmer tables -/
def WS : List Cond := lw_tbl.filter goodWord
theorem tm {w : Cond} (h : w ∈ lw_tbl) (g : goodWord w = true) : w ∈ WS := List.mem_filter.mpr ⟨h, g⟩
theorem ws_good {w0 w1 : Cond} {ex : List Cond} (h1 : ex.all (fun w => decide (w ∈ lw_tbl) && goodWord w) = true) (h2 : w1 ∈ lw_tbl) (h3 : goodWord w1 = true) : GoodIn (w0 :: WS) (ex ++ (w1 :: WS)) := by
  intro w hw
  rcases List.mem_append.mp hw with h | h
  · have h4 := List.all_eq_true.mp h1 w h
    rw [Bool.and_eq_true] at h4
    exact ⟨List.mem_cons_of_mem _ (tm (of_decide_eq_true h4.1) h4.2), good_of_word h4.2⟩
  · rcases List.mem_cons.mp h with h | h
    · rw [h]
      exact ⟨List.mem_cons_of_mem _ (tm h2 h3), good_of_word h3⟩
    · exact ⟨List.mem_cons_of_mem _ h, good_of_word (List.mem_filter.mp h).2⟩
theorem ws_goodL {w1 : Cond} {ex : List Cond} (h1 : ex.all (fun w => decide (w ∈ lw_tbl) && goodWord w) = true) (h2 : w1 ∈ lw_tbl) (h3 : goodWord w1 = true) : GoodIn lw_tbl (ex ++ (w1 :: WS)) := by
  intro w hw
  rcases List.mem_append.mp hw with h | h
  · have h4 := List.all_eq_true.mp h1 w h
    rw [Bool.and_eq_true] at h4
    exact ⟨of_decide_eq_true h4.1, good_of_word h4.2⟩
  · rcases List.mem_cons.mp h with h | h
    · rw [h]
      exact ⟨h2, good_of_word h3⟩
    · exact ⟨(List.mem_filter.mp h).1, good_of_word (List.mem_filter.mp h).2⟩
def R_F : String := "FixedNumbers"
def R_M : String := "FixedNumbersModel"
def R_L : String := "FixedNumbersLaw"
def R_J : String := "java/lang/Math"
abbrev b_F_init : ByteArray := prog_1_method_1_code
def y_F_init : MethodName := ⟨R_F, "<init>", "()V"⟩
def w_F_init : List Cond := .code y_F_init b_F_init 1 none :: WS
theorem ic_F_init : Cond.code y_F_init b_F_init 1 none ∈ lw_tbl := List.mem_of_getElem? (i := 17) rfl
abbrev b_F_product : ByteArray := prog_1_method_2_code
def y_F_product : MethodName := ⟨R_F, "product", "(II)I"⟩
def w_F_product : List Cond := .code y_F_product b_F_product 3 (some .int) :: WS
theorem ic_F_product : Cond.code y_F_product b_F_product 3 (some .int) ∈ lw_tbl := List.mem_of_getElem? (i := 25) rfl
abbrev b_F_quotient : ByteArray := prog_1_method_3_code
def y_F_quotient : MethodName := ⟨R_F, "quotient", "(II)I"⟩
def w_F_quotient : List Cond := .code y_F_quotient b_F_quotient 3 (some .int) :: WS
theorem ic_F_quotient : Cond.code y_F_quotient b_F_quotient 3 (some .int) ∈ lw_tbl := List.mem_of_getElem? (i := 29) rfl
abbrev b_J_floorDiv : ByteArray := prog_7_method_49_code
def y_J_floorDiv : MethodName := ⟨R_J, "floorDiv", "(JJ)J"⟩
def w_J_floorDiv : List Cond := .code y_J_floorDiv b_J_floorDiv 6 (some .long) :: WS
theorem ic_J_floorDiv : Cond.code y_J_floorDiv b_J_floorDiv 6 (some .long) ∈ lw_tbl := List.mem_of_getElem? (i := 35) rfl
abbrev b_F_cut : ByteArray := prog_1_method_13_code
def y_F_cut : MethodName := ⟨R_F, "cut", "(J)I"⟩
def w_F_cut : List Cond := .code y_F_cut b_F_cut 2 (some .int) :: WS
theorem ic_F_cut : Cond.code y_F_cut b_F_cut 2 (some .int) ∈ lw_tbl := List.mem_of_getElem? (i := 38) rfl
abbrev b_J_minL : ByteArray := prog_7_method_70_code
def y_J_minL : MethodName := ⟨R_J, "min", "(JJ)J"⟩
def w_J_minL : List Cond := .code y_J_minL b_J_minL 4 (some .long) :: WS
theorem ic_J_minL : Cond.code y_J_minL b_J_minL 4 (some .long) ∈ lw_tbl := List.mem_of_getElem? (i := 43) rfl
abbrev b_J_maxL : ByteArray := prog_7_method_66_code
def y_J_maxL : MethodName := ⟨R_J, "max", "(JJ)J"⟩
def w_J_maxL : List Cond := .code y_J_maxL b_J_maxL 4 (some .long) :: WS
theorem ic_J_maxL : Cond.code y_J_maxL b_J_maxL 4 (some .long) ∈ lw_tbl := List.mem_of_getElem? (i := 46) rfl
abbrev b_F_root : ByteArray := prog_1_method_4_code
def y_F_root : MethodName := ⟨R_F, "root", "(I)I"⟩
def w_F_root : List Cond := .code y_F_root b_F_root 2 (some .int) :: WS
theorem ic_F_root : Cond.code y_F_root b_F_root 2 (some .int) ∈ lw_tbl := List.mem_of_getElem? (i := 50) rfl
abbrev b_F_wholeRoot : ByteArray := prog_1_method_14_code
def y_F_wholeRoot : MethodName := ⟨R_F, "wholeRoot", "(J)I"⟩
def w_F_wholeRoot : List Cond := .code y_F_wholeRoot b_F_wholeRoot 7 (some .int) :: WS
theorem ic_F_wholeRoot : Cond.code y_F_wholeRoot b_F_wholeRoot 7 (some .int) ∈ lw_tbl := List.mem_of_getElem? (i := 53) rfl
abbrev b_F_oneByRoot : ByteArray := prog_1_method_5_code
def y_F_oneByRoot : MethodName := ⟨R_F, "oneByRoot", "(I)I"⟩
def w_F_oneByRoot : List Cond := .code y_F_oneByRoot b_F_oneByRoot 2 (some .int) :: WS
theorem ic_F_oneByRoot : Cond.code y_F_oneByRoot b_F_oneByRoot 2 (some .int) ∈ lw_tbl := List.mem_of_getElem? (i := 57) rfl
abbrev b_F_channel : ByteArray := prog_1_method_8_code
def y_F_channel : MethodName := ⟨R_F, "channel", "(I)I"⟩
def w_F_channel : List Cond := .code y_F_channel b_F_channel 3 (some .int) :: WS
theorem ic_F_channel : Cond.code y_F_channel b_F_channel 3 (some .int) ∈ lw_tbl := List.mem_of_getElem? (i := 62) rfl
abbrev b_J_minI : ByteArray := prog_7_method_69_code
def y_J_minI : MethodName := ⟨R_J, "min", "(II)I"⟩
def w_J_minI : List Cond := .code y_J_minI b_J_minI 2 (some .int) :: WS
theorem ic_J_minI : Cond.code y_J_minI b_J_minI 2 (some .int) ∈ lw_tbl := List.mem_of_getElem? (i := 66) rfl
abbrev b_J_maxI : ByteArray := prog_7_method_65_code
def y_J_maxI : MethodName := ⟨R_J, "max", "(II)I"⟩
def w_J_maxI : List Cond := .code y_J_maxI b_J_maxI 2 (some .int) :: WS
theorem ic_J_maxI : Cond.code y_J_maxI b_J_maxI 2 (some .int) ∈ lw_tbl := List.mem_of_getElem? (i := 69) rfl
abbrev b_F_fromHalf : ByteArray := prog_1_method_11_code
def y_F_fromHalf : MethodName := ⟨R_F, "fromHalf", "(I)I"⟩
def w_F_fromHalf : List Cond := .code y_F_fromHalf b_F_fromHalf 10 (some .int) :: WS
theorem ic_F_fromHalf : Cond.code y_F_fromHalf b_F_fromHalf 10 (some .int) ∈ lw_tbl := List.mem_of_getElem? (i := 74) rfl
abbrev b_F_toHalf : ByteArray := prog_1_method_12_code
def y_F_toHalf : MethodName := ⟨R_F, "toHalf", "(I)I"⟩
def w_F_toHalf : List Cond := .code y_F_toHalf b_F_toHalf 8 (some .int) :: WS
theorem ic_F_toHalf : Cond.code y_F_toHalf b_F_toHalf 8 (some .int) ∈ lw_tbl := List.mem_of_getElem? (i := 78) rfl
abbrev b_F_magnitude : ByteArray := prog_1_method_15_code
def y_F_magnitude : MethodName := ⟨R_F, "magnitude", "(J)J"⟩
def w_F_magnitude : List Cond := .code y_F_magnitude b_F_magnitude 2 (some .long) :: WS
theorem ic_F_magnitude : Cond.code y_F_magnitude b_F_magnitude 2 (some .long) ∈ lw_tbl := List.mem_of_getElem? (i := 81) rfl
abbrev b_F_highestBit : ByteArray := prog_1_method_23_code
def y_F_highestBit : MethodName := ⟨R_F, "highestBit", "(J)I"⟩
def w_F_highestBit : List Cond := .code y_F_highestBit b_F_highestBit 3 (some .int) :: WS
theorem ic_F_highestBit : Cond.code y_F_highestBit b_F_highestBit 3 (some .int) ∈ lw_tbl := List.mem_of_getElem? (i := 85) rfl
abbrev b_F_nearestEven : ByteArray := prog_1_method_24_code
def y_F_nearestEven : MethodName := ⟨R_F, "nearestEven", "(JI)I"⟩
def w_F_nearestEven : List Cond := .code y_F_nearestEven b_F_nearestEven 10 (some .int) :: WS
theorem ic_F_nearestEven : Cond.code y_F_nearestEven b_F_nearestEven 10 (some .int) ∈ lw_tbl := List.mem_of_getElem? (i := 88) rfl
abbrev b_L_ratio : ByteArray := method_3_code
def y_L_ratio : MethodName := ⟨R_L, "ratio", "(LFixedNumbers;JJJ[J)I"⟩
def w_L_ratio : List Cond := .codeWith y_L_ratio b_L_ratio 9 (some .int) [(0, 12, 15, 13)] :: WS
theorem ic_L_ratio : Cond.codeWith y_L_ratio b_L_ratio 9 (some .int) [(0, 12, 15, 13)] ∈ lw_tbl := List.mem_of_getElem? (i := 91) rfl
abbrev b_F_ratio : ByteArray := prog_1_method_6_code
def y_F_ratio : MethodName := ⟨R_F, "ratio", "(JJJ)J"⟩
def w_F_ratio : List Cond := .code y_F_ratio b_F_ratio 21 (some .long) :: WS
theorem ic_F_ratio : Cond.code y_F_ratio b_F_ratio 21 (some .long) ∈ lw_tbl := List.mem_of_getElem? (i := 96) rfl
abbrev b_F_highProduct : ByteArray := prog_1_method_17_code
def y_F_highProduct : MethodName := ⟨R_F, "highProduct", "(JJ)J"⟩
def w_F_highProduct : List Cond := .code y_F_highProduct b_F_highProduct 16 (some .long) :: WS
theorem ic_F_highProduct : Cond.code y_F_highProduct b_F_highProduct 16 (some .long) ∈ lw_tbl := List.mem_of_getElem? (i := 166) rfl
abbrev b_F_isBelow : ByteArray := prog_1_method_16_code
def y_F_isBelow : MethodName := ⟨R_F, "isBelow", "(JJ)Z"⟩
def w_F_isBelow : List Cond := .code y_F_isBelow b_F_isBelow 4 (some .boolean) :: WS
theorem ic_F_isBelow : Cond.code y_F_isBelow b_F_isBelow 4 (some .boolean) ∈ lw_tbl := List.mem_of_getElem? (i := 170) rfl
abbrev b_F_wholeQuotient : ByteArray := prog_1_method_18_code
def y_F_wholeQuotient : MethodName := ⟨R_F, "wholeQuotient", "(JJJ)J"⟩
def w_F_wholeQuotient : List Cond := .code y_F_wholeQuotient b_F_wholeQuotient 11 (some .long) :: WS
theorem ic_F_wholeQuotient : Cond.code y_F_wholeQuotient b_F_wholeQuotient 11 (some .long) ∈ lw_tbl := List.mem_of_getElem? (i := 175) rfl
abbrev b_F_fitsLong : ByteArray := prog_1_method_19_code
def y_F_fitsLong : MethodName := ⟨R_F, "fitsLong", "(JZZ)Z"⟩
def w_F_fitsLong : List Cond := .code y_F_fitsLong b_F_fitsLong 4 (some .boolean) :: WS
theorem ic_F_fitsLong : Cond.code y_F_fitsLong b_F_fitsLong 4 (some .boolean) ∈ lw_tbl := List.mem_of_getElem? (i := 178) rfl
abbrev b_F_signedDown : ByteArray := prog_1_method_20_code
def y_F_signedDown : MethodName := ⟨R_F, "signedDown", "(JZZ)J"⟩
def w_F_signedDown : List Cond := .code y_F_signedDown b_F_signedDown 4 (some .long) :: WS
theorem ic_F_signedDown : Cond.code y_F_signedDown b_F_signedDown 4 (some .long) ∈ lw_tbl := List.mem_of_getElem? (i := 181) rfl
abbrev b_L_between : ByteArray := method_4_code
def y_L_between : MethodName := ⟨R_L, "between", "(LFixedNumbers;IIJJ[J)I"⟩
def w_L_between : List Cond := .codeWith y_L_between b_L_between 9 (some .int) [(0, 14, 17, 19)] :: WS
theorem ic_L_between : Cond.codeWith y_L_between b_L_between 9 (some .int) [(0, 14, 17, 19)] ∈ lw_tbl := List.mem_of_getElem? (i := 184) rfl
abbrev b_F_between : ByteArray := prog_1_method_7_code
def y_F_between : MethodName := ⟨R_F, "between", "(IIJJ)I"⟩
def w_F_between : List Cond := .code y_F_between b_F_between 15 (some .int) :: WS
theorem ic_F_between : Cond.code y_F_between b_F_between 15 (some .int) ∈ lw_tbl := List.mem_of_getElem? (i := 189) rfl
abbrev b_L_fixed : ByteArray := method_5_code
def y_L_fixed : MethodName := ⟨R_L, "fixed", "(LFixedNumbers;I[J)I"⟩
def w_L_fixed : List Cond := .codeWith y_L_fixed b_L_fixed 4 (some .int) [(0, 9, 12, 19)] :: WS
theorem ic_L_fixed : Cond.codeWith y_L_fixed b_L_fixed 4 (some .int) [(0, 9, 12, 19)] ∈ lw_tbl := List.mem_of_getElem? (i := 209) rfl
abbrev b_F_fixed : ByteArray := prog_1_method_9_code
def y_F_fixed : MethodName := ⟨R_F, "fixed", "(I)I"⟩
def w_F_fixed : List Cond := .code y_F_fixed b_F_fixed 2 (some .int) :: WS
theorem ic_F_fixed : Cond.code y_F_fixed b_F_fixed 2 (some .int) ∈ lw_tbl := List.mem_of_getElem? (i := 213) rfl
abbrev b_F_isByte : ByteArray := prog_1_method_21_code
def y_F_isByte : MethodName := ⟨R_F, "isByte", "(I)Z"⟩
def w_F_isByte : List Cond := .code y_F_isByte b_F_isByte 1 (some .boolean) :: WS
theorem ic_F_isByte : Cond.code y_F_isByte b_F_isByte 1 (some .boolean) ∈ lw_tbl := List.mem_of_getElem? (i := 216) rfl
abbrev b_F_nearest255th : ByteArray := prog_1_method_22_code
def y_F_nearest255th : MethodName := ⟨R_F, "nearest255th", "(I)I"⟩
def w_F_nearest255th : List Cond := .code y_F_nearest255th b_F_nearest255th 1 (some .int) :: WS
theorem ic_F_nearest255th : Cond.code y_F_nearest255th b_F_nearest255th 1 (some .int) ∈ lw_tbl := List.mem_of_getElem? (i := 220) rfl
abbrev b_L_shade : ByteArray := method_6_code
def y_L_shade : MethodName := ⟨R_L, "shade", "(LFixedNumbers;II[J)I"⟩
def w_L_shade : List Cond := .codeWith y_L_shade b_L_shade 5 (some .int) [(0, 10, 13, 19)] :: WS
theorem ic_L_shade : Cond.codeWith y_L_shade b_L_shade 5 (some .int) [(0, 10, 13, 19)] ∈ lw_tbl := List.mem_of_getElem? (i := 223) rfl
abbrev b_F_shade : ByteArray := prog_1_method_10_code
def y_F_shade : MethodName := ⟨R_F, "shade", "(II)I"⟩
def w_F_shade : List Cond := .code y_F_shade b_F_shade 3 (some .int) :: WS
theorem ic_F_shade : Cond.code y_F_shade b_F_shade 3 (some .int) ∈ lw_tbl := List.mem_of_getElem? (i := 227) rfl
abbrev b_M_init : ByteArray := prog_3_method_1_code
def y_M_init : MethodName := ⟨R_M, "<init>", "()V"⟩
def w_M_init : List Cond := .code y_M_init b_M_init 1 none :: WS
theorem ic_M_init : Cond.code y_M_init b_M_init 1 none ∈ lw_tbl := List.mem_of_getElem? (i := 233) rfl
abbrev b_M_thrown : ByteArray := prog_3_method_2_code
def y_M_thrown : MethodName := ⟨R_M, "thrown", "()I"⟩
def w_M_thrown : List Cond := .code y_M_thrown b_M_thrown 1 (some .int) :: WS
theorem ic_M_thrown : Cond.code y_M_thrown b_M_thrown 1 (some .int) ∈ lw_tbl := List.mem_of_getElem? (i := 251) rfl
abbrev b_M_product : ByteArray := prog_3_method_3_code
def y_M_product : MethodName := ⟨R_M, "product", "(II)I"⟩
def w_M_product : List Cond := .code y_M_product b_M_product 7 (some .int) :: WS
theorem ic_M_product : Cond.code y_M_product b_M_product 7 (some .int) ∈ lw_tbl := List.mem_of_getElem? (i := 255) rfl
abbrev b_M_quotient : ByteArray := prog_3_method_9_code
def y_M_quotient : MethodName := ⟨R_M, "quotient", "(II)I"⟩
def w_M_quotient : List Cond := .code y_M_quotient b_M_quotient 12 (some .int) :: WS
theorem ic_M_quotient : Cond.code y_M_quotient b_M_quotient 12 (some .int) ∈ lw_tbl := List.mem_of_getElem? (i := 260) rfl
abbrev b_M_size : ByteArray := prog_3_method_5_code
def y_M_size : MethodName := ⟨R_M, "size", "(J)J"⟩
def w_M_size : List Cond := .code y_M_size b_M_size 2 (some .long) :: WS
theorem ic_M_size : Cond.code y_M_size b_M_size 2 (some .long) ∈ lw_tbl := List.mem_of_getElem? (i := 265) rfl
abbrev b_M_root : ByteArray := prog_3_method_10_code
def y_M_root : MethodName := ⟨R_M, "root", "(I)I"⟩
def w_M_root : List Cond := .code y_M_root b_M_root 8 (some .int) :: WS
theorem ic_M_root : Cond.code y_M_root b_M_root 8 (some .int) ∈ lw_tbl := List.mem_of_getElem? (i := 271) rfl
abbrev b_M_oneByRoot : ByteArray := prog_3_method_11_code
def y_M_oneByRoot : MethodName := ⟨R_M, "oneByRoot", "(I)I"⟩
def w_M_oneByRoot : List Cond := .code y_M_oneByRoot b_M_oneByRoot 8 (some .int) :: WS
theorem ic_M_oneByRoot : Cond.code y_M_oneByRoot b_M_oneByRoot 8 (some .int) ∈ lw_tbl := List.mem_of_getElem? (i := 277) rfl
abbrev b_M_ratio : ByteArray := prog_3_method_12_code
def y_M_ratio : MethodName := ⟨R_M, "ratio", "(JJJ)J"⟩
def w_M_ratio : List Cond := .code y_M_ratio b_M_ratio 9 (some .long) :: WS
theorem ic_M_ratio : Cond.code y_M_ratio b_M_ratio 9 (some .long) ∈ lw_tbl := List.mem_of_getElem? (i := 282) rfl
abbrev b_M_exact : ByteArray := prog_3_method_8_code
def y_M_exact : MethodName := ⟨R_M, "exact", "(JJJ)J"⟩
def w_M_exact : List Cond := .code y_M_exact b_M_exact 9 (some .long) :: WS
theorem ic_M_exact : Cond.code y_M_exact b_M_exact 9 (some .long) ∈ lw_tbl := List.mem_of_getElem? (i := 286) rfl
abbrev b_M_multiply : ByteArray := prog_3_method_6_code
def y_M_multiply : MethodName := ⟨R_M, "multiply", "(JJ)V"⟩
def w_M_multiply : List Cond := .code y_M_multiply b_M_multiply 8 none :: WS
theorem ic_M_multiply : Cond.code y_M_multiply b_M_multiply 8 none ∈ lw_tbl := List.mem_of_getElem? (i := 290) rfl
abbrev b_M_below : ByteArray := prog_3_method_4_code
def y_M_below : MethodName := ⟨R_M, "below", "(JJ)Z"⟩
def w_M_below : List Cond := .code y_M_below b_M_below 4 (some .boolean) :: WS
theorem ic_M_below : Cond.code y_M_below b_M_below 4 (some .boolean) ∈ lw_tbl := List.mem_of_getElem? (i := 293) rfl
abbrev b_M_divide : ByteArray := prog_3_method_7_code
def y_M_divide : MethodName := ⟨R_M, "divide", "(J)V"⟩
def w_M_divide : List Cond := .code y_M_divide b_M_divide 13 none :: WS
theorem ic_M_divide : Cond.code y_M_divide b_M_divide 13 none ∈ lw_tbl := List.mem_of_getElem? (i := 298) rfl
abbrev b_M_between : ByteArray := prog_3_method_13_code
def y_M_between : MethodName := ⟨R_M, "between", "(IIJJ)I"⟩
def w_M_between : List Cond := .code y_M_between b_M_between 7 (some .int) :: WS
theorem ic_M_between : Cond.code y_M_between b_M_between 7 (some .int) ∈ lw_tbl := List.mem_of_getElem? (i := 302) rfl
abbrev b_M_channel : ByteArray := prog_3_method_15_code
def y_M_channel : MethodName := ⟨R_M, "channel", "(I)I"⟩
def w_M_channel : List Cond := .code y_M_channel b_M_channel 2 (some .int) :: WS
theorem ic_M_channel : Cond.code y_M_channel b_M_channel 2 (some .int) ∈ lw_tbl := List.mem_of_getElem? (i := 306) rfl
abbrev b_M_nearest : ByteArray := prog_3_method_14_code
def y_M_nearest : MethodName := ⟨R_M, "nearest", "(II)I"⟩
def w_M_nearest : List Cond := .code y_M_nearest b_M_nearest 3 (some .int) :: WS
theorem ic_M_nearest : Cond.code y_M_nearest b_M_nearest 3 (some .int) ∈ lw_tbl := List.mem_of_getElem? (i := 310) rfl
abbrev b_M_fixed : ByteArray := prog_3_method_16_code
def y_M_fixed : MethodName := ⟨R_M, "fixed", "(I)I"⟩
def w_M_fixed : List Cond := .code y_M_fixed b_M_fixed 2 (some .int) :: WS
theorem ic_M_fixed : Cond.code y_M_fixed b_M_fixed 2 (some .int) ∈ lw_tbl := List.mem_of_getElem? (i := 314) rfl
abbrev b_M_shade : ByteArray := prog_3_method_17_code
def y_M_shade : MethodName := ⟨R_M, "shade", "(II)I"⟩
def w_M_shade : List Cond := .code y_M_shade b_M_shade 3 (some .int) :: WS
theorem ic_M_shade : Cond.code y_M_shade b_M_shade 3 (some .int) ∈ lw_tbl := List.mem_of_getElem? (i := 318) rfl
abbrev b_M_fromHalf : ByteArray := prog_3_method_19_code
def y_M_fromHalf : MethodName := ⟨R_M, "fromHalf", "(I)I"⟩
def w_M_fromHalf : List Cond := .code y_M_fromHalf b_M_fromHalf 7 (some .int) :: WS
theorem ic_M_fromHalf : Cond.code y_M_fromHalf b_M_fromHalf 7 (some .int) ∈ lw_tbl := List.mem_of_getElem? (i := 322) rfl
abbrev b_M_scaled : ByteArray := prog_3_method_18_code
def y_M_scaled : MethodName := ⟨R_M, "scaled", "(I)J"⟩
def w_M_scaled : List Cond := .code y_M_scaled b_M_scaled 4 (some .long) :: WS
theorem ic_M_scaled : Cond.code y_M_scaled b_M_scaled 4 (some .long) ∈ lw_tbl := List.mem_of_getElem? (i := 325) rfl
abbrev b_M_toHalf : ByteArray := prog_3_method_20_code
def y_M_toHalf : MethodName := ⟨R_M, "toHalf", "(I)I"⟩
def w_M_toHalf : List Cond := .code y_M_toHalf b_M_toHalf 11 (some .int) :: WS
theorem ic_M_toHalf : Cond.code y_M_toHalf b_M_toHalf 11 (some .int) ∈ lw_tbl := List.mem_of_getElem? (i := 330) rfl
end
section
/-! ===== lN n to 2^64: shifts, and, or, masks, one bit ===== -/
theorem wb_tb (n : Nat) : (lN n).toBitVec = BitVec.ofNat 64 n := rfl
theorem wb_inj {a b : Int64} (h : a.toBitVec = b.toBitVec) : a = b := Int64.toBitVec_inj.mp h
theorem wb_tn {n : Nat} (h : n < 2 ^ 64) : (lN n).toBitVec.toNat = n := by rw [wb_tb, BitVec.toNat_ofNat, Nat.mod_eq_of_lt h]
theorem wb_of (x : Int64) : ∃ n, n < 2 ^ 64 ∧ x = lN n := ⟨x.toBitVec.toNat, x.toBitVec.isLt, wb_inj (by rw [wb_tb]; simp)⟩
theorem wb_of32 (x : Int32) : ∃ n, n < 2 ^ 32 ∧ x = nI n := ⟨x.toBitVec.toNat, x.toBitVec.isLt, Int32.toBitVec_inj.mp (by show _ = BitVec.ofNat 32 _; simp)⟩
theorem wb_c : ∀ k, k < 64 → ((nI k).toInt64 &&& 63) = lN k := by decide +kernel
theorem wb_cu : ∀ k, k < 64 → ((nI k).toInt64.toUInt64 &&& Int64.toUInt64 63) = UInt64.ofNat k := by decide +kernel
theorem wb_sm : ∀ k, k < 64 → (BitVec.ofNat 64 k).smod 64 = BitVec.ofNat 64 k := by decide +kernel
theorem wb_pw {a b : Nat} (h : a ≤ b) : 2 ^ b = 2 ^ a * 2 ^ (b - a) := by rw [← Nat.pow_add]; congr 1; omega
theorem wb_lt2 {a b : Nat} (h : a < b) : 2 ^ a < 2 ^ b := Nat.pow_lt_pow_right (by decide) h
theorem wb_mod (n : Nat) : lN n = lN (n % 2 ^ 64) := wb_inj (by rw [wb_tb, wb_tb]; apply BitVec.eq_of_toNat_eq; rw [BitVec.toNat_ofNat, BitVec.toNat_ofNat, Nat.mod_mod])
theorem wb_shr {n k : Nat} (hn : n < 2 ^ 64) (hk : k < 64) : ((lN n).toUInt64 >>> ((nI k).toInt64.toUInt64 &&& Int64.toUInt64 63)).toInt64 = lN (n / 2 ^ k) := by
  rw [wb_cu k hk]
  apply wb_inj
  apply BitVec.eq_of_toNat_eq
  show ((lN n).toUInt64 >>> UInt64.ofNat k).toNat = (BitVec.ofNat 64 _).toNat
  have h1 : (UInt64.ofNat k).toNat = k := by
    show (BitVec.ofNat 64 k).toNat = k
    rw [BitVec.toNat_ofNat, Nat.mod_eq_of_lt (by omega)]
  have h2 : (lN n).toUInt64.toNat = n := wb_tn hn
  rw [UInt64.toNat_shiftRight, h1, h2, Nat.mod_eq_of_lt hk, Nat.shiftRight_eq_div_pow, BitVec.toNat_ofNat, Nat.mod_eq_of_lt (Nat.lt_of_le_of_lt (Nat.div_le_self _ _) hn)]
theorem wb_shl (n : Nat) {k : Nat} (hk : k < 64) : lN n <<< ((nI k).toInt64 &&& 63) = lN (n * 2 ^ k) := by
  rw [wb_c k hk]
  apply wb_inj
  rw [Int64.toBitVec_shiftLeft, wb_tb, wb_tb, wb_tb, wb_sm k hk]
  apply BitVec.eq_of_toNat_eq
  rw [BitVec.shiftLeft_eq', BitVec.toNat_shiftLeft, BitVec.toNat_ofNat, BitVec.toNat_ofNat, BitVec.toNat_ofNat, Nat.mod_eq_of_lt (show k < 2 ^ 64 by omega), Nat.shiftLeft_eq, Nat.mul_mod, Nat.mod_mod, ← Nat.mul_mod]
theorem wb_and {a b : Nat} (ha : a < 2 ^ 64) (hb : b < 2 ^ 64) : lN a &&& lN b = lN (a &&& b) := by
  apply wb_inj
  rw [Int64.toBitVec_and, wb_tb, wb_tb, wb_tb]
  apply BitVec.eq_of_toNat_eq
  rw [BitVec.toNat_and, BitVec.toNat_ofNat, BitVec.toNat_ofNat, BitVec.toNat_ofNat, Nat.mod_eq_of_lt ha, Nat.mod_eq_of_lt hb, Nat.mod_eq_of_lt (Nat.and_lt_two_pow _ hb)]
theorem wb_or {a b : Nat} (ha : a < 2 ^ 64) (hb : b < 2 ^ 64) : lN a ||| lN b = lN (a ||| b) := by
  apply wb_inj
  rw [Int64.toBitVec_or, wb_tb, wb_tb, wb_tb]
  apply BitVec.eq_of_toNat_eq
  rw [BitVec.toNat_or, BitVec.toNat_ofNat, BitVec.toNat_ofNat, BitVec.toNat_ofNat, Nat.mod_eq_of_lt ha, Nat.mod_eq_of_lt hb, Nat.mod_eq_of_lt (Nat.or_lt_two_pow ha hb)]
theorem wb_mask {n k : Nat} (hn : n < 2 ^ 64) (hk : k < 64) : lN n &&& lN (2 ^ k - 1) = lN (n % 2 ^ k) := by
  rw [wb_and hn (by have := wb_lt2 hk; omega), Nat.and_two_pow_sub_one_eq_mod]
theorem wb_a1 {n : Nat} (hn : n < 2 ^ 64) : lN n &&& 1 = lN (n % 2) := wb_mask (k := 1) hn (by decide)
theorem wb_bit {n k : Nat} (hn : n < 2 ^ 64) (hk : k < 64) : ((lN n).toUInt64 >>> ((nI k).toInt64.toUInt64 &&& Int64.toUInt64 63)).toInt64 &&& 1 = lN (n / 2 ^ k % 2) := by
  rw [wb_shr hn hk, wb_a1 (Nat.lt_of_le_of_lt (Nat.div_le_self _ _) hn)]
theorem wb_xor {q k : Nat} (hk : k < 63) (h : 2 ^ k ≤ q) (h2 : q < 2 ^ (k + 1)) : lN q ^^^ lN (2 ^ k) = lN (q - 2 ^ k) := by
  obtain ⟨r, rfl⟩ : ∃ r, q = 2 ^ k + r := ⟨q - 2 ^ k, by omega⟩
  have hr : r < 2 ^ k := by rw [Nat.pow_succ] at h2; omega
  have hx : (2 ^ k + r) ^^^ 2 ^ k = r := by
    apply Nat.eq_of_testBit_eq
    intro i
    rw [Nat.testBit_xor, Nat.testBit_two_pow]
    rcases Nat.lt_trichotomy i k with h | h | h
    · rw [Nat.testBit_two_pow_add_gt h]
      simp [show ¬ k = i by omega]
    · subst h
      rw [Nat.testBit_two_pow_add_eq]
      simp
    · have a1 : 2 ^ (k + 1) ≤ 2 ^ i := Nat.pow_le_pow_right (by decide) h
      rw [Nat.testBit_lt_two_pow (show 2 ^ k + r < 2 ^ i by omega), Nat.testBit_lt_two_pow (show r < 2 ^ i by omega)]
      simp [show ¬ k = i by omega]
  have b1 := wb_lt2 (show k + 1 < 64 by omega)
  have b2 := wb_lt2 (show k < 64 by omega)
  apply wb_inj
  rw [Int64.toBitVec_xor, wb_tb, wb_tb, wb_tb]
  apply BitVec.eq_of_toNat_eq
  rw [BitVec.toNat_xor, BitVec.toNat_ofNat, BitVec.toNat_ofNat, BitVec.toNat_ofNat, Nat.mod_eq_of_lt (by omega : 2 ^ k + r < 2 ^ 64), Nat.mod_eq_of_lt b2, hx, Nat.add_sub_cancel_left, Nat.mod_eq_of_lt (by omega)]
/-! ===== lN: masks, 'or' of parts that don't overlap is a sum ===== -/
theorem u_tn {n : Nat} (h : n < 2 ^ 64) : (UInt64.ofNat n).toNat = n := Nat.mod_eq_of_lt h
theorem g_and {a b c : Nat} (ha : a < 2 ^ 64) (hb : b < 2 ^ 64) (hc : a &&& b = c) : lN a &&& lN b = lN c := by
  subst hc
  have h : UInt64.ofNat a &&& UInt64.ofNat b = UInt64.ofNat (a &&& b) := UInt64.toNat_inj.mp (by rw [UInt64.toNat_and, u_tn ha, u_tn hb, u_tn (Nat.and_lt_two_pow a hb)])
  have h2 := congrArg UInt64.toInt64 h
  exact h2
theorem g_and1 {a : Nat} (ha : a < 2 ^ 64) : lN a &&& 1 = lN (a % 2) := g_and (b := 1) ha (by decide) (Nat.and_two_pow_sub_one_eq_mod a 1)
theorem g_mask {a s p : Nat} (hp : 2 ^ s = p) (hs : s < 64) (ha : a < 2 ^ 64) : lN a &&& lN (p - 1) = lN (a % p) := by
  subst hp
  have := Nat.pow_lt_pow_right (show 1 < 2 by decide) hs
  exact g_and ha (by omega) (Nat.and_two_pow_sub_one_eq_mod a s)
theorem g_or {k p a b : Nat} (hp : 2 ^ k = p) (ha : a < p) (h : b * p + a < 2 ^ 64) : lN (b * p) ||| lN a = lN (b * p + a) := by
  subst hp
  have h1 : b * 2 ^ k ||| a = b * 2 ^ k + a := by rw [← Nat.shiftLeft_eq, Nat.shiftLeft_add_eq_or_of_lt ha]
  have h3 : UInt64.ofNat (b * 2 ^ k) ||| UInt64.ofNat a = UInt64.ofNat (b * 2 ^ k + a) := UInt64.toNat_inj.mp (by rw [UInt64.toNat_or, u_tn (by omega), u_tn (by omega), u_tn h, h1])
  have h2 := congrArg UInt64.toInt64 h3
  exact h2
theorem g_or' {k p a b : Nat} (hp : 2 ^ k = p) (ha : a < p) (h : a + b * p < 2 ^ 64) : lN a ||| lN (b * p) = lN (a + b * p) := by
  rw [Int64.or_comm, g_or hp ha (by omega), Nat.add_comm]
theorem g_ushr {a k p : Nat} {y : UInt64} (hy : y = UInt64.ofNat k) (hk : k < 64) (hp : 2 ^ k = p) (ha : a < 2 ^ 64) : ((lN a).toUInt64 >>> y).toInt64 = lN (a / p) := by
  subst hy hp
  have h : UInt64.ofNat a >>> UInt64.ofNat k = UInt64.ofNat (a / 2 ^ k) := UInt64.toNat_inj.mp (by rw [UInt64.toNat_shiftRight, u_tn ha, u_tn (by omega), u_tn (Nat.lt_of_le_of_lt (Nat.div_le_self _ _) ha), Nat.mod_eq_of_lt hk, Nat.shiftRight_eq_div_pow])
  have h2 := congrArg UInt64.toInt64 h
  exact h2
theorem g_shl {a k p : Nat} {y : Int64} (hy : y.toBitVec.smod 64 = BitVec.ofNat 64 k) (hk : k < 64) (hp : 2 ^ k = p) (ha : a < 2 ^ 64) : lN a <<< y = lN (a * p) := by
  subst hp
  apply Int64.toBitVec_inj.mp
  rw [Int64.toBitVec_shiftLeft, hy]
  apply BitVec.eq_of_toNat_eq
  have hb : (lN a).toBitVec.toNat = a := Nat.mod_eq_of_lt ha
  have hk' : (BitVec.ofNat 64 k).toNat = k := Nat.mod_eq_of_lt (by omega)
  have h : ((lN a).toBitVec <<< BitVec.ofNat 64 k).toNat = (a * 2 ^ k) % 2 ^ 64 := by simp only [BitVec.shiftLeft_eq', BitVec.toNat_shiftLeft, hb, hk', Nat.shiftLeft_eq]
  exact h
/-! ===== lN to 2^62 under >> and >>> ===== -/
theorem pf_lI {a : Nat} (h : a < 2 ^ 63) : (lN a).toInt = (a : Int) := lg_ofNat_toInt h
theorem pf_shr {a d : Nat} {D : Int64} (hD : (D.toBitVec.smod 64).toNat = d) (h : a < 2 ^ 62) : lN a >>> D = lN (a / 2 ^ d) := by
  have hd : a / 2 ^ d ≤ a := Nat.div_le_self _ _
  apply Int64.toInt_inj.mp
  have e : (lN a >>> D).toInt = (lN a).toInt >>> d := by
    rw [← hD]
    exact BitVec.toInt_sshiftRight ..
  rw [e, Int.shiftRight_eq_div_pow, pf_lI (by omega), pf_lI (by omega)]
  rfl
theorem pf_ushr {a d : Nat} {D : UInt64} (hD : D.toNat % 64 = d) (h : a < 2 ^ 62) : ((lN a).toUInt64 >>> D).toInt64 = lN (a / 2 ^ d) := by
  have hd : a / 2 ^ d ≤ a := Nat.div_le_self _ _
  have e : (lN a).toUInt64 >>> D = UInt64.ofNat (a / 2 ^ d) := UInt64.toNat_inj.mp (by
    rw [UInt64.toNat_shiftRight, hD, Nat.shiftRight_eq_div_pow, UInt64.toNat_ofNat']
    show (UInt64.ofNat a).toNat / 2 ^ d = _
    rw [UInt64.toNat_ofNat', Nat.mod_eq_of_lt (by omega), Nat.mod_eq_of_lt (by omega)])
  rw [e]
  rfl
theorem pf_andw (x : Int64) : ∃ m, m < 2 ^ 32 ∧ x &&& 4294967295 = lN m := ⟨x.toBitVec.toNat % 2 ^ 32, Nat.mod_lt _ (by decide), Int64.toBitVec_inj.mp (BitVec.eq_of_toNat_eq (by
  show (x.toBitVec &&& 4294967295#64).toNat = (BitVec.ofNat 64 (x.toBitVec.toNat % 2 ^ 32)).toNat
  rw [BitVec.toNat_and, show (4294967295#64).toNat = 2 ^ 32 - 1 from by decide, Nat.and_two_pow_sub_one_eq_mod, BitVec.toNat_ofNat]
  omega))⟩
/-! ===== Int64 as an unsigned number: uN x ===== -/
def uN (x : Int64) : Nat := x.toUInt64.toNat
theorem uN_lt (x : Int64) : uN x < 18446744073709551616 := x.toUInt64.toNat_lt
theorem uN_inj {x y : Int64} (h : uN x = uN y) : x = y := congrArg UInt64.toInt64 (UInt64.toNat_inj.mp h)
theorem uN_add (x y : Int64) : uN (x + y) = (uN x + uN y) % 18446744073709551616 := by
  show (x.toUInt64 + y.toUInt64).toNat = _
  exact UInt64.toNat_add _ _
theorem uN_mul (x y : Int64) : uN (x * y) = (uN x * uN y) % 18446744073709551616 := by
  show (x.toUInt64 * y.toUInt64).toNat = _
  exact UInt64.toNat_mul _ _
theorem uN_shl (x : Int64) : uN (x <<< ((1 : Int32).toInt64 &&& 63)) = (2 * uN x) % 18446744073709551616 := by
  have h : (((1 : Int32).toInt64 &&& 63).toBitVec.smod 64).toNat = 1 := by decide
  show (x.toBitVec <<< (((1 : Int32).toInt64 &&& 63).toBitVec.smod 64).toNat).toNat = _
  rw [h, BitVec.toNat_shiftLeft, Nat.shiftLeft_eq, Nat.mul_comm]
  rfl
theorem uN_shr (x : Int64) (s : UInt64) : uN (x.toUInt64 >>> s).toInt64 = uN x / 2 ^ (s.toNat % 64) := by
  show (x.toUInt64 >>> s).toNat = _
  rw [UInt64.toNat_shiftRight, Nat.shiftRight_eq_div_pow]
  rfl
theorem uN_s32 (x : Int64) : uN (x.toUInt64 >>> ((32 : Int32).toInt64.toUInt64 &&& Int64.toUInt64 63)).toInt64 = uN x / 4294967296 := by
  have h : ((32 : Int32).toInt64.toUInt64 &&& Int64.toUInt64 63).toNat % 64 = 32 := by decide
  rw [uN_shr, h]
theorem uN_s63 (x : Int64) : uN (x.toUInt64 >>> ((63 : Int32).toInt64.toUInt64 &&& Int64.toUInt64 63)).toInt64 = uN x / 9223372036854775808 := by
  have h : ((63 : Int32).toInt64.toUInt64 &&& Int64.toUInt64 63).toNat % 64 = 63 := by decide
  rw [uN_shr, h]
theorem uN_lo (x : Int64) : uN (x &&& 4294967295) = uN x % 4294967296 := by
  show (x.toUInt64 &&& Int64.toUInt64 4294967295).toNat = _
  rw [UInt64.toNat_and]
  exact Nat.and_two_pow_sub_one_eq_mod _ 32
theorem uN_bit (x : Int64) : (x &&& 1) = 0 ↔ uN x % 2 = 0 := by
  have h : uN (x &&& 1) = uN x % 2 := by
    show (x.toUInt64 &&& Int64.toUInt64 1).toNat = _
    rw [UInt64.toNat_and]
    exact Nat.and_two_pow_sub_one_eq_mod _ 1
  rw [← h]
  exact ⟨fun z => by rw [z]; rfl, fun z => uN_inj (z.trans rfl)⟩
theorem uN_or {x y : Int64} (hy : uN y < 2) : uN ((x <<< ((1 : Int32).toInt64 &&& 63)) ||| y) = (2 * uN x) % 18446744073709551616 + uN y := by
  have h1 : uN ((x <<< ((1 : Int32).toInt64 &&& 63)) ||| y) = uN (x <<< ((1 : Int32).toInt64 &&& 63)) ||| uN y := UInt64.toNat_or _ _
  have h2 : (2 * uN x) % 18446744073709551616 = 2 ^ 1 * (uN x % 9223372036854775808) := by omega
  rw [h1, uN_shl, h2]
  exact (Nat.two_pow_add_eq_or_of_lt (i := 1) hy _).symm
theorem nat_xor {a : Nat} (h : a < 18446744073709551616) : a ^^^ 2 ^ 63 = (a + 9223372036854775808) % 18446744073709551616 := by
  have h1 : (a ^^^ 2 ^ 63) % 2 ^ 63 = a % 2 ^ 63 := by rw [Nat.xor_mod_two_pow, Nat.mod_self, Nat.xor_zero]
  have h2 : (a ^^^ 2 ^ 63) / 2 ^ 63 = (a / 2 ^ 63) ^^^ 1 := by rw [Nat.xor_div_two_pow, Nat.div_self (Nat.two_pow_pos 63)]
  have h3 : a / 2 ^ 63 = 0 ∨ a / 2 ^ 63 = 1 := by omega
  generalize a ^^^ 2 ^ 63 = t at h1 h2
  rcases h3 with h3 | h3
  · rw [h3] at h2
    have h2 : t / 2 ^ 63 = 1 := h2
    omega
  · rw [h3] at h2
    have h2 : t / 2 ^ 63 = 0 := h2
    omega
theorem uN_xor (x : Int64) : uN (x ^^^ (-9223372036854775808)) = (uN x + 9223372036854775808) % 18446744073709551616 := by
  rw [← nat_xor (uN_lt x)]
  exact UInt64.toNat_xor _ _
theorem uN_int (x : Int64) : x.toInt = if 2 * uN x < 18446744073709551616 then (uN x : Int) else (uN x : Int) - 18446744073709551616 := BitVec.toInt_eq_toNat_cond _
theorem uN_le (x y : Int64) : (x ^^^ (-9223372036854775808)) ≤ (y ^^^ (-9223372036854775808)) ↔ uN x ≤ uN y := by
  have hx := uN_lt x
  have hy := uN_lt y
  rw [Int64.le_iff_toInt_le, uN_int, uN_int, uN_xor, uN_xor]
  omega
theorem uN_sk (x : Int64) {k : Nat} (hk : k < 64) : uN (x.toUInt64 >>> ((nI k).toInt64.toUInt64 &&& Int64.toUInt64 63)).toInt64 = uN x / 2 ^ k := by
  have h : ((nI k).toInt64.toUInt64 &&& Int64.toUInt64 63).toNat % 64 = k := by
    rw [nI_l (by omega), UInt64.toNat_and]
    have e : (lN k).toUInt64.toNat = k % 2 ^ 64 := rfl
    have e2 : (Int64.toUInt64 63).toNat = 2 ^ 6 - 1 := by decide
    rw [e, e2, Nat.and_two_pow_sub_one_eq_mod]
    omega
  rw [uN_shr, h]
/-! ===== unsigned comparison by xor with the least ===== -/
theorem lN_bv (n : Nat) : (lN n).toBitVec = BitVec.ofNat 64 n := rfl
theorem lN_nat {n : Nat} (h : n < 2 ^ 64) : (lN n).toBitVec.toNat = n := by rw [lN_bv, BitVec.toNat_ofNat]; exact Nat.mod_eq_of_lt h
theorem lN_xor (a b : Nat) : lN a ^^^ lN b = lN (a ^^^ b) := by
  apply Int64.toBitVec_inj.mp; rw [Int64.toBitVec_xor, lN_bv, lN_bv, lN_bv]; apply BitVec.eq_of_getLsbD_eq; intro i hi; simp [BitVec.getLsbD_ofNat, Nat.testBit_xor, hi]
theorem lN_ti {m : Nat} (h : m < 2 ^ 64) : (lN m).toInt = if m < 2 ^ 63 then (m : Int) else (m : Int) - 2 ^ 64 := by
  have c := BitVec.toInt_eq_toNat_cond (lN m).toBitVec
  rw [lN_nat h] at c
  show (lN m).toBitVec.toInt = _
  rw [c]
  split <;> split <;> omega
theorem xor63 {x : Nat} (h : x < 2 ^ 63) : x ^^^ 2 ^ 63 = 2 ^ 63 + x := by
  apply Nat.eq_of_testBit_eq
  intro i
  rw [Nat.testBit_xor, Nat.testBit_two_pow]
  rcases Nat.lt_trichotomy i 63 with z | z | z
  · rw [Nat.testBit_two_pow_add_gt z, decide_eq_false (by omega)]; simp
  · subst z; rw [Nat.testBit_two_pow_add_eq]; simp
  · have hp : 2 ^ 64 ≤ 2 ^ i := Nat.pow_le_pow_right (by decide) z
    rw [Nat.testBit_lt_two_pow (show x < 2 ^ i by omega), Nat.testBit_lt_two_pow (show 2 ^ 63 + x < 2 ^ i by omega), decide_eq_false (by omega)]; rfl
theorem xorS {a : Nat} (h : a < 2 ^ 64) : (lN a ^^^ (-9223372036854775808)).toInt = (a : Int) - 2 ^ 63 := by
  rw [show (-9223372036854775808 : Int64) = lN (2 ^ 63) from by decide +kernel, lN_xor]
  rcases Nat.lt_or_ge a (2 ^ 63) with z | z
  · rw [xor63 z, lN_ti (by omega), if_neg (by omega)]; omega
  · obtain ⟨x, rfl⟩ : ∃ x, a = 2 ^ 63 + x := ⟨a - 2 ^ 63, by omega⟩
    rw [← xor63 (by omega), Nat.xor_assoc, Nat.xor_self, Nat.xor_zero, lN_ti (by omega), if_pos (by omega), xor63 (by omega)]; omega
theorem ultL {a b : Nat} (ha : a < 2 ^ 64) (hb : b < 2 ^ 64) : ((lN b ^^^ (-9223372036854775808)) ≤ (lN a ^^^ (-9223372036854775808))) ↔ b ≤ a := by
  rw [Int64.le_iff_toInt_le, xorS ha, xorS hb]; omega
/-! the numbers of the class: each row says what an expression of a method's road is worth, as an integer -/
theorem fx_i32 (x : Int32) : -2147483648 ≤ x.toInt ∧ x.toInt ≤ 2147483647 := by
  have h1 := x.le_toInt
  have h2 := x.toInt_lt
  omega
theorem fx_i64 (x : Int64) : -9223372036854775808 ≤ x.toInt ∧ x.toInt ≤ 9223372036854775807 := by
  have h1 := x.le_toInt
  have h2 := x.toInt_lt
  omega
theorem fx_mulb {a b : Int} {A B : Nat} (ha : a.natAbs ≤ A) (hb : b.natAbs ≤ B) : (a * b).natAbs ≤ A * B := by
  rw [Int.natAbs_mul]
  exact Nat.mul_le_mul ha hb
theorem fx_bm64 {x : Int} (h1 : -9223372036854775808 ≤ x) (h2 : x ≤ 9223372036854775807) : x.bmod (2 ^ 64) = x := Int.bmod_eq_of_le (by omega) (by omega)
theorem fx_bm32 {x : Int} (h1 : -2147483648 ≤ x) (h2 : x ≤ 2147483647) : x.bmod (2 ^ 32) = x := Int.bmod_eq_of_le (by omega) (by omega)
theorem fx_lmul (x y : Int64) (h : (x.toInt * y.toInt).natAbs ≤ 9223372036854775807) : (x * y).toInt = x.toInt * y.toInt := by
  rw [Int64.toInt_mul]
  exact fx_bm64 (by omega) (by omega)
theorem fx_lshr (x D : Int64) (d : Nat) (hD : (D.toBitVec.smod 64).toNat = d) : (x >>> D).toInt = x.toInt / ((2 ^ d : Nat) : Int) := by
  have e : (x >>> D).toInt = x.toInt >>> d := by
    rw [← hD]
    exact BitVec.toInt_sshiftRight ..
  rw [e, Int.shiftRight_eq_div_pow]
theorem fx_l16 (a : Int32) (v : Int64) (e : v = 65536 * a.toInt64) : v.toInt = 65536 * a.toInt := by
  have ha := fx_i32 a
  have c1 : (65536 : Int64).toInt = 65536 := by decide
  rw [e, fx_lmul, c1, Int32.toInt_toInt64]
  rw [c1, Int32.toInt_toInt64]
  omega
/-- product -/
theorem fx_product (a b : Int32) : ((a.toInt64 * b.toInt64) >>> ((16 : Int32).toInt64 &&& 63)).toInt32.toInt = (a.toInt * b.toInt / 65536).bmod (2 ^ 32) := by
  have ha := fx_i32 a
  have hb := fx_i32 b
  have hm := fx_mulb (a := a.toInt) (b := b.toInt) (A := 2147483648) (B := 2147483648) (by omega) (by omega)
  have e1 : (a.toInt64 * b.toInt64).toInt = a.toInt * b.toInt := by
    rw [fx_lmul, Int32.toInt_toInt64, Int32.toInt_toInt64]
    rw [Int32.toInt_toInt64, Int32.toInt_toInt64]
    omega
  rw [Int64.toInt_toInt32, fx_lshr _ _ 16 (by decide), e1]
  rfl
/-- cut -/
theorem fx_cut (v m w : Int64) (hm : m = if (2147483647 : Int64) < v then 2147483647 else v) (hw : w = if m < (-2147483648) then -2147483648 else m) : w.toInt32.toInt = max (-2147483648) (min v.toInt 2147483647) := by
  have c1 : (2147483647 : Int64).toInt = 2147483647 := by decide
  have c2 : (-2147483648 : Int64).toInt = -2147483648 := by decide
  have h1 : m.toInt = min v.toInt 2147483647 := by
    by_cases h : (2147483647 : Int64) < v
    · rw [hm, if_pos h, c1]
      rw [Int64.lt_iff_toInt_lt, c1] at h
      omega
    · rw [hm, if_neg h]
      rw [Int64.lt_iff_toInt_lt, c1] at h
      omega
  have h2 : w.toInt = max (-2147483648) (min v.toInt 2147483647) := by
    by_cases h : m < (-2147483648)
    · rw [hw, if_pos h, c2]
      rw [Int64.lt_iff_toInt_lt, c2] at h
      omega
    · rw [hw, if_neg h]
      rw [Int64.lt_iff_toInt_lt, c2] at h
      omega
  rw [Int64.toInt_toInt32, fx_bm32 (by omega) (by omega), h2]
theorem bx3 {A B C : Prop} [Decidable A] [Decidable B] [Decidable C] (h : decide A = (decide B ^^ decide C)) : A ↔ ¬ (B ↔ C) := by
  by_cases a : A <;> by_cases b : B <;> by_cases c : C <;> simp_all
/-- the sign of a xor of longs -/
theorem fx_xor (x y : Int64) : (x ^^^ y) < 0 ↔ ¬ (x.toInt < 0 ↔ y.toInt < 0) := by
  have h0 : (0 : Int64).toInt = 0 := by decide
  rw [Int64.lt_iff_toInt_lt, h0]
  have e1 : (x ^^^ y).toBitVec.msb = (x.toBitVec.msb ^^ y.toBitVec.msb) := by rw [Int64.toBitVec_xor, BitVec.msb_xor]
  rw [BitVec.msb_eq_toInt, BitVec.msb_eq_toInt, BitVec.msb_eq_toInt] at e1
  have a1 : (x ^^^ y).toBitVec.toInt = (x ^^^ y).toInt := rfl
  have a2 : x.toBitVec.toInt = x.toInt := rfl
  have a3 : y.toBitVec.toInt = y.toInt := rfl
  rw [a1, a2, a3] at e1
  exact bx3 e1
/-- quotients: down, by way of a quotient toward 0 -/
theorem fx_fdiv (a b : Int) (hb : b ≠ 0) : a.fdiv b = if (a < 0 ∧ 0 < b ∨ 0 < a ∧ b < 0) ∧ a.tdiv b * b ≠ a then a.tdiv b - 1 else a.tdiv b := by
  have hd : a.tdiv b * b = a ↔ b ∣ a := by
    constructor
    · intro h
      exact ⟨a.tdiv b, by rw [Int.mul_comm]; exact h.symm⟩
    · exact fun h => Int.tdiv_mul_cancel h
  rw [Int.fdiv_eq_tdiv]
  by_cases h : b ∣ a
  · rw [if_pos h, if_neg (fun z => z.2 (hd.mpr h))]
    omega
  · have ha : a ≠ 0 := fun z => h (by rw [z]; exact Int.dvd_zero b)
    rw [if_neg h]
    by_cases h1 : 0 ≤ a <;> by_cases h2 : 0 ≤ b <;> simp only [h1, h2, if_true, if_false]
    · rw [if_neg (by omega)]
      omega
    · rw [if_pos ⟨by omega, fun z => h (hd.mp z)⟩]
    · rw [if_pos ⟨by omega, fun z => h (hd.mp z)⟩, Int.sign_eq_one_of_pos (by omega)]
    · rw [if_neg (by omega), Int.sign_eq_neg_one_of_neg (by omega)]
      omega
theorem fx_tdivb (a b : Int) : (a.tdiv b).natAbs ≤ a.natAbs := by
  rw [Int.natAbs_tdiv]
  exact Nat.div_le_self _ _
/-- Math.floorDiv, by its roads -/
theorem fx_ldiv (x y r : Int64) (hx : -9223372036854775808 < x.toInt) (hr : r = x / y) : r.toInt = x.toInt.tdiv y.toInt := by
  have h := fx_tdivb x.toInt y.toInt
  have h1 := fx_i64 x
  rw [hr, Int64.toInt_div, fx_bm64 (by omega) (by omega)]
theorem fx_fd1 (x y r : Int64) (hy : y.toInt ≠ 0) (hx : -9223372036854775808 < x.toInt) (hr : r = x / y) (h : ¬ (x ^^^ y) < 0 ∨ r * y = x) : r.toInt = x.toInt.fdiv y.toInt := by
  have e1 := fx_ldiv x y r hx hr
  rw [fx_fdiv _ _ hy, if_neg, e1]
  rintro ⟨h1, h2⟩
  rcases h with h | h
  · rw [fx_xor] at h
    omega
  · apply h2
    rw [← e1, ← h, fx_lmul]
    have h3 : (r.toInt * y.toInt).natAbs = (x.toInt.tdiv y.toInt).natAbs * y.toInt.natAbs := by rw [e1, Int.natAbs_mul]
    rw [h3, Int.natAbs_tdiv]
    have h4 := Nat.div_mul_le_self x.toInt.natAbs y.toInt.natAbs
    have h5 := fx_i64 x
    exact Nat.le_trans h4 (by omega)
theorem fx_fd2 (x y r q w : Int64) (hy : y.toInt ≠ 0) (hx : -9223372036854775808 < x.toInt) (hr : r = x / y) (h : (x ^^^ y) < 0) (hw : w = r * y) (hne : ¬ w = x) (hq : q = r - 1) : q.toInt = x.toInt.fdiv y.toInt := by
  have e1 := fx_ldiv x y r hx hr
  have h5 := fx_i64 x
  have h6 := fx_tdivb x.toInt y.toInt
  have h3 : (r.toInt * y.toInt).natAbs ≤ x.toInt.natAbs := by
    rw [e1, Int.natAbs_mul, Int.natAbs_tdiv]
    exact Nat.div_mul_le_self x.toInt.natAbs y.toInt.natAbs
  have e2 : w.toInt = r.toInt * y.toInt := by
    rw [hw, fx_lmul]
    omega
  have hne2 : x.toInt.tdiv y.toInt * y.toInt ≠ x.toInt := fun z => hne (Int64.toInt_inj.mp (by rw [e2, e1]; exact z))
  rw [fx_xor] at h
  have hx0 : x.toInt ≠ 0 := fun z => hne2 (by rw [z]; simp)
  rw [fx_fdiv _ _ hy, if_pos ⟨by omega, hne2⟩, hq, Int64.toInt_sub, e1, show (1 : Int64).toInt = 1 from by decide]
  have h7 : (x.toInt.tdiv y.toInt) * y.toInt ≠ x.toInt := hne2
  have h8 : -9223372036854775808 < x.toInt.tdiv y.toInt := by omega
  exact fx_bm64 (by omega) (by omega)
/-- the greatest root, by bits -/
def dn (k : Nat) : Int32 := nI k - 1
theorem dn_0 : dn 0 = -1 := by decide
theorem dn_s (k : Nat) : dn (k + 1) = nI k := nI_pred k
theorem dn_m (k : Nat) : nI k + Int32.ofInt (-1) = dn k := by
  show nI k + Int32.ofInt (-1) = nI k - 1
  rw [Int32.sub_eq_add_neg]
  rfl
/-! unsigned -/
theorem fx_uadd (x y : Int64) (h : uN x + uN y < 18446744073709551616) : uN (x + y) = uN x + uN y := by rw [uN_add, Nat.mod_eq_of_lt h]
theorem fx_umul (x y : Int64) (h : uN x * uN y < 18446744073709551616) : uN (x * y) = uN x * uN y := by rw [uN_mul, Nat.mod_eq_of_lt h]
theorem fx_uneg (x : Int64) : (uN (-x) + uN x) % 18446744073709551616 = 0 := by
  rw [← uN_add, Int64.add_comm, Int64.add_right_neg]
  rfl
theorem fx_usub (x y : Int64) (h : uN y ≤ uN x) : uN (x - y) = uN x - uN y := by
  have e1 : uN (x - y + y) = uN x := by rw [Int64.sub_add_cancel]
  rw [uN_add] at e1
  have h1 := uN_lt (x - y)
  have h2 := uN_lt x
  omega
theorem fx_and1 (x : Int64) : uN (x &&& 1) = uN x % 2 := by
  show (x.toUInt64 &&& Int64.toUInt64 1).toNat = _
  rw [UInt64.toNat_and]
  exact Nat.and_two_pow_sub_one_eq_mod _ 1
theorem fx_abs1 (v w : Int64) (h : v < 0) (e : w = -v) : uN w = v.toInt.natAbs := by
  have h0 : (0 : Int64).toInt = 0 := by decide
  rw [Int64.lt_iff_toInt_lt, h0] at h
  have h1 := fx_uneg v
  have h2 := uN_int v
  have h3 := uN_lt v
  have h4 := uN_lt (-v)
  rw [e]
  split at h2 <;> omega
theorem fx_abs2 (v : Int64) (h : ¬ v < 0) : uN v = v.toInt.natAbs := by
  have h0 : (0 : Int64).toInt = 0 := by decide
  rw [Int64.lt_iff_toInt_lt, h0] at h
  have h2 := uN_int v
  have h3 := uN_lt v
  split at h2 <;> omega
/-- the upper half of a product -/
theorem fx_hpN {x y xl xh yl yh A B C D : Nat} (hx : x = xh * 4294967296 + xl) (hy : y = yh * 4294967296 + yl) (hA : A = xh * yl) (hB : B = xl * yl) (hC : C = xl * yh) (hD : D = xh * yh) :
    D + (A + B / 4294967296) / 4294967296 + (C + (A + B / 4294967296) % 4294967296) / 4294967296 = x * y / 18446744073709551616 := by
  have e0 : x * y = D * 18446744073709551616 + (A + C) * 4294967296 + B := by
    rw [hx, hy, Nat.add_mul, Nat.mul_add, Nat.mul_add]
    have e1 : xh * 4294967296 * (yh * 4294967296) = xh * yh * (4294967296 * 4294967296) := Nat.mul_mul_mul_comm ..
    have e2 : xh * 4294967296 * yl = xh * yl * 4294967296 := Nat.mul_right_comm ..
    have e3 : xl * (yh * 4294967296) = xl * yh * 4294967296 := (Nat.mul_assoc ..).symm
    rw [e1, e2, e3, ← hA, ← hB, ← hC, ← hD]
    omega
  rw [e0]
  omega
theorem fx_mul32 {a b : Nat} (ha : a < 4294967296) (hb : b < 4294967296) : a * b ≤ 18446744065119617025 := by
  have h := Nat.mul_le_mul (show a ≤ 4294967295 by omega) (show b ≤ 4294967295 by omega)
  omega
/-- one bit more of a quotient -/
theorem fx_bit (L k : Nat) : L / 2 ^ k = 2 * (L / 2 ^ (k + 1)) + L / 2 ^ k % 2 := by
  have h : L / 2 ^ (k + 1) = L / 2 ^ k / 2 := by rw [Nat.pow_succ, Nat.div_div_eq_div_mul]
  rw [h]
  omega
/-! what the answers are -/
def sp_quot (a b : Int) : Int := if b = 0 then (if 0 < a then 2147483647 else if a < 0 then -2147483648 else 0) else max (-2147483648) (min ((65536 * a).fdiv b) 2147483647)
theorem fx_q0p (a b : Int32) (hb : b = 0) (ha : ¬ a ≤ 0) : (2147483647 : Int32).toInt = sp_quot a.toInt b.toInt := by
  have z : (0 : Int32).toInt = 0 := by decide
  rw [Int32.le_iff_toInt_le, z] at ha
  rw [hb, z, sp_quot, if_pos rfl, if_pos (by omega)]
  decide
theorem fx_q0n (a b : Int32) (hb : b = 0) (ha : ¬ 0 ≤ a) : (-2147483648 : Int32).toInt = sp_quot a.toInt b.toInt := by
  have z : (0 : Int32).toInt = 0 := by decide
  rw [Int32.le_iff_toInt_le, z] at ha
  rw [hb, z, sp_quot, if_pos rfl, if_neg (by omega), if_pos (by omega)]
  decide
theorem fx_q00 (a b : Int32) (hb : b = 0) (h1 : a ≤ 0) (h2 : 0 ≤ a) : (0 : Int32).toInt = sp_quot a.toInt b.toInt := by
  have z : (0 : Int32).toInt = 0 := by decide
  rw [Int32.le_iff_toInt_le, z] at h1 h2
  rw [hb, z, sp_quot, if_pos rfl, if_neg (by omega), if_neg (by omega)]
theorem fx_ne0 (b : Int32) (h : ¬ b = 0) : b.toInt64.toInt ≠ 0 := by
  rw [Int32.toInt_toInt64]
  intro z
  exact h (Int32.toInt_inj.mp (by rw [z]; decide))
theorem fx_q1 (a b r : Int32) (x y q : Int64) (hb : ¬ b = 0) (ex : x = 65536 * a.toInt64) (ey : y = b.toInt64) (hq : q.toInt = x.toInt.fdiv y.toInt) (hr : r.toInt = max (-2147483648) (min q.toInt 2147483647)) : r.toInt = sp_quot a.toInt b.toInt := by
  have h := fx_ne0 b hb
  rw [Int32.toInt_toInt64] at h
  rw [hr, hq, fx_l16 a x ex, ey, Int32.toInt_toInt64, sp_quot, if_neg h]
/-- the greatest root -/
def sp_isr (n : Int) (r : Int) : Prop := 0 ≤ r ∧ r * r ≤ n ∧ n < (r + 1) * (r + 1)
theorem sp_isr_one {n r q : Int} (h : sp_isr n r) (k : sp_isr n q) : r = q := by
  obtain ⟨h1, h2, h3⟩ := h
  obtain ⟨k1, k2, k3⟩ := k
  rcases Int.lt_trichotomy r q with z | z | z
  · have := Int.mul_le_mul (show r + 1 ≤ q by omega) (show r + 1 ≤ q by omega) (by omega) k1
    omega
  · exact z
  · have := Int.mul_le_mul (show q + 1 ≤ r by omega) (show q + 1 ≤ r by omega) (by omega) h1
    omega
theorem fx_below1 (x y a b : Int64) (ea : a = x ^^^ (-9223372036854775808)) (eb : b = y ^^^ (-9223372036854775808)) (h : ¬ b ≤ a) : (1 : Int32) = if uN x < uN y then 1 else 0 := by
  rw [ea, eb, uN_le] at h
  rw [if_pos (by omega)]
theorem fx_below0 (x y a b : Int64) (ea : a = x ^^^ (-9223372036854775808)) (eb : b = y ^^^ (-9223372036854775808)) (h : b ≤ a) : (0 : Int32) = if uN x < uN y then 1 else 0 := by
  rw [ea, eb, uN_le] at h
  rw [if_neg (by omega)]
theorem fx_high (x y xl xh yl yh A B B2 M C M2 O D M3 DM O2 r : Int64) (e1 : xl = x &&& 4294967295) (e2 : xh = (x.toUInt64 >>> ((32 : Int32).toInt64.toUInt64 &&& Int64.toUInt64 63)).toInt64) (e3 : yl = y &&& 4294967295) (e4 : yh = (y.toUInt64 >>> ((32 : Int32).toInt64.toUInt64 &&& Int64.toUInt64 63)).toInt64)
    (e5 : A = xh * yl) (e6 : B = xl * yl) (e7 : B2 = (B.toUInt64 >>> ((32 : Int32).toInt64.toUInt64 &&& Int64.toUInt64 63)).toInt64) (e8 : M = A + B2) (e9 : C = xl * yh) (e10 : M2 = M &&& 4294967295) (e11 : O = C + M2) (e12 : D = xh * yh) (e13 : M3 = (M.toUInt64 >>> ((32 : Int32).toInt64.toUInt64 &&& Int64.toUInt64 63)).toInt64) (e14 : DM = D + M3) (e15 : O2 = (O.toUInt64 >>> ((32 : Int32).toInt64.toUInt64 &&& Int64.toUInt64 63)).toInt64) (e16 : r = DM + O2) :
    uN r = uN x * uN y / 18446744073709551616 := by
  have hx := uN_lt x
  have hy := uN_lt y
  have f1 : uN xl = uN x % 4294967296 := by rw [e1, uN_lo]
  have f2 : uN xh = uN x / 4294967296 := by rw [e2, uN_s32]
  have f3 : uN yl = uN y % 4294967296 := by rw [e3, uN_lo]
  have f4 : uN yh = uN y / 4294967296 := by rw [e4, uN_s32]
  have b1 : uN xl < 4294967296 := by omega
  have b2 : uN xh < 4294967296 := by omega
  have b3 : uN yl < 4294967296 := by omega
  have b4 : uN yh < 4294967296 := by omega
  have p1 := fx_mul32 b2 b3
  have p2 := fx_mul32 b1 b3
  have p3 := fx_mul32 b1 b4
  have p4 := fx_mul32 b2 b4
  have f5 : uN A = uN xh * uN yl := by rw [e5]; exact fx_umul _ _ (by omega)
  have f6 : uN B = uN xl * uN yl := by rw [e6]; exact fx_umul _ _ (by omega)
  have f9 : uN C = uN xl * uN yh := by rw [e9]; exact fx_umul _ _ (by omega)
  have f12 : uN D = uN xh * uN yh := by rw [e12]; exact fx_umul _ _ (by omega)
  have f7 : uN B2 = uN B / 4294967296 := by rw [e7, uN_s32]
  have f8 : uN M = uN A + uN B2 := by rw [e8]; exact fx_uadd _ _ (by omega)
  have f10 : uN M2 = uN M % 4294967296 := by rw [e10, uN_lo]
  have f11 : uN O = uN C + uN M2 := by rw [e11]; exact fx_uadd _ _ (by omega)
  have f13 : uN M3 = uN M / 4294967296 := by rw [e13, uN_s32]
  have f15 : uN O2 = uN O / 4294967296 := by rw [e15, uN_s32]
  have g := fx_hpN (x := uN x) (y := uN y) (xl := uN xl) (xh := uN xh) (yl := uN yl) (yh := uN yh) (A := uN A) (B := uN B) (C := uN C) (D := uN D) (by omega) (by omega) f5 f6 f9 f12
  have f14 : uN DM = uN D + uN M3 := by rw [e14]; exact fx_uadd _ _ (by omega)
  have f16 : uN r = uN DM + uN O2 := by rw [e16]; exact fx_uadd _ _ (by omega)
  rw [f16, f14, f13, f15, f11, f10, f8, f7]
  exact g
theorem fx_byte1 (x : Int32) (h1 : ¬ x < 0) (h2 : ¬ 255 < x) : (1 : Int32) = if 0 ≤ x.toInt ∧ x.toInt ≤ 255 then 1 else 0 := by
  have z : (0 : Int32).toInt = 0 := by decide
  have z2 : (255 : Int32).toInt = 255 := by decide
  rw [Int32.lt_iff_toInt_lt, z] at h1
  rw [Int32.lt_iff_toInt_lt, z2] at h2
  rw [if_pos (by omega)]
theorem fx_byte0 (x : Int32) (h : x < 0 ∨ 255 < x) : (0 : Int32) = if 0 ≤ x.toInt ∧ x.toInt ≤ 255 then 1 else 0 := by
  have z : (0 : Int32).toInt = 0 := by decide
  have z2 : (255 : Int32).toInt = 255 := by decide
  rw [Int32.lt_iff_toInt_lt, z, Int32.lt_iff_toInt_lt, z2] at h
  rw [if_neg (by omega)]
theorem fx_255 (x a b r : Int32) (h0 : 0 ≤ x.toInt) (h1 : x.toInt ≤ 16711680) (ea : a = 2 * x) (eb : b = a + 255) (er : r = b / 510) : r.toInt = (2 * x.toInt + 255) / 510 := by
  have z2 : (2 : Int32).toInt = 2 := by decide
  have z3 : (255 : Int32).toInt = 255 := by decide
  have z5 : (510 : Int32).toInt = 510 := by decide
  have f1 : a.toInt = 2 * x.toInt := by rw [ea, Int32.toInt_mul, z2, fx_bm32 (by omega) (by omega)]
  have f2 : b.toInt = 2 * x.toInt + 255 := by rw [eb, Int32.toInt_add, z3, f1, fx_bm32 (by omega) (by omega)]
  rw [er, Int32.toInt_div, z5, f2, Int.tdiv_eq_ediv_of_nonneg (by omega), fx_bm32 (by omega) (by omega)]
/-- wholeRoot: one bit -/
theorem fx_rt {f S j : Nat} (h1 : f * f ≤ S) (h2 : S < (f + 2 ^ (j + 1)) * (f + 2 ^ (j + 1))) : ((f + 2 ^ j) * (f + 2 ^ j) ≤ S → (f + 2 ^ j) * (f + 2 ^ j) ≤ S ∧ S < (f + 2 ^ j + 2 ^ j) * (f + 2 ^ j + 2 ^ j)) := by
  intro h
  refine ⟨h, ?_⟩
  have e : f + 2 ^ j + 2 ^ j = f + 2 ^ (j + 1) := by rw [Nat.pow_succ]; omega
  rw [e]
  exact h2
/-- oneByRoot: by a whole quotient -/
theorem fx_obr {n a r : Int} (ha : 0 < a) (h : sp_isr (n / a) r) : 0 ≤ r ∧ r * r * a ≤ n ∧ n < (r + 1) * (r + 1) * a := by
  obtain ⟨h1, h2, h3⟩ := h
  refine ⟨h1, (Int.le_ediv_iff_mul_le ha).mp h2, ?_⟩
  exact (Int.ediv_lt_iff_lt_mul ha).mp h3
theorem dn_nn {n : Nat} {i : Int32} (hn : n < 1000) (hi : i = dn n) (h : ¬ i < 0) : ∃ j, n = j + 1 ∧ i = nI j := by
  cases n with
  | zero => exact absurd (by rw [hi]; decide) h
  | succ j => exact ⟨j, rfl, by rw [hi]; exact dn_s j⟩
theorem dn_neg {n : Nat} {i : Int32} (hn : n < 1000) (hi : i = dn n) (h : i < 0) : n = 0 := by
  cases n with
  | zero => rfl
  | succ j =>
    rw [hi, dn_s] at h
    exact absurd h (nI_pos (by omega))
theorem dn_i {i v : Int32} {j : Nat} (hi : i = nI j) (e : v = i + Int32.ofInt (-1)) : v = dn j := by rw [e, hi]; exact dn_m j
theorem fx_of (x : Int64) {N : Int} (h0 : 0 ≤ x.toInt) (h1 : x.toInt ≤ N) : ∃ S : Nat, x = lN S ∧ x.toInt = (S : Int) ∧ (S : Int) ≤ N ∧ S < 2 ^ 63 := by
  have z : (0 : Int64).toInt = 0 := by decide
  obtain ⟨k, hk, rfl⟩ := pk_lOf (x := x) (by rw [Int64.lt_iff_toInt_lt, z]; omega)
  have e := pk_lT hk
  exact ⟨k, rfl, e, by omega, hk⟩
/-- wholeRoot's road through its loop -/
def rt_I (S : Nat) (n : Nat) (z : Int64 × Int32) : Prop := z.2 = dn n ∧ n ≤ 25 ∧ ∃ f : Nat, z.1 = lN f ∧ f + 2 ^ n ≤ 33554432 ∧ f * f ≤ S ∧ S < (f + 2 ^ n) * (f + 2 ^ n)
theorem rt_0 {S : Nat} (hS : S ≤ 281474976710656) : rt_I S 25 (0, 24) := ⟨by decide, by decide, 0, by decide, by decide, Nat.zero_le _, by show S < _; omega⟩
theorem rt_try {x found v15 v16 v23 : Int64} {i : Int32} {j S f : Nat} (hx : x = lN S) (hS : S ≤ 281474976710656) (hi : i = nI j) (hj : j + 1 ≤ 25) (hf : found = lN f) (hb : f + 2 ^ (j + 1) ≤ 33554432)
    (e15 : v15 = 1 <<< (i.toInt64 &&& 63)) (e16 : v16 = found + v15) (e23 : v23 = v16 * v16) : v16 = lN (f + 2 ^ j) ∧ (x < v23 ↔ S < (f + 2 ^ j) * (f + 2 ^ j)) := by
  have e1 : v15 = lN (2 ^ j) := by
    rw [e15, hi]
    have := wb_shl 1 (show j < 64 by omega)
    rw [Nat.one_mul] at this
    exact this
  have e2 : v16 = lN (f + 2 ^ j) := by rw [e16, hf, e1, lN_add]
  have hp : 2 ^ j ≤ 2 ^ (j + 1) := Nat.pow_le_pow_right (by decide) (by omega)
  have hm := Nat.mul_le_mul (show f + 2 ^ j ≤ 33554432 by omega) (show f + 2 ^ j ≤ 33554432 by omega)
  refine ⟨e2, ?_⟩
  rw [hx, e23, e2, lN_mul, pk_lLT (by omega) (by omega)]
theorem rt_yes {S : Nat} {j : Nat} {i v32 : Int32} {f : Nat} {v16 : Int64} (hi : i = nI j) (hj : j + 1 ≤ 25) (e : v16 = lN (f + 2 ^ j)) (hb : f + 2 ^ (j + 1) ≤ 33554432) (h2 : S < (f + 2 ^ (j + 1)) * (f + 2 ^ (j + 1))) (h : (f + 2 ^ j) * (f + 2 ^ j) ≤ S) (ev : v32 = i + Int32.ofInt (-1)) : rt_I S j (v16, v32) := by
  have e0 : f + 2 ^ j + 2 ^ j = f + 2 ^ (j + 1) := by rw [Nat.pow_succ]; omega
  exact ⟨dn_i hi ev, by omega, f + 2 ^ j, e, by rw [e0]; exact hb, h, by rw [e0]; exact h2⟩
theorem rt_no {S : Nat} {j : Nat} {i v32 : Int32} {f : Nat} {found : Int64} (hi : i = nI j) (hj : j + 1 ≤ 25) (hf : found = lN f) (hb : f + 2 ^ (j + 1) ≤ 33554432) (h1 : f * f ≤ S) (h : S < (f + 2 ^ j) * (f + 2 ^ j)) (ev : v32 = i + Int32.ofInt (-1)) : rt_I S j (found, v32) := by
  have hp : 2 ^ (j + 1) = 2 ^ j + 2 ^ j := by rw [Nat.pow_succ]; omega
  have hq := Nat.two_pow_pos j
  exact ⟨dn_i hi ev, by omega, f, hf, by omega, h1, h⟩
theorem rt_end {x found : Int64} {r : Int32} {S f : Nat} (hxS : x.toInt = (S : Int)) (hf : found = lN f) (hb : f + 2 ^ 0 ≤ 33554432) (h1 : f * f ≤ S) (h2 : S < (f + 2 ^ 0) * (f + 2 ^ 0)) (er : r = found.toInt32) : sp_isr x.toInt r.toInt := by
  have e : r = nI f := by rw [er, hf]; exact lN_i f
  have e2 : r.toInt = (f : Int) := by rw [e]; exact nI_toInt (by omega)
  rw [hxS, e2]
  exact ⟨by omega, by exact_mod_cast h1, by exact_mod_cast h2⟩
/-- wholeQuotient's road -/
def wq_I (h l d : Int64) (n : Nat) (z : Int64 × Int64 × Int32) : Prop := z.2.2 = dn n ∧ n ≤ 64 ∧ uN z.1 < uN d ∧ uN z.2.1 < 2 ^ (64 - n) ∧ uN h * 2 ^ (64 - n) + uN l / 2 ^ n = uN z.2.1 * uN d + uN z.1
theorem wq_0 (h l d : Int64) (hd : uN h < uN d) : wq_I h l d 64 (h, 0, 63) := ⟨show (63 : Int32) = dn 64 by decide, by decide, hd, by show uN 0 < 1; decide, by
  have hl := uN_lt l
  show uN h * 1 + uN l / 18446744073709551616 = 0 * uN d + uN h
  rw [Nat.div_eq_of_lt hl]
  omega⟩
theorem wq_try {l d rest whole v18 v22 v24 v25 v31 : Int64} {i : Int32} {j : Nat} (hd2 : uN d ≤ 9223372036854775808) (hi : i = nI j) (hj : j + 1 ≤ 64) (h1 : uN rest < uN d) (h2 : uN whole < 2 ^ (64 - (j + 1)))
    (e18 : v18 = rest <<< ((1 : Int32).toInt64 &&& 63)) (e22 : v22 = (l.toUInt64 >>> (i.toInt64.toUInt64 &&& Int64.toUInt64 63)).toInt64) (e24 : v24 = v22 &&& 1) (e25 : v25 = v18 ||| v24) (e31 : v31 = whole <<< ((1 : Int32).toInt64 &&& 63)) :
    uN v25 = 2 * uN rest + uN l / 2 ^ j % 2 ∧ uN v31 = 2 * uN whole ∧ uN (v31 ||| 1) = 2 * uN whole + 1 := by
  have a1 : uN v24 = uN l / 2 ^ j % 2 := by rw [e24, fx_and1, e22, hi, uN_sk l (by omega)]
  have a2 : uN v24 < 2 := by omega
  have p : 2 ^ (64 - (j + 1)) ≤ 2 ^ 63 := Nat.pow_le_pow_right (by decide) (by omega)
  refine ⟨?_, ?_, ?_⟩
  · rw [e25, e18, uN_or a2, Nat.mod_eq_of_lt (by omega), a1]
  · rw [e31, uN_shl, Nat.mod_eq_of_lt (by omega)]
  · have u1 : uN 1 = 1 := by decide
    rw [e31, uN_or (by rw [u1]; decide), Nat.mod_eq_of_lt (by omega), u1]
theorem wq_sum {H L D w r j t : Nat} (ht : t + (j + 1) = 64) (e : H * 2 ^ t + L / 2 ^ (j + 1) = w * D + r) : H * 2 ^ (t + 1) + L / 2 ^ j = 2 * w * D + (2 * r + L / 2 ^ j % 2) := by
  have b := fx_bit L j
  have c : H * 2 ^ (t + 1) = 2 * (H * 2 ^ t) := by rw [Nat.pow_succ, ← Nat.mul_assoc, Nat.mul_comm]
  have c2 : 2 * w * D = 2 * (w * D) := Nat.mul_assoc ..
  rw [c, c2]
  omega
theorem wq_lo {h l d rest whole v25 v31 : Int64} {i v57 : Int32} {j : Nat} (hi : i = nI j) (hj : j + 1 ≤ 64) (h2 : uN whole < 2 ^ (64 - (j + 1))) (h3 : uN h * 2 ^ (64 - (j + 1)) + uN l / 2 ^ (j + 1) = uN whole * uN d + uN rest)
    (f1 : uN v25 = 2 * uN rest + uN l / 2 ^ j % 2) (f2 : uN v31 = 2 * uN whole) (hlt : uN v25 < uN d) (ev : v57 = i + Int32.ofInt (-1)) : wq_I h l d j (v25, v31, v57) := by
  have e := wq_sum (t := 64 - (j + 1)) (by omega) h3
  have ht : 64 - (j + 1) + 1 = 64 - j := by omega
  have hp : 2 ^ (64 - j) = 2 ^ (64 - (j + 1)) * 2 := by rw [← ht, Nat.pow_succ]
  rw [ht] at e
  refine ⟨dn_i hi ev, by omega, hlt, ?_, ?_⟩
  · show uN v31 < _
    omega
  · show _ = uN v31 * uN d + uN v25
    rw [e, f1, f2]
theorem wq_hi {h l d rest whole v25 v48 v54 : Int64} {i v57 : Int32} {j : Nat} (hi : i = nI j) (hj : j + 1 ≤ 64) (h1 : uN rest < uN d) (h2 : uN whole < 2 ^ (64 - (j + 1))) (h3 : uN h * 2 ^ (64 - (j + 1)) + uN l / 2 ^ (j + 1) = uN whole * uN d + uN rest)
    (f1 : uN v25 = 2 * uN rest + uN l / 2 ^ j % 2) (f3 : uN v54 = 2 * uN whole + 1) (e48 : v48 = v25 - d) (hge : ¬ uN v25 < uN d) (ev : v57 = i + Int32.ofInt (-1)) : wq_I h l d j (v48, v54, v57) := by
  have e := wq_sum (t := 64 - (j + 1)) (by omega) h3
  have ht : 64 - (j + 1) + 1 = 64 - j := by omega
  have hp : 2 ^ (64 - j) = 2 ^ (64 - (j + 1)) * 2 := by rw [← ht, Nat.pow_succ]
  rw [ht] at e
  have f4 : uN v48 = uN v25 - uN d := by rw [e48]; exact fx_usub _ _ (by omega)
  refine ⟨dn_i hi ev, by omega, ?_, ?_, ?_⟩
  · show uN v48 < uN d
    omega
  · show uN v54 < _
    omega
  · show _ = uN v54 * uN d + uN v48
    rw [e, f3, f4, Nat.add_mul, Nat.one_mul, f1]
    omega
theorem wq_end {h l d whole rest : Int64} (hd : 0 < uN d) (h1 : uN rest < uN d) (h3 : uN h * 2 ^ (64 - 0) + uN l / 2 ^ 0 = uN whole * uN d + uN rest) : uN whole = (uN h * 18446744073709551616 + uN l) / uN d := by
  have e : uN h * 18446744073709551616 + uN l = uN whole * uN d + uN rest := by
    have := h3
    rw [Nat.pow_zero, Nat.div_one] at this
    exact this
  rw [e, Nat.add_comm, Nat.add_mul_div_right _ _ hd, Nat.div_eq_of_lt h1, Nat.zero_add]
/-- highestBit -/
def hb_I (S : Nat) (n : Nat) (z : Int32) : Prop := z = nI n ∧ n ≤ 31 ∧ S < 2 ^ (n + 1)
theorem hb_sh {x v9 : Int64} {S n : Nat} (hx : x = lN S) (hS : S < 2 ^ 62) (hn : n < 64) (e9 : v9 = x >>> ((nI n).toInt64 &&& 63)) : v9 = lN (S / 2 ^ n) := by
  rw [e9, hx, wb_c n hn]
  exact pf_shr (by rw [wb_tb, wb_sm n hn, BitVec.toNat_ofNat]; omega) hS
theorem lN_0 {n : Nat} (h : n < 2 ^ 63) : lN n = 0 ↔ n = 0 := pk_lEQ (b := 0) h (by decide)
theorem hb_go {x v9 : Int64} {S n : Nat} {i v15 : Int32} (hx : x = lN S) (hS : S < 2 ^ 62) (hi : i = nI n) (hn : n ≤ 31) (h0 : ¬ i ≤ 0) (e9 : v9 = x >>> (i.toInt64 &&& 63)) (hz : v9 = 0) (ev : v15 = i + Int32.ofInt (-1)) : ∃ j, n = j + 1 ∧ hb_I S j v15 := by
  cases n with
  | zero => exact absurd (by rw [hi]; decide) h0
  | succ j =>
    refine ⟨j, rfl, ?_, by omega, ?_⟩
    · rw [ev, hi, dn_m, dn_s]
    · rw [hi] at e9
      rw [hb_sh hx hS (by omega) e9, lN_0 (Nat.lt_of_le_of_lt (Nat.div_le_self _ _) (by omega))] at hz
      exact (Nat.div_eq_zero_iff_lt (Nat.two_pow_pos _)).mp hz
theorem hb_nz {x v9 : Int64} {S n : Nat} {i : Int32} (hx : x = lN S) (hS : S < 2 ^ 62) (hi : i = nI n) (hn : n ≤ 31) (e9 : v9 = x >>> (i.toInt64 &&& 63)) (hz : ¬ v9 = 0) : 2 ^ n ≤ S := by
  rw [hi] at e9
  rw [hb_sh hx hS (by omega) e9, lN_0 (Nat.lt_of_le_of_lt (Nat.div_le_self _ _) (by omega))] at hz
  rcases Nat.lt_or_ge S (2 ^ n) with h | h
  · exact absurd (Nat.div_eq_of_lt h) hz
  · exact h
theorem hb_z {n : Nat} {i : Int32} (hi : i = nI n) (hn : n ≤ 31) (h0 : i ≤ 0) : n = 0 := by
  cases n with
  | zero => rfl
  | succ j => rw [hi] at h0; exact absurd h0 (nI_nle (by omega) (by omega))
/-- nearestEven -/
def sp_ne (s k : Nat) : Nat := s / 2 ^ k + (if 2 ^ k < 2 * (s % 2 ^ k) ∨ (2 * (s % 2 ^ k) = 2 ^ k ∧ s / 2 ^ k % 2 = 1) then 1 else 0)
theorem ne_all {x v2 v7 v8 v10 v15 : Int64} {i : Int32} {s k : Nat} (hx : x = lN s) (hs : s ≤ 2147483648) (hi : i = nI k) (hk : k ≤ 31) (e2 : v2 = x >>> (i.toInt64 &&& 63)) (e7 : v7 = v2 <<< (i.toInt64 &&& 63)) (e8 : v8 = x - v7) (e10 : v10 = v8 <<< ((1 : Int32).toInt64 &&& 63)) (e15 : v15 = 1 <<< (i.toInt64 &&& 63)) :
    v2 = lN (s / 2 ^ k) ∧ v10 = lN (2 * (s % 2 ^ k)) ∧ v15 = lN (2 ^ k) := by
  rw [hi] at e2 e7 e15
  have f2 := hb_sh hx (by omega) (by omega) e2
  have f7 : v7 = lN (s / 2 ^ k * 2 ^ k) := by rw [e7, f2, wb_shl _ (by omega)]
  have hle : s / 2 ^ k * 2 ^ k ≤ s := Nat.div_mul_le_self _ _
  have hmod : s - s / 2 ^ k * 2 ^ k = s % 2 ^ k := by
    have := Nat.div_add_mod s (2 ^ k)
    rw [Nat.mul_comm] at this
    omega
  have f8 : v8 = lN (s % 2 ^ k) := by rw [e8, hx, f7, lN_sub hle, hmod]
  refine ⟨f2, ?_, ?_⟩
  · have := wb_shl (s % 2 ^ k) (show 1 < 64 by decide)
    rw [Nat.pow_one, Nat.mul_comm] at this
    rw [e10, f8]
    exact this
  · have := wb_shl 1 (show k < 64 by omega)
    rw [Nat.one_mul] at this
    rw [e15]
    exact this
theorem ne_cmp {v2 v10 v15 : Int64} {s k : Nat} (hs : s ≤ 2147483648) (hk : k ≤ 31) (f2 : v2 = lN (s / 2 ^ k)) (f10 : v10 = lN (2 * (s % 2 ^ k))) (f15 : v15 = lN (2 ^ k)) :
    (v15 < v10 ↔ 2 ^ k < 2 * (s % 2 ^ k)) ∧ (v10 = v15 ↔ 2 * (s % 2 ^ k) = 2 ^ k) ∧ (v2 &&& 1 = 1 ↔ s / 2 ^ k % 2 = 1) := by
  have h1 : s / 2 ^ k ≤ s := Nat.div_le_self _ _
  have h2 : s % 2 ^ k ≤ s := Nat.mod_le _ _
  have h3 : 2 ^ k ≤ 2 ^ 31 := Nat.pow_le_pow_right (by decide) hk
  refine ⟨?_, ?_, ?_⟩
  · rw [f15, f10, pk_lLT (by omega) (by omega)]
  · rw [f15, f10, pk_lEQ (by omega) (by omega)]
  · rw [f2, wb_a1 (by omega)]
    exact pk_lEQ (b := 1) (by omega) (by decide)
theorem ne_yes {v2 v56 : Int64} {r : Int32} {s k : Nat} (f2 : v2 = lN (s / 2 ^ k)) (e56 : v56 = v2 + 1) (er : r = v56.toInt32) (h : 2 ^ k < 2 * (s % 2 ^ k) ∨ (2 * (s % 2 ^ k) = 2 ^ k ∧ s / 2 ^ k % 2 = 1)) : r = nI (sp_ne s k) := by
  rw [er, e56, f2, lN_1, lN_i, sp_ne, if_pos h]
theorem ne_no {v2 : Int64} {r : Int32} {s k : Nat} (f2 : v2 = lN (s / 2 ^ k)) (er : r = v2.toInt32) (h : ¬ (2 ^ k < 2 * (s % 2 ^ k) ∨ (2 * (s % 2 ^ k) = 2 ^ k ∧ s / 2 ^ k % 2 = 1))) : r = nI (sp_ne s k) := by
  rw [er, f2, lN_i, sp_ne, if_neg h, Nat.add_zero]
/-- root -/
def sp_root (a : Int) (r : Int) : Prop := if a < 0 then r = 0 else sp_isr (65536 * a) r
theorem sp_root_one {a r q : Int} (h : sp_root a r) (k : sp_root a q) : r = q := by
  unfold sp_root at h k
  by_cases z : a < 0
  · rw [if_pos z] at h k
    omega
  · rw [if_neg z] at h k
    exact sp_isr_one h k
theorem fx_root0 (a : Int32) (h : ¬ 0 ≤ a) : sp_root a.toInt (0 : Int32).toInt := by
  have z : (0 : Int32).toInt = 0 := by decide
  rw [Int32.le_iff_toInt_le, z] at h
  rw [z, sp_root, if_pos (by omega)]
theorem fx_ge (a : Int32) (h : 0 ≤ a) : 0 ≤ a.toInt := by
  have z : (0 : Int32).toInt = 0 := by decide
  rw [Int32.le_iff_toInt_le, z] at h
  exact h
theorem fx_root1 (a r : Int32) (x : Int64) (h : 0 ≤ a) (ex : x = 65536 * a.toInt64) (hr : sp_isr x.toInt r.toInt) : sp_root a.toInt r.toInt := by
  have h1 := fx_ge a h
  rw [fx_l16 a x ex] at hr
  rw [sp_root, if_neg (by omega)]
  exact hr
theorem fx_rootb (a : Int32) (x : Int64) (h : 0 ≤ a) (ex : x = 65536 * a.toInt64) : 0 ≤ x.toInt ∧ x.toInt ≤ 281474976710656 := by
  have h1 := fx_ge a h
  have h2 := fx_i32 a
  rw [fx_l16 a x ex]
  omega
/-- oneByRoot -/
def sp_obr (a : Int) (r : Int) : Prop := if a ≤ 0 then r = 2147483647 else 0 ≤ r ∧ r * r * a ≤ 281474976710656 ∧ 281474976710656 < (r + 1) * (r + 1) * a
theorem sp_obr_one {a r q : Int} (h : sp_obr a r) (k : sp_obr a q) : r = q := by
  unfold sp_obr at h k
  by_cases z : a ≤ 0
  · rw [if_pos z] at h k
    omega
  · rw [if_neg z] at h k
    obtain ⟨h1, h2, h3⟩ := h
    obtain ⟨k1, k2, k3⟩ := k
    have ha : 0 < a := by omega
    exact sp_isr_one (n := 281474976710656 / a) ⟨h1, (Int.le_ediv_iff_mul_le ha).mpr h2, (Int.ediv_lt_iff_lt_mul ha).mpr h3⟩ ⟨k1, (Int.le_ediv_iff_mul_le ha).mpr k2, (Int.ediv_lt_iff_lt_mul ha).mpr k3⟩
theorem fx_obr0 (a : Int32) (h : ¬ 0 < a) : sp_obr a.toInt (2147483647 : Int32).toInt := by
  have z : (0 : Int32).toInt = 0 := by decide
  rw [Int32.lt_iff_toInt_lt, z] at h
  rw [sp_obr, if_pos (by omega)]
  decide
theorem fx_obrx (a : Int32) (x y : Int64) (h : 0 < a) (ey : y = a.toInt64) (ex : x = 281474976710656 / y) : x.toInt = 281474976710656 / a.toInt := by
  have c : (281474976710656 : Int64).toInt = 281474976710656 := by decide
  have e := fx_ldiv 281474976710656 y x (by rw [c]; decide) ex
  rw [e, c, ey, Int32.toInt_toInt64, Int.tdiv_eq_ediv_of_nonneg (by decide)]
theorem fx_gt (a : Int32) (h : 0 < a) : 0 < a.toInt := by
  have z : (0 : Int32).toInt = 0 := by decide
  rw [Int32.lt_iff_toInt_lt, z] at h
  exact h
theorem fx_obrb (a : Int32) (x y : Int64) (h : 0 < a) (ey : y = a.toInt64) (ex : x = 281474976710656 / y) : 0 ≤ x.toInt ∧ x.toInt ≤ 281474976710656 := by
  have h1 := fx_gt a h
  rw [fx_obrx a x y h ey ex]
  exact ⟨Int.ediv_nonneg (by decide) (by omega), Int.ediv_le_self _ (by decide)⟩
theorem fx_obr1 (a r : Int32) (x y : Int64) (h : 0 < a) (ey : y = a.toInt64) (ex : x = 281474976710656 / y) (hr : sp_isr x.toInt r.toInt) : sp_obr a.toInt r.toInt := by
  have h1 := fx_gt a h
  rw [fx_obrx a x y h ey ex] at hr
  rw [sp_obr, if_neg (by omega)]
  exact fx_obr h1 hr
theorem fx_obrz (a : Int32) (y : Int64) (h : 0 < a) (ey : y = a.toInt64) : ¬ y = 0 := by
  have h1 := fx_gt a h
  intro z
  have q : a.toInt64.toInt = 0 := by rw [← ey, z]; decide
  rw [Int32.toInt_toInt64] at q
  omega
/-- channel -/
def sp_chan (a : Int) : Int := (255 * max 0 (min a 65536) + 32768) / 65536
theorem fx_chan (a m h v15 v18 r : Int32) (em : m = if (65536 : Int32) < a then 65536 else a) (eh : h = if (0 : Int32) < m then m else 0) (e15 : v15 = 255 * h) (e18 : v18 = v15 + 32768) (er : r = v18 >>> ((16 : Int32) &&& 31)) : r.toInt = sp_chan a.toInt := by
  have z0 : (0 : Int32).toInt = 0 := by decide
  have z1 : (65536 : Int32).toInt = 65536 := by decide
  have z2 : (255 : Int32).toInt = 255 := by decide
  have z3 : (32768 : Int32).toInt = 32768 := by decide
  have f1 : m.toInt = min a.toInt 65536 := by
    by_cases q : (65536 : Int32) < a
    · rw [em, if_pos q, z1]
      rw [Int32.lt_iff_toInt_lt, z1] at q
      omega
    · rw [em, if_neg q]
      rw [Int32.lt_iff_toInt_lt, z1] at q
      omega
  have f2 : h.toInt = max 0 (min a.toInt 65536) := by
    by_cases q : (0 : Int32) < m
    · rw [eh, if_pos q]
      rw [Int32.lt_iff_toInt_lt, z0] at q
      omega
    · rw [eh, if_neg q, z0]
      rw [Int32.lt_iff_toInt_lt, z0] at q
      omega
  have f3 : v15.toInt = 255 * max 0 (min a.toInt 65536) := by rw [e15, Int32.toInt_mul, z2, f2, fx_bm32 (by omega) (by omega)]
  have f4 : v18.toInt = 255 * max 0 (min a.toInt 65536) + 32768 := by rw [e18, Int32.toInt_add, z3, f3, fx_bm32 (by omega) (by omega)]
  rw [er, pk_shr _ _ 16 (by decide), f4, Int.shiftRight_eq_div_pow]
  rfl
/-! quotients of whole numbers, by their sizes -/
theorem fx_fdn (n d : Nat) (hd : 0 < d) : (-(n : Int)).fdiv (d : Int) = -((n / d : Nat) : Int) - (if n % d = 0 then 0 else 1) := by
  have h0 : (d : Int) ≠ 0 := by omega
  have hdiv : ((d : Int) ∣ (n : Int)) ↔ n % d = 0 := by
    rw [Int.natCast_dvd_natCast]
    exact Nat.dvd_iff_mod_eq_zero ..
  rw [Int.fdiv_eq_tdiv, Int.neg_tdiv]
  have e1 : (n : Int).tdiv (d : Int) = ((n / d : Nat) : Int) := rfl
  rw [e1]
  by_cases h : n % d = 0
  · rw [if_pos (by rw [Int.dvd_neg]; exact hdiv.mpr h), if_pos h]
  · rw [if_neg (by rw [Int.dvd_neg]; exact fun z => h (hdiv.mp z)), if_neg h]
    have hn : 0 < n := by
      rcases Nat.eq_zero_or_pos n with z | z
      · exact absurd (by rw [z]; exact Nat.zero_mod d) h
      · exact z
    rw [if_neg (by omega), if_pos (by omega), Int.sign_eq_one_of_pos (by omega)]
theorem fx_fdp (n d : Nat) : (n : Int).fdiv (d : Int) = ((n / d : Nat) : Int) := by
  rw [Int.fdiv_eq_tdiv_of_nonneg (by omega) (by omega)]
  rfl
theorem fx_fnn (a b : Int) : (-a).fdiv (-b) = a.fdiv b := by
  by_cases hb : b = 0
  · subst hb
    simp
  · rw [fx_fdiv _ _ (by omega), fx_fdiv _ _ hb, Int.neg_tdiv, Int.tdiv_neg, Int.neg_neg]
    have e : a.tdiv b * -b ≠ -a ↔ a.tdiv b * b ≠ a := by
      rw [Int.mul_neg]
      omega
    have e2 : (-a < 0 ∧ 0 < -b ∨ 0 < -a ∧ -b < 0) ↔ (a < 0 ∧ 0 < b ∨ 0 < a ∧ b < 0) := by omega
    by_cases q : (a < 0 ∧ 0 < b ∨ 0 < a ∧ b < 0) ∧ a.tdiv b * b ≠ a
    · rw [if_pos q, if_pos ⟨e2.mpr q.1, e.mpr q.2⟩]
    · rw [if_neg q, if_neg (fun z => q ⟨e2.mp z.1, e.mp z.2⟩)]
/-- z / c, down, by the sizes and by whether one of the two is below 0 -/
theorem fx_fabs (z c : Int) (hc : c ≠ 0) : z.fdiv c = if (z < 0 ↔ c < 0) then ((z.natAbs / c.natAbs : Nat) : Int) else -((z.natAbs / c.natAbs : Nat) : Int) - (if z.natAbs % c.natAbs = 0 then 0 else 1) := by
  have hcp : 0 < c.natAbs := Int.natAbs_pos.mpr hc
  by_cases h1 : z < 0 <;> by_cases h2 : c < 0
  · rw [if_pos (by simp [h1, h2]), ← fx_fnn, ← fx_fdp]
    rw [show -z = (z.natAbs : Int) by omega, show -c = (c.natAbs : Int) by omega]
  · rw [if_neg (by simp [h1, h2])]
    conv => lhs; rw [show z = -(z.natAbs : Int) by omega, show c = (c.natAbs : Int) by omega]
    exact fx_fdn _ _ hcp
  · rw [if_neg (by simp [h1, h2]), ← fx_fnn]
    conv => lhs; rw [show -z = -(z.natAbs : Int) by omega, show -c = (c.natAbs : Int) by omega]
    exact fx_fdn _ _ hcp
  · rw [if_pos (by simp [h1, h2]), ← fx_fdp]
    rw [show (z.natAbs : Int) = z by omega, show (c.natAbs : Int) = c by omega]
theorem fx_sgn {a b : Int} (ha : a ≠ 0) (hb : b ≠ 0) : a * b < 0 ↔ ¬ (a < 0 ↔ b < 0) := by
  constructor
  · intro h
    by_cases h1 : a < 0 <;> by_cases h2 : b < 0
    · have := Int.mul_pos_of_neg_of_neg h1 h2
      omega
    · simp [h1, h2]
    · simp [h1, h2]
    · have := Int.mul_nonneg (show 0 ≤ a by omega) (show 0 ≤ b by omega)
      omega
  · intro h
    by_cases h1 : a < 0 <;> by_cases h2 : b < 0
    · simp [h1, h2] at h
    · exact Int.mul_neg_of_neg_of_pos h1 (by omega)
    · exact Int.mul_neg_of_pos_of_neg (by omega) h2
    · simp [h1, h2] at h
/-- a * b / c, down: by sizes, and by the sign of the three together -/
abbrev sp_neg (a b c : Int) : Prop := ¬ (¬ (a < 0 ↔ b < 0) ↔ c < 0)
theorem fx_rat (a b c : Int) (hc : c ≠ 0) (q r : Nat) (hq : q = a.natAbs * b.natAbs / c.natAbs) (hr : r = a.natAbs * b.natAbs % c.natAbs) : (sp_neg a b c → (a * b).fdiv c = -(q : Int) - (if r = 0 then 0 else 1)) ∧ (¬ sp_neg a b c → (a * b).fdiv c = (q : Int)) := by
  have e := fx_fabs (a * b) c hc
  rw [Int.natAbs_mul, ← hq, ← hr] at e
  by_cases h0 : a = 0 ∨ b = 0
  · have hz : a * b = 0 := by
      rcases h0 with z | z
      · rw [z, Int.zero_mul]
      · rw [z, Int.mul_zero]
    have hn : a.natAbs * b.natAbs = 0 := by rw [← Int.natAbs_mul, hz]; rfl
    have q0 : q = 0 := by rw [hq, hn, Nat.zero_div]
    have r0 : r = 0 := by rw [hr, hn, Nat.zero_mod]
    rw [hz, Int.zero_fdiv, q0, r0]
    simp
  · have ha : a ≠ 0 := fun z => h0 (Or.inl z)
    have hb : b ≠ 0 := fun z => h0 (Or.inr z)
    have hs := fx_sgn ha hb
    constructor
    · intro h
      rw [e, if_neg (fun z => h (hs.symm.trans z))]
    · intro h
      rw [e, if_pos (hs.trans (Classical.not_not.mp h))]
theorem fx_xorI (x y : Int64) : (x ^^^ y).toInt < 0 ↔ ¬ (x.toInt < 0 ↔ y.toInt < 0) := by
  have h := fx_xor x y
  rw [Int64.lt_iff_toInt_lt, show (0 : Int64).toInt = 0 from by decide] at h
  exact h
theorem ra_neg {a b c v w : Int64} (ev : v = a ^^^ b) (ew : w = v ^^^ c) : (0 : Int64) ≤ w ↔ ¬ sp_neg a.toInt b.toInt c.toInt := by
  rw [Int64.le_iff_toInt_le, show (0 : Int64).toInt = 0 from by decide, ← Int.not_lt]
  apply not_congr
  rw [ew, fx_xorI, ev, fx_xorI]
/-- the 128 bits of a product, by their halves -/
theorem ra_P {x y hi lo : Int64} (h1 : uN hi = uN x * uN y / 18446744073709551616) (h2 : lo = x * y) : uN hi * 18446744073709551616 + uN lo = uN x * uN y := by
  have h3 : uN lo = uN x * uN y % 18446744073709551616 := by rw [h2, uN_mul]
  omega
theorem ra_rest {lo w d m : Int64} {P : Nat} (hd0 : 0 < uN d) (hd2 : uN d ≤ 9223372036854775808) (hlo : uN lo = P % 18446744073709551616) (hw : uN w = P / uN d) (em : m = w * d) : m = lo ↔ P % uN d = 0 := by
  have e1 : uN m = uN w * uN d % 18446744073709551616 := by rw [em, uN_mul]
  have e2 : P = uN w * uN d + P % uN d := by
    rw [hw, Nat.mul_comm]
    exact (Nat.div_add_mod P (uN d)).symm
  have e3 := Nat.mod_lt P hd0
  generalize P % uN d = r at e2 e3 ⊢
  generalize uN w * uN d = Q at e1 e2
  constructor
  · intro h
    rw [h] at e1
    omega
  · intro h
    apply uN_inj
    omega
theorem ra_low {x y lo : Int64} (h2 : lo = x * y) : uN lo = uN x * uN y % 18446744073709551616 := by rw [h2, uN_mul]
theorem ra_pos (w : Int64) : (0 : Int64) ≤ w ↔ uN w < 9223372036854775808 := by
  have h := uN_int w
  have h2 := uN_lt w
  rw [Int64.le_iff_toInt_le, show (0 : Int64).toInt = 0 from by decide]
  split at h <;> omega
theorem ra_min (w : Int64) : w = -9223372036854775808 ↔ uN w = 9223372036854775808 := by
  have e : uN (-9223372036854775808) = 9223372036854775808 := by decide +kernel
  constructor
  · intro h
    rw [h, e]
  · intro h
    exact uN_inj (by rw [h, e])
theorem ra_toInt (w : Int64) (h : uN w < 9223372036854775808) : w.toInt = (uN w : Int) := by
  have h2 := uN_int w
  split at h2 <;> omega
theorem ra_negI (w : Int64) (h : uN w ≤ 9223372036854775808) : (-w).toInt = -(uN w : Int) := by
  have h1 := fx_uneg w
  have h2 := uN_int (-w)
  have h3 := uN_lt (-w)
  have h4 := uN_lt w
  split at h2 <;> omega
theorem ra_neg1 (w v r : Int64) (h : uN w < 9223372036854775808) (ev : v = -w) (er : r = v - 1) : r.toInt = -(uN w : Int) - 1 := by
  have h1 : v.toInt = -(uN w : Int) := by rw [ev]; exact ra_negI w (by omega)
  rw [er, Int64.toInt_sub, h1, show (1 : Int64).toInt = 1 from by decide, fx_bm64 (by omega) (by omega)]
/-- signedDown of a whole quotient -/
theorem ra_down {w r : Int64} {h n : Int32} {q rm : Nat} {N : Prop} [Decidable N] (hq : uN w = q) (hh : h = if rm = 0 then 0 else 1) (hn : n = if N then 1 else 0) (hr : r = if n = 0 then w else if h = 0 then -w else -w - 1) (hb : q < 9223372036854775808 ∨ (q = 9223372036854775808 ∧ N ∧ rm = 0)) :
    (N → r.toInt = -(q : Int) - (if rm = 0 then 0 else 1)) ∧ (¬ N → r.toInt = (q : Int)) := by
  constructor
  · intro hN
    rw [if_pos hN] at hn
    rw [if_neg (by rw [hn]; decide)] at hr
    by_cases h0 : rm = 0
    · rw [if_pos h0] at hh
      rw [if_pos hh] at hr
      rw [hr, ra_negI w (by omega), if_pos h0, hq]
      omega
    · rw [if_neg h0] at hh
      rw [if_neg (by rw [hh]; decide)] at hr
      rw [ra_neg1 w _ r (by omega) rfl hr, if_neg h0, hq]
  · intro hN
    rw [if_neg hN] at hn
    rw [if_pos hn] at hr
    have hb' : q < 9223372036854775808 := hb.resolve_right (fun z => hN z.2.1)
    rw [hr, ra_toInt w (by rw [hq]; exact hb'), hq]
def sp_rok (a b c r : Int) : Prop := c ≠ 0 ∧ r = (a * b).fdiv c
def sp_rno (a b c : Int) : Prop := c = 0 ∨ (a * b).fdiv c < -9223372036854775808 ∨ 9223372036854775807 < (a * b).fdiv c
theorem sp_r_apart {a b c r : Int} (h : sp_rok a b c r) (h1 : -9223372036854775808 ≤ r) (h2 : r ≤ 9223372036854775807) : ¬ sp_rno a b c := by
  obtain ⟨k1, k2⟩ := h
  rintro (z | z | z)
  · exact k1 z
  · omega
  · omega
/-- high isn't below the divisor: no long holds it -/
theorem ra_big {a b c : Int} {P q : Nat} (hc : c ≠ 0) (hP : P = a.natAbs * b.natAbs) (h : c.natAbs ≤ P / 18446744073709551616) : sp_rno a b c := by
  have hcp : 0 < c.natAbs := Int.natAbs_pos.mpr hc
  obtain ⟨k1, k2⟩ := fx_rat a b c hc _ _ rfl rfl
  rw [← hP] at k1 k2
  have h1 : c.natAbs * 18446744073709551616 ≤ P := by
    exact Nat.le_trans (Nat.mul_le_mul_right _ h) (Nat.div_mul_le_self _ _)
  have h2 : 18446744073709551616 ≤ P / c.natAbs := (Nat.le_div_iff_mul_le hcp).mpr (by rw [Nat.mul_comm]; exact h1)
  by_cases hn : sp_neg a b c
  · right; left
    rw [k1 hn]
    split <;> omega
  · right; right
    rw [k2 hn]
    omega
theorem ra_unfit {a b c : Int} {q rm : Nat} (hc : c ≠ 0) (hq : q = a.natAbs * b.natAbs / c.natAbs) (hr : rm = a.natAbs * b.natAbs % c.natAbs) (h : ¬ (q < 9223372036854775808 ∨ (q = 9223372036854775808 ∧ sp_neg a b c ∧ rm = 0))) : sp_rno a b c := by
  obtain ⟨k1, k2⟩ := fx_rat a b c hc q rm hq hr
  by_cases hn : sp_neg a b c
  · right; left
    rw [k1 hn]
    have : ¬ (q = 9223372036854775808 ∧ rm = 0) := fun z => h (Or.inr ⟨z.1, hn, z.2⟩)
    have : ¬ q < 9223372036854775808 := fun z => h (Or.inl z)
    split <;> omega
  · right; right
    rw [k2 hn]
    have : ¬ q < 9223372036854775808 := fun z => h (Or.inl z)
    omega
theorem ra_fit {a b c r : Int} {q rm : Nat} (hc : c ≠ 0) (hq : q = a.natAbs * b.natAbs / c.natAbs) (hr : rm = a.natAbs * b.natAbs % c.natAbs) (h : (sp_neg a b c → r = -(q : Int) - (if rm = 0 then 0 else 1)) ∧ (¬ sp_neg a b c → r = (q : Int))) : sp_rok a b c r := by
  obtain ⟨k1, k2⟩ := fx_rat a b c hc q rm hq hr
  refine ⟨hc, ?_⟩
  by_cases hn : sp_neg a b c
  · rw [k1 hn, h.1 hn]
  · rw [k2 hn, h.2 hn]
/-- between -/
def sp_betw (a b n d : Int) : Int := (a + ((b - a) * n).fdiv d).bmod (2 ^ 32)
def sp_bno (n d : Int) : Prop := d ≤ 0 ∨ n < 0 ∨ d < n
theorem be_pos (d : Int64) (h : 0 ≤ d.toInt) : (uN d : Int) = d.toInt := by
  have h2 := uN_int d
  have h3 := uN_lt d
  split at h2 <;> omega
theorem be_hi {size n d hi : Int64} (hs : uN size < 4294967296) (hnd : uN n ≤ uN d) (hd0 : 0 < uN d) (h : uN hi = uN size * uN n / 18446744073709551616) : uN hi < uN d := by
  have h1 : uN size * uN n ≤ uN size * uN d := Nat.mul_le_mul_left _ hnd
  have h2 : uN size * uN d ≤ 4294967296 * uN d := Nat.mul_le_mul_right _ (by omega)
  rw [h]
  omega
theorem be_span (a b : Int32) (u v w : Int64) (eu : u = b.toInt64) (ev : v = a.toInt64) (ew : w = u - v) : w.toInt = b.toInt - a.toInt := by
  have ha := fx_i32 a
  have hb := fx_i32 b
  rw [ew, Int64.toInt_sub, eu, ev, Int32.toInt_toInt64, Int32.toInt_toInt64, fx_bm64 (by omega) (by omega)]
theorem be_q {size n d : Int64} {q : Nat} (hs : uN size < 4294967296) (hnd : uN n ≤ uN d) (hd0 : 0 < uN d) (hq : q = uN size * uN n / uN d) : q < 4294967296 := by
  have h1 : uN size * uN n ≤ uN size * uN d := Nat.mul_le_mul_left _ hnd
  have h2 : q ≤ uN size := by
    rw [hq]
    exact Nat.div_le_of_le_mul (Nat.le_trans h1 (Nat.le_of_eq (Nat.mul_comm _ _)))
  omega
theorem be_fin (a b : Int32) (n d span x y : Int64) (r : Int32) {q rm : Nat} (hsp : span.toInt = b.toInt - a.toInt) (hn : 0 ≤ n.toInt) (hd : 0 < d.toInt) (hq : q = span.toInt.natAbs * n.toInt.natAbs / d.toInt.natAbs) (hrm : rm = span.toInt.natAbs * n.toInt.natAbs % d.toInt.natAbs) (hb : q < 4294967296)
    (hx : (span.toInt < 0 → x.toInt = -(q : Int) - (if rm = 0 then 0 else 1)) ∧ (¬ span.toInt < 0 → x.toInt = (q : Int))) (ey : y = a.toInt64 + x) (er : r = y.toInt32) : r.toInt = sp_betw a.toInt b.toInt n.toInt d.toInt := by
  obtain ⟨k1, k2⟩ := fx_rat span.toInt n.toInt d.toInt (by omega) q rm hq hrm
  have hN : sp_neg span.toInt n.toInt d.toInt ↔ span.toInt < 0 := by
    unfold sp_neg
    have h1 : (n.toInt < 0) = False := by simp; omega
    have h2 : (d.toInt < 0) = False := by simp; omega
    rw [h1, h2]
    by_cases z : span.toInt < 0 <;> simp [z]
  have ha := fx_i32 a
  have e : x.toInt = (span.toInt * n.toInt).fdiv d.toInt := by
    by_cases z : span.toInt < 0
    · rw [k1 (hN.mpr z), hx.1 z]
    · rw [k2 (fun w => z (hN.mp w)), hx.2 z]
  have hxb : -4294967297 ≤ x.toInt ∧ x.toInt ≤ 4294967297 := by
    by_cases z : span.toInt < 0
    · rw [hx.1 z]
      split <;> omega
    · rw [hx.2 z]
      omega
  have f1 : y.toInt = a.toInt + x.toInt := by rw [ey, Int64.toInt_add, Int32.toInt_toInt64, fx_bm64 (by omega) (by omega)]
  rw [er, Int64.toInt_toInt32, f1, e, hsp]
  rfl
/-- fixed and shade -/
abbrev sp_byte (x : Int) : Prop := 0 ≤ x ∧ x ≤ 255
theorem fx_isb {x v : Int32} (e : v = if 0 ≤ x.toInt ∧ x.toInt ≤ 255 then 1 else 0) : (v = 0 ↔ ¬ sp_byte x.toInt) := by
  unfold sp_byte
  by_cases h : 0 ≤ x.toInt ∧ x.toInt ≤ 255
  · rw [if_pos h] at e
    simp [h, e]
  · rw [if_neg h] at e
    simp [h, e]
theorem fx_fix {x v : Int32} (h : sp_byte x.toInt) (e : v = 65536 * x) : v.toInt = 65536 * x.toInt := by
  obtain ⟨h1, h2⟩ := h
  rw [e, Int32.toInt_mul, show (65536 : Int32).toInt = 65536 from by decide, fx_bm32 (by omega) (by omega)]
theorem fx_sha {x y v : Int32} (h : sp_byte x.toInt) (k : sp_byte y.toInt) (e : v = x * y) : v.toInt = x.toInt * y.toInt ∧ 0 ≤ x.toInt * y.toInt ∧ x.toInt * y.toInt ≤ 65025 := by
  obtain ⟨h1, h2⟩ := h
  obtain ⟨k1, k2⟩ := k
  have a1 := Int.mul_nonneg h1 k1
  have a2 : x.toInt * y.toInt ≤ 255 * 255 := Int.mul_le_mul h2 k2 k1 (by decide)
  rw [e, Int32.toInt_mul, fx_bm32 (by omega) (by omega)]
  exact ⟨rfl, a1, by omega⟩
/-! halves -/
theorem fx_shl (x : Int64) {k : Nat} (hk : k < 64) : x <<< ((nI k).toInt64 &&& 63) = x * lN (2 ^ k) := by
  obtain ⟨n, -, rfl⟩ := wb_of x
  rw [wb_shl n hk, lN_mul]
theorem fx_tn (x : Int32) : x.toInt = (x.toBitVec.toNat : Int) ∨ x.toInt = (x.toBitVec.toNat : Int) - 4294967296 := by
  have h := BitVec.toInt_eq_toNat_cond x.toBitVec
  have e : x.toBitVec.toInt = x.toInt := rfl
  rw [e] at h
  split at h
  · exact Or.inl h
  · exact Or.inr h
theorem fh_e (h v16 v19 : Int32) (e16 : v16 = h >>> ((10 : Int32) &&& 31)) (e19 : v19 = v16 &&& 31) : v19 = nI (h.toBitVec.toNat / 1024 % 32) := by
  have a1 : v19 = nI (v16.toBitVec.toNat % 2 ^ 5) := by rw [e19]; exact pk_and v16 5 (by decide)
  have a2 : v16.toInt = h.toInt >>> 10 := by rw [e16]; exact pk_shr h _ 10 (by decide)
  rw [Int.shiftRight_eq_div_pow] at a2
  have b1 := fx_tn h
  have b2 := fx_tn v16
  have a3 : v16.toInt = h.toInt / 1024 := a2
  have a4 : v16.toBitVec.toNat % 2 ^ 5 = h.toBitVec.toNat / 1024 % 32 := by
    show v16.toBitVec.toNat % 32 = _
    omega
  rw [a1, a4]
theorem fh_f (h v25 : Int32) (e25 : v25 = h &&& 1023) : v25 = nI (h.toBitVec.toNat % 1024) := by rw [e25]; exact pk_and h 10 (by decide)
theorem nb_15 (n : Nat) : n &&& 2 ^ 15 = 0 ↔ n / 32768 % 2 = 0 := by
  have hb : n.testBit 15 = decide (n / 2 ^ 15 % 2 = 1) := Nat.testBit_eq_decide_div_mod_eq
  have e0 : n / 2 ^ 15 = n / 32768 := rfl
  rw [e0] at hb
  have key : (n &&& 2 ^ 15).testBit 15 = n.testBit 15 := by
    rw [Nat.testBit_and, Nat.testBit_two_pow]
    simp
  constructor
  · intro z
    rw [z, Nat.zero_testBit, hb] at key
    have q := of_decide_eq_false key.symm
    omega
  · intro z
    apply Nat.eq_of_testBit_eq
    intro i
    rw [Nat.testBit_and, Nat.testBit_two_pow, Nat.zero_testBit]
    by_cases hi : 15 = i
    · subst hi
      rw [hb, decide_eq_false (by omega), Bool.false_and]
    · rw [decide_eq_false hi, Bool.and_false]
theorem fh_s (h v3 : Int32) (e3 : v3 = h &&& 32768) : v3 = 0 ↔ h.toBitVec.toNat / 32768 % 2 = 0 := by
  have e : v3.toBitVec.toNat = h.toBitVec.toNat &&& 2 ^ 15 := by
    rw [e3, Int32.toBitVec_and, BitVec.toNat_and]
    rfl
  rw [← nb_15, ← e]
  constructor
  · intro z
    rw [z]
    rfl
  · intro z
    exact Int32.toBitVec_inj.mp (BitVec.eq_of_toNat_eq (z.trans rfl))
theorem ra_fitx {w : Int64} {h n : Int32} {q rm : Nat} {N : Prop} [Decidable N] (hq : uN w = q) (hh : h = if rm = 0 then 0 else 1) (hn : n = if N then 1 else 0) : (0 ≤ w ∨ (w = -9223372036854775808 ∧ ¬ n = 0 ∧ h = 0)) ↔ (q < 9223372036854775808 ∨ (q = 9223372036854775808 ∧ N ∧ rm = 0)) := by
  rw [ra_pos, ra_min, hq]
  have a1 : ¬ n = 0 ↔ N := by
    by_cases z : N
    · rw [if_pos z] at hn
      simp [hn, z]
    · rw [if_neg z] at hn
      simp [hn, z]
  have a2 : h = 0 ↔ rm = 0 := by
    by_cases z : rm = 0
    · rw [if_pos z] at hh
      simp [hh, z]
    · rw [if_neg z] at hh
      simp [hh, z]
  rw [a1, a2]
theorem be_z (x : Int64) : (x < 0 ↔ x.toInt < 0) ∧ (0 < x ↔ 0 < x.toInt) ∧ (0 ≤ x ↔ 0 ≤ x.toInt) := by
  have z : (0 : Int64).toInt = 0 := by decide
  rw [Int64.lt_iff_toInt_lt, Int64.lt_iff_toInt_lt, Int64.le_iff_toInt_le, z]
  exact ⟨Iff.rfl, Iff.rfl, Iff.rfl⟩
theorem be_c1 {d : Int64} (h : ¬ 0 < d) : d.toInt ≤ 0 := by rw [(be_z d).2.1] at h; omega
theorem be_d1 {d : Int64} (h : 0 < d) : 0 < d.toInt := (be_z d).2.1.mp h
theorem be_c2 {d : Int64} (h : d < 0) : d.toInt < 0 := (be_z d).1.mp h
theorem be_d2 {d : Int64} (h : ¬ d < 0) : 0 ≤ d.toInt := by rw [(be_z d).1] at h; omega
theorem be_c3 {n d : Int64} (h : ¬ n ≤ d) : d.toInt < n.toInt := by rw [Int64.le_iff_toInt_le] at h; omega
theorem be_d3 {n d : Int64} (h : n ≤ d) : n.toInt ≤ d.toInt := Int64.le_iff_toInt_le.mp h
theorem be_s0 {x : Int64} (h : 0 ≤ x) : (0 : Int32) = if x.toInt < 0 then 1 else 0 := by rw [(be_z x).2.2] at h; rw [if_neg (by omega)]
theorem be_s1 {x : Int64} (h : ¬ 0 ≤ x) : (1 : Int32) = if x.toInt < 0 then 1 else 0 := by rw [(be_z x).2.2] at h; rw [if_pos (by omega)]
def sp_cut (z : Int) : Int := max (-2147483648) (min z 2147483647)
def sp_hD (n : Nat) : Nat := if n / 1024 % 32 = 0 then n % 1024 else 1024 + n % 1024
def sp_hZ (n : Nat) : Int := if n / 32768 % 2 = 0 then (sp_hD n : Int) else -(sp_hD n : Int)
def sp_fh (n : Nat) : Int := if n / 1024 % 32 = 31 then (if n % 1024 = 0 then (if n / 32768 % 2 = 0 then 2147483647 else -2147483648) else 0) else sp_cut (sp_hZ n * 2 ^ (max (n / 1024 % 32) 1) / 512)
theorem fh_31 {h v19 : Int32} (e : v19 = nI (h.toBitVec.toNat / 1024 % 32)) : v19 = 31 ↔ h.toBitVec.toNat / 1024 % 32 = 31 := by
  rw [e, show (31 : Int32) = nI 31 from rfl, nI_eq (by omega) (by decide)]
theorem fh_00 {h v19 : Int32} (e : v19 = nI (h.toBitVec.toNat / 1024 % 32)) : v19 = 0 ↔ h.toBitVec.toNat / 1024 % 32 = 0 := by
  rw [e, show (0 : Int32) = nI 0 from rfl, nI_eq (by omega) (by decide)]
theorem fh_f0 {h v25 : Int32} (e : v25 = nI (h.toBitVec.toNat % 1024)) : v25 = 0 ↔ h.toBitVec.toNat % 1024 = 0 := by
  rw [e, show (0 : Int32) = nI 0 from rfl, nI_eq (by omega) (by decide)]
theorem fh_s12 {h v3 v12 : Int32} (e3 : v3 = 0 ↔ h.toBitVec.toNat / 32768 % 2 = 0) (e12 : v12 = if v3 = 0 then 0 else 1) : v12 = 0 ↔ h.toBitVec.toNat / 32768 % 2 = 0 := by
  rw [← e3]
  by_cases z : v3 = 0
  · simp [e12, z]
  · simp [e12, z]
theorem fh_D0 {h v19 v25 : Int32} {w : Int64} (e19 : v19 = nI (h.toBitVec.toNat / 1024 % 32)) (e25 : v25 = nI (h.toBitVec.toNat % 1024)) (c : v19 = 0) (ew : w = v25.toInt64) : w.toInt = (sp_hD h.toBitVec.toNat : Int) := by
  rw [ew, Int32.toInt_toInt64, e25, nI_toInt (by omega), sp_hD, if_pos ((fh_00 e19).mp c)]
theorem fh_D1 {h v19 v25 v70 : Int32} {w : Int64} (e19 : v19 = nI (h.toBitVec.toNat / 1024 % 32)) (e25 : v25 = nI (h.toBitVec.toNat % 1024)) (c : ¬ v19 = 0) (e70 : v70 = 1024 + v25) (ew : w = v70.toInt64) : w.toInt = (sp_hD h.toBitVec.toNat : Int) := by
  have e1 : v70 = nI (1024 + h.toBitVec.toNat % 1024) := by rw [e70, e25, ← nI_add]; rfl
  rw [ew, Int32.toInt_toInt64, e1, nI_toInt (by omega), sp_hD, if_neg (fun z => c ((fh_00 e19).mpr z))]
theorem fh_Z {h v12 : Int32} {d w : Int64} (e12 : v12 = 0 ↔ h.toBitVec.toNat / 32768 % 2 = 0) (ed : d.toInt = (sp_hD h.toBitVec.toNat : Int)) (c : v12 = 0) (ew : w = d) : w.toInt = sp_hZ h.toBitVec.toNat := by
  rw [ew, ed, sp_hZ, if_pos (e12.mp c)]
theorem fh_Dlt (n : Nat) : sp_hD n < 2048 := by
  unfold sp_hD
  split <;> omega
theorem fh_Zn {h v12 : Int32} {d w : Int64} (e12 : v12 = 0 ↔ h.toBitVec.toNat / 32768 % 2 = 0) (ed : d.toInt = (sp_hD h.toBitVec.toNat : Int)) (c : ¬ v12 = 0) (ew : w = -d) : w.toInt = sp_hZ h.toBitVec.toNat := by
  have hb := fh_Dlt h.toBitVec.toNat
  rw [ew, Int64.toInt_neg, ed, fx_bm64 (by omega) (by omega), sp_hZ, if_neg (fun z => c (e12.mpr z))]
theorem fh_Zb (n : Nat) : -2048 < sp_hZ n ∧ sp_hZ n < 2048 := by
  have hb := fh_Dlt n
  unfold sp_hZ
  split <;> omega
theorem fh_st {h v19 v76 : Int32} (e19 : v19 = nI (h.toBitVec.toNat / 1024 % 32)) (e76 : v76 = if v19 < 1 then 1 else v19) : v76 = nI (max (h.toBitVec.toNat / 1024 % 32) 1) := by
  generalize hE : h.toBitVec.toNat / 1024 % 32 = E at e19
  have hlt : E < 32 := by omega
  have q : v19 < 1 ↔ E < 1 := by rw [e19, show (1 : Int32) = nI 1 from rfl, nI_ltI (by omega) (by decide)]
  by_cases z : v19 < 1
  · rw [if_pos z] at e76
    have := q.mp z
    rw [e76, show max E 1 = 1 by omega]
    rfl
  · rw [if_neg z] at e76
    have : ¬ E < 1 := fun y => z (q.mpr y)
    rw [e76, e19, show max E 1 = E by omega]
theorem fh_hi {v76 v108 : Int32} {w v109 : Int64} {st : Nat} {Z : Int} (e76 : v76 = nI st) (hst : st < 32) (c : ¬ v76 < 9) (hw : w.toInt = Z) (hZ : -2048 < Z ∧ Z < 2048) (e108 : v108 = v76 - 9) (e109 : v109 = w <<< (v108.toInt64 &&& 63)) : v109.toInt = Z * 2 ^ st / 512 := by
  have h9 : 9 ≤ st := by
    have : ¬ st < 9 := fun y => c (by rw [e76, show (9 : Int32) = nI 9 from rfl, nI_ltI (by omega) (by decide)]; exact y)
    omega
  obtain ⟨k, rfl⟩ : ∃ k, st = 9 + k := ⟨st - 9, by omega⟩
  have e1 : v108 = nI k := by rw [e108, e76, show (9 : Int32) = nI 9 from rfl, pk_sub (by omega)]; congr 1; omega
  have p1 : (2 : Nat) ^ k ≤ 2 ^ 22 := Nat.pow_le_pow_right (by decide) (by omega)
  have p2 : (lN (2 ^ k)).toInt = ((2 ^ k : Nat) : Int) := pk_lT (by omega)
  have b1 := fx_mulb (a := Z) (b := ((2 ^ k : Nat) : Int)) (A := 2048) (B := 2 ^ 22) (by omega) p1
  have e2 : v109.toInt = Z * ((2 ^ k : Nat) : Int) := by
    rw [e109, e1, fx_shl w (by omega), fx_lmul, hw, p2]
    rw [hw, p2]
    omega
  have e3 : Z * 2 ^ (9 + k) = Z * ((2 ^ k : Nat) : Int) * 512 := by
    rw [Int.pow_add, Int.mul_comm (2 ^ 9) (2 ^ k), ← Int.mul_assoc, Int.natCast_pow]
    rfl
  rw [e2, e3, Int.mul_ediv_cancel _ (by decide)]
theorem fh_lo {v76 v119 : Int32} {w v120 : Int64} {st : Nat} {Z : Int} (e76 : v76 = nI st) (hst : st < 32) (c : v76 < 9) (hw : w.toInt = Z) (e119 : v119 = 9 - v76) (e120 : v120 = w >>> (v119.toInt64 &&& 63)) : v120.toInt = Z * 2 ^ st / 512 := by
  have h9 : st < 9 := by
    rw [e76, show (9 : Int32) = nI 9 from rfl, nI_ltI (by omega) (by decide)] at c
    exact c
  obtain ⟨k, hk⟩ : ∃ k, 9 = k + st := ⟨9 - st, by omega⟩
  have e1 : v119 = nI k := by rw [e119, e76, show (9 : Int32) = nI 9 from rfl, pk_sub (by omega)]; congr 1; omega
  have e2 : v120.toInt = Z / ((2 ^ k : Nat) : Int) := by
    rw [e120, e1, wb_c k (by omega), fx_lshr w (lN k) k (by rw [wb_tb, wb_sm k (by omega), BitVec.toNat_ofNat]; omega), hw]
  have e3 : (512 : Int) = ((2 ^ k : Nat) : Int) * 2 ^ st := by
    have h8 : (512 : Nat) = 2 ^ k * 2 ^ st := by rw [← Nat.pow_add, ← hk]
    have e4 : (2 : Int) ^ st = ((2 ^ st : Nat) : Int) := (Int.natCast_pow 2 st).symm
    rw [e4, ← Int.natCast_mul, ← h8]
    rfl
  rw [e2, e3, Int.mul_ediv_mul_of_pos_left _ _ (Int.pow_pos (by decide))]
/-- toHalf -/
def sp_hv (s t : Nat) : Nat := (t - 1) * 1024 + (if t ≤ 10 then s * 2 ^ (10 - t) else sp_ne s (t - 10)) - 1024
def sp_th (a : Int) : Nat := (if a < 0 then 32768 else 0) + (if a.natAbs < 4 then a.natAbs * 256 else sp_hv a.natAbs (Nat.log2 a.natAbs))
theorem fx_sg0 (a : Int32) (h : 0 ≤ a) : (0 : Int32) = if a.toInt < 0 then 32768 else 0 := by
  have := fx_ge a h
  rw [if_neg (by omega)]
theorem fx_sg1 (a : Int32) (h : ¬ 0 ≤ a) : (32768 : Int32) = if a.toInt < 0 then 32768 else 0 := by
  have z : (0 : Int32).toInt = 0 := by decide
  rw [Int32.le_iff_toInt_le, z] at h
  rw [if_pos (by omega)]
theorem fx_ior {v w r : Int32} {N : Prop} [Decidable N] {n : Nat} (ev : v = if N then 32768 else 0) (hw : w = nI n) (hn : n < 32768) (er : r = v ||| w) : r = nI ((if N then 32768 else 0) + n) := by
  by_cases z : N
  · rw [if_pos z] at ev
    rw [if_pos z, er, ev, hw]
    apply Int32.toBitVec_inj.mp
    rw [Int32.toBitVec_or]
    apply BitVec.eq_of_toNat_eq
    rw [BitVec.toNat_or]
    have h1 : (nI n).toBitVec.toNat = n := pk_tn (by omega)
    have h2 : (nI (32768 + n)).toBitVec.toNat = 32768 + n := pk_tn (by omega)
    have h3 : (32768 : Int32).toBitVec.toNat = 2 ^ 15 * 1 := by decide
    rw [h1, h2, h3, ← Nat.two_pow_add_eq_or_of_lt (i := 15) hn 1]
  · rw [if_neg z] at ev
    rw [if_neg z, er, ev, hw, Nat.zero_add]
    exact Int32.zero_or
theorem th_s (a : Int32) (v12 v13 : Int64) (e12 : v12 = a.toInt64) (e13 : uN v13 = v12.toInt.natAbs) : v13 = lN a.toInt.natAbs ∧ v13.toInt = (a.toInt.natAbs : Int) ∧ a.toInt.natAbs ≤ 2147483648 := by
  have ha := fx_i32 a
  have e : uN v13 = a.toInt.natAbs := by rw [e13, e12, Int32.toInt_toInt64]
  have hb : a.toInt.natAbs ≤ 2147483648 := by omega
  have e2 : v13 = lN a.toInt.natAbs := by
    apply uN_inj
    rw [e]
    exact (wb_tn (n := a.toInt.natAbs) (by omega)).symm
  exact ⟨e2, by rw [e2]; exact pk_lT (by omega), hb⟩
theorem th_lt4 {v13 : Int64} {s : Nat} (e : v13 = lN s) (hs : s ≤ 2147483648) : (4 : Int64) ≤ v13 ↔ 4 ≤ s := by
  rw [e]
  exact pk_lLE (a := 4) (by decide) (by omega)
theorem th_small {v13 v29 : Int64} {v30 : Int32} {s : Nat} (e : v13 = lN s) (e29 : v29 = v13 <<< ((8 : Int32).toInt64 &&& 63)) (e30 : v30 = v29.toInt32) : v30 = nI (s * 256) := by
  have h := wb_shl s (k := 8) (by decide)
  have e1 : v29 = lN (s * 2 ^ 8) := by rw [e29, e]; exact h
  rw [e30, e1, lN_i]
theorem th_log {s t : Nat} (h1 : 2 ^ t ≤ s) (h2 : s < 2 ^ (t + 1)) : Nat.log2 s = t := by
  have h0 : s ≠ 0 := by
    have := Nat.two_pow_pos t
    omega
  exact (Nat.log2_eq_iff h0).mpr ⟨h1, h2⟩
theorem th_ne {s k : Nat} (h1 : 2 ^ (k + 10) ≤ s) (h2 : s < 2 ^ (k + 11)) : 1024 ≤ sp_ne s k ∧ sp_ne s k ≤ 2048 := by
  have p := Nat.two_pow_pos k
  have a1 : 1024 ≤ s / 2 ^ k := (Nat.le_div_iff_mul_le p).mpr (by rw [show 1024 = 2 ^ 10 from rfl, ← Nat.pow_add, Nat.add_comm]; exact h1)
  have a2 : s / 2 ^ k < 2048 := (Nat.div_lt_iff_lt_mul p).mpr (by rw [show 2048 = 2 ^ 11 from rfl, ← Nat.pow_add, Nat.add_comm]; exact h2)
  unfold sp_ne
  split <;> omega
theorem th_dig {s t : Nat} (ht : 2 ≤ t) (ht2 : t ≤ 31) (h1 : 2 ^ t ≤ s) (h2 : s < 2 ^ (t + 1)) : 1024 ≤ (if t ≤ 10 then s * 2 ^ (10 - t) else sp_ne s (t - 10)) ∧ (if t ≤ 10 then s * 2 ^ (10 - t) else sp_ne s (t - 10)) ≤ 2048 := by
  by_cases z : t ≤ 10
  · rw [if_pos z]
    have a1 := Nat.mul_le_mul_right (2 ^ (10 - t)) h1
    have a2 := Nat.mul_le_mul_right (2 ^ (10 - t)) (show s ≤ 2 ^ (t + 1) by omega)
    rw [← Nat.pow_add, show t + (10 - t) = 10 by omega] at a1
    rw [← Nat.pow_add, show t + 1 + (10 - t) = 11 by omega] at a2
    exact ⟨a1, a2⟩
  · rw [if_neg z]
    exact th_ne (by rw [show t - 10 + 10 = t by omega]; exact h1) (by rw [show t - 10 + 11 = t + 1 by omega]; exact h2)
theorem th_fin {v34 v42 v72 v79 v85 v86 : Int32} {t D : Nat} (ht : 2 ≤ t) (ht2 : t ≤ 31) (e34 : v34 = nI t) (e42 : v42 = v34 - 1) (e72 : v72 = nI D) (hD : 1024 ≤ D) (hD2 : D ≤ 2048) (e79 : v79 = v42 <<< ((10 : Int32) &&& 31)) (e85 : v85 = v72 - 1024) (e86 : v86 = v79 + v85) : v86 = nI ((t - 1) * 1024 + D - 1024) := by
  have f1 : v42 = nI (t - 1) := by rw [e42, e34]; exact pk_sub (b := 1) (by omega)
  have f2 : v79 = nI ((t - 1) * 1024) := by rw [e79, f1]; exact pk_shlN _ 10 (by decide) (by show (t - 1) * 1024 < _; omega)
  have f3 : v85 = nI (D - 1024) := by rw [e85, e72]; exact pk_sub (b := 1024) hD
  rw [e86, f2, f3, nI_add, show (t - 1) * 1024 + (D - 1024) = (t - 1) * 1024 + D - 1024 by omega]
theorem th_d1 {v13 v58 : Int64} {v34 v57 v59 : Int32} {s t : Nat} (e : v13 = lN s) (e34 : v34 = nI t) (ht : t ≤ 10) (e57 : v57 = 10 - v34) (e58 : v58 = v13 <<< (v57.toInt64 &&& 63)) (e59 : v59 = v58.toInt32) : v59 = nI (s * 2 ^ (10 - t)) := by
  have f1 : v57 = nI (10 - t) := by rw [e57, e34]; exact pk_sub (a := 10) ht
  rw [e59, e58, e, f1, wb_shl s (by omega), lN_i]
theorem th_t2 {s t : Nat} (h : 4 ≤ s) (h2 : s < 2 ^ (t + 1)) : 2 ≤ t := by
  rcases Nat.lt_or_ge t 2 with z | z
  · have := Nat.pow_le_pow_right (n := 2) (by decide) (show t + 1 ≤ 2 by omega)
    omega
  · exact z
theorem th_end0 {a : Int} {v10 v30 r : Int32} (e10 : v10 = if a < 0 then 32768 else 0) (h4 : a.natAbs < 4) (e30 : v30 = nI (a.natAbs * 256)) (er : r = v10 ||| v30) : r = nI (sp_th a) := by
  rw [fx_ior e10 e30 (by omega) er, sp_th, if_pos h4]
theorem th_end1 {a : Int} {v10 v86 r : Int32} {t : Nat} (e10 : v10 = if a < 0 then 32768 else 0) (ht2 : 2 ≤ t) (ht : t ≤ 31) (h4 : 4 ≤ a.natAbs) (hp1 : 2 ^ t ≤ a.natAbs) (hp2 : a.natAbs < 2 ^ (t + 1)) (e86 : v86 = nI ((t - 1) * 1024 + (if t ≤ 10 then a.natAbs * 2 ^ (10 - t) else sp_ne a.natAbs (t - 10)) - 1024)) (er : r = v10 ||| v86) : r = nI (sp_th a) := by
  have hd := th_dig ht2 ht hp1 hp2
  have hlog := th_log hp1 hp2
  have hb : (t - 1) * 1024 + (if t ≤ 10 then a.natAbs * 2 ^ (10 - t) else sp_ne a.natAbs (t - 10)) - 1024 < 32768 := by
    generalize (if t ≤ 10 then a.natAbs * 2 ^ (10 - t) else sp_ne a.natAbs (t - 10)) = D at hd ⊢
    omega
  have h9 : ¬ a.natAbs < 4 := by omega
  have e9 : sp_th a = (if a < 0 then 32768 else 0) + ((t - 1) * 1024 + (if t ≤ 10 then a.natAbs * 2 ^ (10 - t) else sp_ne a.natAbs (t - 10)) - 1024) := by
    unfold sp_th
    rw [if_neg h9, hlog]
    rfl
  rw [e9]
  exact fx_ior e10 e86 hb er
end
section
/-! rows for methods that may throw a made exception, and for a call of such a method under a catch -/
section FXJ
variable {p : Program} {l : Launch} {e : Env} {R : Room} {s : State} {m : MethodId} {args : Array Value} {below : List Frame} {meth : Method} {c : Code} {H : Heap} {locs : List Loc} {cells slots : Nat} {Q : State → Prop} {pc : Nat} {ls : Array Slot} {st : List Value}
/-- two roads meet at J with an int on top: what holds of it there -/
theorem jn_i {J : Nat} {rest : List Value} (f : Int32 → Prop) (K : ∀ v : Int32, f v → W p l e R s m args below meth c H locs cells slots Q (F0 m J ls (.int v :: rest))) (h : (∀ v : Int32, f v → W p l e R s m args below meth c H locs cells slots Q (F0 m J ls (.int v :: rest))) → W p l e R s m args below meth c H locs cells slots Q (F0 m pc ls st)) : W p l e R s m args below meth c H locs cells slots Q (F0 m pc ls st) := h K
theorem jn_l {J : Nat} {rest : List Value} (f : Int64 → Prop) (K : ∀ v : Int64, f v → W p l e R s m args below meth c H locs cells slots Q (F0 m J ls (.long v :: rest))) (h : (∀ v : Int64, f v → W p l e R s m args below meth c H locs cells slots Q (F0 m J ls (.long v :: rest))) → W p l e R s m args below meth c H locs cells slots Q (F0 m pc ls st)) : W p l e R s m args below meth c H locs cells slots Q (F0 m pc ls st) := h K
/-- a loop at J: a measure n that falls, an invariant I -/
theorem lp_W {σ : Type} {nL J : Nat} (F : σ → List (Nat × Value)) (I : Nat → σ → Prop)
    (step : ∀ (n : Nat) (x : σ), I n x → (∀ (n' : Nat) (x' : σ), n' < n → I n' x' → ∀ ls : Array Slot, lv_has ls nL (F x') → W p l e R s m args below meth c H locs cells slots Q (F0 m J ls [])) → ∀ ls : Array Slot, lv_has ls nL (F x) → W p l e R s m args below meth c H locs cells slots Q (F0 m J ls []))
    (n : Nat) (x : σ) (h0 : I n x) (hl : lv_has ls nL (F x)) : W p l e R s m args below meth c H locs cells slots Q (F0 m J ls []) := by
  induction n using Nat.strongRecOn generalizing x ls with
  | ind n ih => exact step n x h0 (fun n' x' hn hI ls' hl' => ih n' hn x' hI hl') ls hl
end FXJ
/-- what the whole of a contract gives that may throw -/
def th_E (Qc : Array Value → State → Outcome → State → Prop) (mc ms : Nat) : Array Value → State → Outcome → State → Prop := fun a st o t => Qc a st o t ∧ st.WarmedH t.vm ∧ st.sameButNew ({ t with vm := st.vm } : State) [] mc ms
def MetT (l : Launch) (y : MethodName) (ws : List Cond) (rm : Room) (Pc : Array Value → State → Prop) (Qc : Array Value → State → Outcome → State → Prop) (mc ms : Nat) : Prop :=
  MetFree l y (headSpec ws rm) Pc (fun _ _ _ _ _ => True) (th_E Qc mc ms)
def MQT (below : List Frame) (Qc : Array Value → State → Outcome → State → Prop) (a : Array Value) (s : State) (mc ms : Nat) : State → Prop := fun t => ∃ o, t.status = .running ∧ Ended t below o ∧ th_E Qc mc ms a s o t
theorem th_toT {below : List Frame} {Qc : Array Value → State → Outcome → State → Prop} {a : Array Value} {s : State} {mc ms : Nat} {t : State} (h : MQ below Qc a s mc ms (fun _ => False) t) : MQT below Qc a s mc ms t := by
  obtain ⟨o, h1, h2, h3, L, ⟨-, hW, hS⟩, hL⟩ := h
  have e0 : L = [] := List.eq_nil_iff_forall_not_mem.mpr (fun q hq => hL q hq)
  subst e0
  exact ⟨o, h1, h2, h3, hW, hS⟩
theorem MetT.ofW {l : Launch} {y : MethodName} {ws ws' : List Cond} {rm : Room} {Pc : Array Value → State → Prop} {Qc : Array Value → State → Outcome → State → Prop} {mc ms : Nat} {cc : ByteArray} {maxL : Nat} {ret : Option FieldType}
    (hy : plainName y.cls = true) (hw : ws = Cond.code y cc maxL ret :: ws')
    (body : ∀ p e s m args below meth c s₁, BodyLoose p l y (headSpec ws rm) cc maxL ret e s m args below meth c s₁ → c.maxLocals = maxL → Pc args s →
      W p l e (headSpec ws rm).room s m args below meth c s.heap [] 0 0 (MQT below Qc args s mc ms) (entryFrame m args maxL)) : MetT l y ws rm Pc Qc mc ms := by
  refine MetFree.of_bodyS (code := cc) (maxLocals := maxL) (ret := ret) hy ?_ ?_
  · intro args s m h hn
    obtain ⟨meth, c, h1, h2, h3, h4, h5, h6, -, -⟩ := Cond.code_spec hn (atoms_spec (ws := ws) h _ (by rw [hw]; exact List.mem_cons_self))
    exact ⟨meth, c, h1, h2, h3, h4, h5, h6⟩
  · intro p e s m args below meth c s₁ B hml hP _
    have hh0 : s₁.heap = s.heap := by rw [B.state]; rfl
    obtain ⟨t, a1, o, b1, b2, b3⟩ := body p e s m args below meth c s₁ B hml hP s₁ hh0 (Stand.of_body B)
    exact ⟨t, o, a1, b1, b2, b3⟩
theorem th_kept {s s' : State} {k n : Nat} (h : s.sameButNew s' [] k n) : ∀ q : Nat, q < s.heap.size → s'.heap[q]? = s.heap[q]? := by
  intro q hq
  obtain ⟨cell, hc⟩ : ∃ cell, s.heap[q]? = some cell := ⟨_, Array.getElem?_eq_getElem hq⟩
  obtain ⟨c', h1, h2, h3, h4⟩ := h.2.2.2.2.2 q cell hc
  have h5 : c'.slots = cell.slots := Array.ext_getElem? (fun i => h4 i (by simp))
  rw [h1, hc, h2, h5]
section THW
variable {p : Program} {l : Launch} {e : Env} {R : Room} {s : State} {m : MethodId} {args : Array Value} {below : List Frame} {meth : Method} {c : Code} {H : Heap} {cells slots : Nat} {Qc : Array Value → State → Outcome → State → Prop}
variable {cc : ByteArray} {pc : Nat} {ls : Array Slot}
theorem th_W2 (hexec : p.tables.exec = Jvm.exec) (hb : c.code = cc) (htr : e.platform.stackTraces = false) {own cls : String} {names : List String} {ic q a : Nat} (hown : s.vm.findClass own = some m.cls)
    (hcls : Bundle.fit cls = true) (hnames : ∀ n ∈ names, Bundle.fit n = true) (hat : ∀ a ∈ Bundle.ownAtoms own ic cls names, a.before args s = true) (hlocks : meth.locks = false) (hsz : ls.size = c.maxLocals)
    (hno : ∀ x ∈ c.exceptionTable.toList, covers x (pc + 3) = false) (hfr : names.length + 3 < R.frames) (hlo : 13 * names.length + 57 ≤ R.locals)
    {cX : ClassId} {kX : Class} (hfX : s.vm.findClass cls = some cX) (hkX : s.vm.classes[cX]? = some kX) (hcell : H[a]? = some (freshCell cX kX)) (hnew : s.heap.size ≤ a)
    (d6 : decode cc pc = .ok (.invokespecial ic, 3)) (d9 : decode cc (pc + 3) = .ok (.athrow, 1))
    (hq : ∀ (t : State) (ce : Cell), t.heap[a]? = some ce → s.vm.findClass cls = some ce.cls → ce.vm = .none → s.WarmedH t.vm → Qc args s (.threw a) t) :
    W p l e R s m args below meth c H [] cells slots (MQT below Qc args s cells slots) (F0 m pc ls [.ref q, .ref a, .ref a]) := by
  intro T hT X
  obtain ⟨V, hsteps, hrun, hend, hW, hsame, ce, hce, K⟩ := X.ctorThrowS hexec htr (own := own) (cls := cls) (names := names) (ic := ic) hown hcls hnames hat (fun y hy => by cases hy) hfX hkX (a := a) (by rw [hT]; exact hcell) hnew (msg := .ref q) rfl
    (g := F0 m pc ls [.ref q, .ref a, .ref a]) rfl hsz rfl rfl (rest := []) rfl (by rw [hb]; exact d6) (by rw [hb]; exact d9) hno hfr (by show 2 * 0 + _ + _ ≤ _; simp [Value.category]; omega) hlocks
  exact ⟨V, hsteps, .threw a, hrun, hend, hq V ce hce K.cls K.vm hW, hW, hsame⟩
/-- new E; dup; ldc text; E.<init>(String); athrow -/
theorem th_W (hexec : p.tables.exec = Jvm.exec) (hb : c.code = cc) (htr : e.platform.stackTraces = false) {own cls tx : String} {names : List String} {ic inew istr q : Nat} (hown : s.vm.findClass own = some m.cls)
    (hcls : Bundle.fit cls = true) (hnames : ∀ n ∈ names, Bundle.fit n = true) (hat : ∀ a ∈ Bundle.ownAtoms own ic cls names, a.before args s = true) (hlocks : meth.locks = false) (hsz : ls.size = c.maxLocals)
    (hlink : (Cond.classLink own inew cls).before args s = true) (hini : (Cond.initialized cls).before args s = true) (hZ : vk_R own istr tx q s)
    (hno : ∀ x ∈ c.exceptionTable.toList, covers x (pc + 9) = false) (hfr : names.length + 3 < R.frames) (hlo : 13 * names.length + 57 ≤ R.locals) (hc : 1 ≤ R.cells) (hs : 6 ≤ R.slots)
    (d0 : decode cc pc = .ok (.new inew, 3)) (d3 : decode cc (pc + 3) = .ok (.dup, 1)) (d4 : decode cc (pc + 4) = .ok (.ldc istr, 2)) (d6 : decode cc (pc + 6) = .ok (.invokespecial ic, 3)) (d9 : decode cc (pc + 9) = .ok (.athrow, 1))
    (hq : ∀ (t : State) (a : Addr) (ce : Cell), t.heap[a]? = some ce → s.vm.findClass cls = some ce.cls → ce.vm = .none → s.WarmedH t.vm → Qc args s (.threw a) t) :
    W p l e R s m args below meth c s.heap [] 0 0 (MQT below Qc args s 1 6) (F0 m pc ls []) := by
  intro T hT X
  obtain ⟨vm₁, cX, kX, hfX, hkX, -, hn6, X₁, st1⟩ := X.newCold hexec (own := own) (C := cls) (index := inew) (n := 6) hown hlink (hat (.instantiable cls 6) (by simp [Bundle.ownAtoms])) hini (g := F0 m pc ls []) rfl (by rw [hb]; exact d0) (by omega) (by omega)
  generalize hU : (T.setVm vm₁).pushCell { cls := cX, slots := kX.instanceTypes.map defaultValue, vm := .none } = U at X₁ st1
  have hcell : U.heap[T.heap.size]? = some (freshCell cX kX) := by rw [← hU]; exact State.heap_pushCell_size _ _
  have k1 : W p l e R s m args below meth c U.heap [] 1 6 (MQT below Qc args s 1 6) (F0 m (pc + 3) ls [.ref T.heap.size]) := by
    refine lv_dup hexec hb d3 rfl ?_
    refine va_ldcS hexec hb hown hZ d4 ?_
    exact th_W2 hexec hb htr hown hcls hnames hat hlocks hsz hno hfr hlo hfX hkX hcell (by rw [hT]; exact Nat.le_refl _) d6 d9 (fun t ce h1 h2 h3 h4 => hq t _ ce h1 h2 h3 h4)
  obtain ⟨t, a1, b1⟩ := k1 U rfl (by simpa using X₁)
  exact ⟨t, st1 t a1, b1⟩
end THW
/-! a catch whose class may still be unresolved -/
section THC
theorem th_find {E : CtlPost} {e : Env} {d : Bool} {acts : List Action} {s : State} {f : JFrame} {a : Addr} {Q : Handler → Pre} {meth : Method} {code : Code} (hm : s.vm.method? f.method = some meth) (hc : meth.code = some code) {x : ExceptionTableEntry} (hx1 : code.exceptionTable.toList = [x]) (hx : covers x f.pc = true) (h0 : x.catchType ≠ 0) {cl : ClassId} {cell : Cell} {vm' : Vm}
    (hg : (Jvm.resolveClass f.method.cls x.catchType).Gives e.toSetting s.vm (.ok cl) vm') (hcell : s.heap[a]? = some cell) (hobj : ∀ k, cell.vm ≠ .statics k) (hk : ∃ k, vm'.classes[cell.cls]? = some k) (hcl : ∃ k, vm'.classes[cl]? = some k) (hfit : vm'.assignable cell.cls cl = true) (hsz : vm'.classes.size ≤ s.vm.classes.size) :
    wp (findHandler f a) Q E e d acts s ↔ Q (.found x.handlerPc) d acts (s.setVm vm') := by
  rw [W.findHandler_eq hm hc, hx1]
  obtain ⟨ha, ht⟩ := hg.op (op := VmOp.resolveClass f.method.cls x.catchType) rfl
  simp only [covers] at hx
  simp [findHandler.go, hx, h0, ha, ht, hsz, hcell, hobj, hk, hcl, hfit, VmOp.dirties, VmOp.acts]
end THC
section THD
theorem th_step {e : Env} {s : State} {a : Addr} {f : JFrame} {r : List Frame} {pc : Nat} {vm' : Vm} (hfind : ∀ (Q : Handler → Pre) (E : CtlPost) (d : Bool) (acts : List Action), wp (findHandler f a) Q E e d acts s ↔ Q (.found pc) d acts (s.setVm vm')) :
    (stepThrowing e s a (.java f :: r)).1 = (s.setVm vm').setFrames (.java { f with pc := pc, stack := [.ref a] } :: r) := by
  simp only [stepThrowing, searchFrame, vmDo]
  generalize hr : Sem.go _ e false [] s = res
  obtain ⟨as, rfl, ha⟩ := Sem.eq_ok_of hr (a := Handler.found pc) (s' := s.setVm vm') (acts' := []) (by simp [hfind _ _ _ _])
  rfl
variable {p : Program} {l : Launch} {e : Env} {R : Room} {s : State} {m : MethodId} {args : Array Value} {below : List Frame} {meth : Method} {c : Code} {T : State} {locs : List Loc} {cells slots : Nat}
/-- the exception at a, noted over the frame g, is caught by the one entry x of the method's table: the walk goes on at its handler -/
theorem th_caught (X : Stand p l e R s m args below meth c T locs cells slots) {g : JFrame} (hg : g.method = m) {x : ExceptionTableEntry} (hx1 : c.exceptionTable.toList = [x]) (hx : covers x g.pc = true) (h0 : x.catchType ≠ 0)
    {own E : String} (hown : s.vm.findClass own = some m.cls) (hlink : (Cond.classLink own x.catchType E).before args s = true) {cl : ClassId} (hE : s.vm.findClass E = some cl) {a : Addr} {cell : Cell} (hcell : T.heap[a]? = some cell) (hobj : cell.vm = .none) (hcc : cell.cls = cl) (hself : s.vm.assignable cl cl = true) :
    ∃ vm', Stand p l e R s m args below meth c (T.setVm vm') locs cells slots ∧ ∀ target, Steps p.tables e below ((T.setVm vm').setTop { g with pc := x.handlerPc, stack := [.ref a] }) target → Steps p.tables e below ((T.setTop g).pushFrame (.throwing a)) target := by
  subst hg
  have hpl : e.platform.magicAccessors = ({} : Platform).magicAccessors := by rw [X.admits.platform]
  obtain ⟨c2, hfcc, hcl⟩ := Cond.classLink_spec hown hlink e.platform hpl
  cases hE.symm.trans hfcc
  obtain ⟨hg₁, hwarm₁, hready₁⟩ := State.classEntry (e := e) X.warmed hcl
  generalize hv : T.vm.noted g.method.cls x.catchType (.cls cl) = vm₁ at hg₁ hwarm₁ hready₁
  have hal : T.vm.Alike vm₁ := X.warmed.alike.symm.trans hwarm₁.alike
  have X₁ := X.noted hwarm₁
  refine ⟨vm₁, X₁, fun target hrest => ?_⟩
  obtain ⟨hgo, hw⟩ := X.here.throwing (g := g) a
  refine Steps.head hgo hw ?_
  obtain ⟨kc, hkc⟩ := Vm.classAt_of_findClass hE
  obtain ⟨k₁, hk₁, -⟩ := hwarm₁.alike.2.2 _ _ hkc
  have hvmT : ((T.setTop g).pushFrame (.throwing a)).vm = T.vm := Stand.throwing_vm T g a
  have hhT : ((T.setTop g).pushFrame (.throwing a)).heap = T.heap := Stand.throwing_heap T g a
  rw [stepThread_throwing (frames_entered X.here.top _), th_step (s := (T.setTop g).pushFrame (.throwing a)) (pc := x.handlerPc) (vm' := vm₁) (fun Q E d acts => th_find (meth := meth) (code := c) (by rw [hvmT]; exact X.method') X.code hx1 hx h0 (cl := cl) (cell := cell) (by rw [hvmT]; exact hg₁) (by rw [hhT]; exact hcell) (fun k h => by rw [hobj] at h; cases h) (by rw [hcc]; exact ⟨k₁, hk₁⟩) ⟨k₁, hk₁⟩ (by rw [hcc, hwarm₁.alike.assignable]; exact hself) (by rw [hvmT]; exact hal.size_le))]
  obtain ⟨g₀, hg0⟩ := Option.isSome_iff_exists.mp X.here.top
  obtain ⟨r, hr⟩ := State.topJava?_eq_some.mp hg0
  have hr' : (T.setVm vm₁).frames = .java g₀ :: r := hr
  rw [State.setTop_of_frames _ hr'] at hrest
  have e1 : (((T.setTop g).pushFrame (.throwing a)).setVm vm₁).setFrames (.java { g with pc := x.handlerPc, stack := [.ref a] } :: T.frames.tail) = (T.setVm vm₁).setFrames (.java { g with pc := x.handlerPc, stack := [.ref a] } :: r) := by
    rw [State.pushFrame, State.setTop_of_frames _ hr, State.setFrames_setFrames]
    have e0 : ∀ A : List Frame, (T.setFrames A).setVm vm₁ = (T.setVm vm₁).setFrames A := fun _ => rfl
    rw [e0, State.setFrames_setFrames, hr]
    rfl
  rw [e1]
  exact hrest
end THD
section THV
variable {p : Program} {l : Launch} {e : Env} {R : Room} {s : State} {m : MethodId} {args : Array Value} {below : List Frame} {meth : Method} {c : Code} {H : Heap} {locs : List Loc} {cells slots : Nat} {Q : State → Prop}
variable {y : MethodName} {bytes cc : ByteArray} {maxL nL mc ms n index : Nat} {ret : Option FieldType} {ws : List Cond} {rm : Room} {Pc : Array Value → State → Prop} {Qc : Array Value → State → Outcome → State → Prop} {Ts : List Cond} {own C : String} {b : Addr} {As rest : List Value} {g : JFrame}
/-- invokevirtual of a method that may throw E, under a catch of E -/
theorem th_tryV (S : CallFix p m c cc nL s args Ts own) (hM : MetT l y ws rm Pc Qc mc ms) (cw : CallW R s args own C index y bytes maxL ret ws rm mc ms n) (hp : PreV s H C b Pc As)
    (hg : g.method = m) (hn : As.length = n) (hsize : g.locals.size = nL) (hstack : g.stack = As.reverse ++ .ref b :: rest) (hW : 2 * g.monitorRoom + (rest.map fun v => v.category).sum ≤ 8) (hdg : decode cc g.pc = .ok (.invokevirtual index, 3)) (hf : cells + mc ≤ R.cells ∧ slots + ms ≤ R.slots)
    {x : ExceptionTableEntry} (hx1 : c.exceptionTable.toList = [x]) (hx : covers x g.pc = true) (h0 : x.catchType ≠ 0) {E : String} (hlink : (Cond.classLink own x.catchType E).before args s = true) {cl : ClassId} (hE : s.vm.findClass E = some cl) (hself : s.vm.assignable cl cl = true)
    (hthr : ∀ (a : Addr) (st t : State), st.heap = H → s.WarmedH st.vm → s.WarmedH t.vm → Qc (Value.ref b :: As).toArray st (.threw a) t → ∃ cell, t.heap[a]? = some cell ∧ cell.vm = .none ∧ cell.cls = cl)
    (kr : ∀ (v : Option Value) (st t : State), st.heap = H → s.WarmedH st.vm → s.WarmedH t.vm → Qc (Value.ref b :: As).toArray st (.returned v) t → (∀ q : Nat, q < H.size → t.heap[q]? = H[q]?) → H.size ≤ t.heap.size → W p l e R s m args below meth c t.heap locs (cells + mc) (slots + ms) Q { g with pc := g.pc + 3, stack := v.toList ++ rest })
    (kt : ∀ (a : Addr) (st t : State), st.heap = H → s.WarmedH st.vm → s.WarmedH t.vm → Qc (Value.ref b :: As).toArray st (.threw a) t → (∀ q : Nat, q < H.size → t.heap[q]? = H[q]?) → H.size ≤ t.heap.size → W p l e R s m args below meth c t.heap locs (cells + mc) (slots + ms) Q { g with pc := x.handlerPc, stack := [.ref a] }) :
    W p l e R s m args below meth c H locs cells slots Q g := by
  obtain ⟨⟨hrc, hrs, hfr0, hlo0, hws, hcin, hcode, hini, hy, hlen, hl⟩, hin, hsel⟩ := cw
  obtain ⟨hexec, hb, hml, hown, -⟩ := S
  obtain ⟨hblind, ⟨cellB, hcB, hoB, hclB⟩, hPc⟩ := hp
  intro T hT X
  obtain ⟨mk, methM, hnamed, hmethM, hstM, habM⟩ := Cond.instanceMethod_spec hin
  obtain ⟨methM', cM, hmethM', hcM, -, hlM, -, -, -, hsigM⟩ := Cond.code_spec hnamed hcode
  cases hmethM.symm.trans hmethM'
  obtain ⟨c2, r2, m2, q1, q2, q3, q4, kP, hkP, hkPi⟩ := Cond.selects_spec hsel
  cases hclB.symm.trans q1
  cases (State.methodFound?_of_named hnamed hy).symm.trans q2
  cases hnamed.symm.trans q3
  have hselP : selectMethod e.platform s.vm cellB.cls mk = .method mk := by rw [Launch.admits_selectMethod X.admits]; exact q4
  obtain ⟨vm₁, X₁, hstep₁⟩ := X.invokevirtual hexec hown hl hnamed hmethM hstM hkP hkPi hy (a := b) (cell := cellB) (by rw [hT]; exact hcB)
    (fun z h => by rw [h] at hoB; cases hoB) hselP hmethM habM hkP hkPi (g := g) hg (argsL := As) (rest := rest) (hn.trans (hlen _ hsigM)) hstack (by rw [hb]; exact hdg)
  generalize hU : T.setVm vm₁ = U at X₁ hstep₁
  have hUh : U.heap = H := by rw [← hU]; exact hT
  have hdg' : decode c.code g.pc = .ok (.invokevirtual index, 3) := by rw [hb]; exact hdg
  have hsz' : g.locals.size = c.maxLocals := hsize.trans hml.symm
  subst hg
  have hnU : U.methodNamed? y = some mk := X₁.named hnamed
  obtain ⟨kY, hkY, -⟩ := className_of_methodNamed hnU
  have hinitY : kY.init = .initialized := Cond.initialized_spec (findClass_of_methodNamed hnU) hkY (word_at (a' := args) X₁.warmed (Or.inl (by first | rfl | simp [Cond.onTables, Cond.keeps, Cond.steady])) hini)
  have hmU : U.vm.method? mk = some methM := by rw [X₁.warmed.alike.method?]; exact hmethM
  have h : At U g.method c below := X₁.here
  have happ : (headSpec ws rm).appliesLoose y e.platform (U.calling { g with stack := rest } mk (Value.ref b :: As).toArray) = true :=
    Spec.appliesLoose_calling (g := { g with stack := rest }) h hdg' hnU hkY hinitY
      (X₁.room_calling (g := { g with stack := rest }) (R' := (headSpec ws rm).room) hsz' hmU hcM hfr0 (by rw [hlM]; exact Nat.le_trans (by show _ ≤ 8 + (maxL + 11) + rm.locals; have hW' : 2 * ({ g with stack := rest } : JFrame).monitorRoom + (rest.map fun v => v.category).sum ≤ 8 := hW; show 2 * ({ g with stack := rest } : JFrame).monitorRoom + (rest.map fun v => v.category).sum + (maxL + 11) + rm.locals ≤ _; omega) hlo0) (by rw [show (headSpec ws rm).room.cells = mc from hrc]; exact hf.1) (by rw [show (headSpec ws rm).room.slots = ms from hrs]; exact hf.2))
      (atoms_intro fun w hw => hws w hw _ _ X₁.warmed)
  obtain ⟨mid, hmid⟩ := h.above
  have hfr : (U.setTop { g with stack := rest }).frames = (.java { g with stack := rest } :: mid) ++ below := by rw [State.frames_setTop' _ h.top, hmid]; rfl
  obtain ⟨o, s₂, hsteps, -, hend, hq⟩ := Steps.callFree hM p X₁.admits X₁.cas X₁.clock (acts := []) hfr happ (hblind _ _ _ _ (hPc U hUh X₁.warmed)) trivial
  have hq' : th_E Qc mc ms (Value.ref b :: As).toArray (U.calling { g with stack := rest } mk (Value.ref b :: As).toArray) o s₂ := hq
  rw [State.frames_setTop' _ h.top] at hend
  obtain ⟨hQ, hW₂, hS₂⟩ := hq'
  have hkeep : ∀ q : Nat, q < H.size → s₂.heap[q]? = H[q]? := by
    intro q hq9
    have := th_kept hS₂ q (by show q < U.heap.size; rw [hUh]; exact hq9)
    rw [← hUh]
    exact this
  have hgrow : H.size ≤ s₂.heap.size := by rw [← hUh]; exact hS₂.2.1
  have hWs : s.WarmedH s₂.vm := State.WarmedH.trans X₁.warmed (show U.WarmedH s₂.vm from hW₂)
  obtain ⟨st0, hst0⟩ : ∃ q, q = U.calling { g with stack := rest } mk (Value.ref b :: As).toArray := ⟨_, rfl⟩
  have hst1 : st0.heap = H := by rw [hst0]; exact hUh
  have hst2 : s.WarmedH st0.vm := by rw [hst0]; exact X₁.warmed
  cases o with
  | returned v =>
    obtain ⟨e2, q2, q3, q4, q5, q6⟩ := id hS₂
    have e3 : s₂ = ({ (U.calling { g with stack := rest } mk (Value.ref b :: As).toArray).setFrames s₂.frames with heap := s₂.heap, slotsUsed := s₂.slotsUsed } : State).setVm s₂.vm := by
      have : s₂ = ({ s₂ with vm := (U.calling { g with stack := rest } mk (Value.ref b :: As).toArray).vm } : State).setVm s₂.vm := rfl
      rw [e2] at this
      exact this
    obtain ⟨c₂, i₂, len₂, hc₂, hd₂, hf₂⟩ := hend
    have hW' : U.WarmedH s₂.vm := hW₂
    have hcc : c₂ = c := by
      have h1 : s₂.code? g.method = U.code? g.method := by
        rw [State.code?_eq, State.code?_eq, hW'.alike.method?]
      exact Option.some.inj (hc₂.symm.trans (h1.trans h.code))
    subst hcc
    have hlen2 : len₂ = 3 := by
      have hd3 : decode c₂.code g.pc = .ok (i₂, len₂) := hd₂
      rw [hdg'] at hd3; cases hd3; rfl
    subst hlen2
    obtain ⟨g₀, hg0⟩ := Option.isSome_iff_exists.mp h.top
    obtain ⟨r, hr⟩ := State.topJava?_eq_some.mp hg0
    have hs₂ : s₂ = (({ U with heap := s₂.heap, slotsUsed := s₂.slotsUsed } : State).setVm s₂.vm).setTop { g with pc := g.pc + 3, stack := v.toList ++ rest } := by
      have hr' : (({ U with heap := s₂.heap, slotsUsed := s₂.slotsUsed } : State).setVm s₂.vm).frames = .java g₀ :: r := hr
      refine e3.trans ?_
      rw [hf₂, State.calling_eq h.top, State.setFrames_setFrames, State.setTop_of_frames _ hr', hr]
      rfl
    have hsame : U.sameButNew ({ U with heap := s₂.heap, slotsUsed := s₂.slotsUsed } : State) [] mc ms := by
      refine ⟨?_, q2, q3, q4, q5, q6⟩
      obtain ⟨t, ht, -⟩ := State.frames_cons hr
      show ({ U with heap := s₂.heap, slotsUsed := s₂.slotsUsed } : State) = { U.setFrames U.frames with heap := s₂.heap, slotsUsed := s₂.slotsUsed }
      rw [State.setFrames_self ht]
    have X₂ : Stand p l e R s g.method args below meth c₂ (({ U with heap := s₂.heap, slotsUsed := s₂.slotsUsed } : State).setVm s₂.vm) (locs ++ []) (cells + mc) (slots + ms) :=
      ⟨X₁.admits, X₁.cas, X₁.clock, X₁.frames, X₁.room, X₁.hears, X₁.method, X₁.code, (X₁.here.setHeapUsed s₂.heap s₂.slotsUsed).setVm hW'.alike, X₁.tail, State.WarmedH.trans X₁.warmed hW', X₁.limits, X₁.bytes, X₁.same.trans (hsame.setVm s.vm)⟩
    rw [List.append_nil] at X₂
    obtain ⟨t, a1, b1⟩ := kr v st0 s₂ hst1 hst2 hWs (by rw [hst0]; exact hQ) hkeep hgrow (({ U with heap := s₂.heap, slotsUsed := s₂.slotsUsed } : State).setVm s₂.vm) rfl X₂
    refine ⟨t, hstep₁ _ fun acts => ?_, b1⟩
    rw [doInvoke_state]
    rw [hs₂] at hsteps
    exact hsteps.trans a1
  | threw a =>
    obtain ⟨T', X₂, hW3, hS3, ht⟩ := X₁.outOfThrown (g := { g with stack := rest }) rfl (by rw [X₁.tail] at hend; exact hend) hW₂ hS₂
    rw [List.append_nil] at X₂
    have hh2 : T'.heap = s₂.heap := by rw [ht]; exact (Stand.throwing_heap T' _ a).symm
    obtain ⟨cell, hc1, hc2, hc3⟩ := hthr a st0 s₂ hst1 hst2 hWs (by rw [hst0]; exact hQ)
    obtain ⟨vm', X₃, hst⟩ := th_caught X₂ (g := { g with stack := rest }) rfl hx1 hx h0 hown hlink hE (a := a) (cell := cell) (by rw [hh2]; exact hc1) hc2 hc3 hself
    obtain ⟨t, a1, b1⟩ := kt a st0 s₂ hst1 hst2 hWs (by rw [hst0]; exact hQ) hkeep hgrow (T'.setVm vm') hh2 X₃
    refine ⟨t, hstep₁ _ fun acts => ?_, b1⟩
    rw [doInvoke_state]
    rw [ht] at hsteps
    exact hsteps.trans (hst t a1)
/-- invokestatic, in the own class, of a method with an exception table -/
theorem th_runSW {hh : List (Nat × Nat × Nat × Nat)} {free : Addr → Prop} (S : CallFix p m c cc nL s args Ts own) (hM : Met l y ws rm Pc Qc mc ms free)
    (hcw : rm.cells = mc ∧ rm.slots = ms ∧ rm.frames + 1 ≤ R.frames ∧ 8 + (maxL + 11) + rm.locals ≤ R.locals ∧ (∀ w ∈ ws, ∀ (a' : Array Value) (U : State), s.WarmedH U.vm → w.before a' U = true) ∧ Cond.codeWith y bytes maxL ret hh ∈ ws ∧ (Cond.codeWith y bytes maxL ret hh).before args s = true ∧ (Cond.initialized y.cls).before args s = true ∧ (y.cls ≠ "java/lang/invoke/MethodHandle" ∧ y.cls ≠ "java/lang/invoke/VarHandle") ∧ (∀ sig, parseMethodDescriptor y.desc = some sig → n = sig.parameters.length) ∧ (Cond.methodLink own index y).before args s = true)
    (hstat : (Cond.static y).before args s = true) (hp : PreS s H Pc As)
    (hg : g.method = m) (hn : As.length = n) (hsize : g.locals.size = nL) (hstack : g.stack = As.reverse ++ rest) (hW : 2 * g.monitorRoom + (rest.map fun v => v.category).sum ≤ 8) (hdg : decode cc g.pc = .ok (.invokestatic index, 3)) (hf : cells + mc ≤ R.cells ∧ slots + ms ≤ R.slots) :
    va_Run p l e R s m args below meth c H locs cells slots mc ms g rest (Qc As.toArray) (free) := by
  obtain ⟨hrc, hrs, hfr, hlo, hws, hcin, hcode, hini, hy, hlen, hl⟩ := hcw
  have hK : Back l R p e below s args y 3 8 (PreOf R mc ms Pc) (PostOf Qc mc ms free) := va_backW (hh := hh) (bytes := bytes) (maxL := maxL) (ret := ret) hM hp.1 hrc hrs hfr hlo hws hcin (fun a' U hW => word_at hW (Or.inl (by first | rfl | simp [Cond.onTables, Cond.keeps, Cond.steady])) hini)
  obtain ⟨hx, hb, hml, ho, -⟩ := S
  intro T hT X
  obtain ⟨mk, methM, cM, hnamed, hmethM, -, -, -, -, -, -, hsigM⟩ := Cond.codeWith_spec hcode
  have hstatic : methM.isStatic = true := Cond.static_spec hnamed hmethM hstat
  obtain ⟨kP, hkP, -⟩ := className_of_methodNamed hnamed
  have hinitP : kP.init = .initialized := Cond.initialized_spec (findClass_of_methodNamed hnamed) hkP hini
  obtain ⟨vm₁, X₁, hstep₁⟩ := X.invokestatic hx ho hl hnamed hmethM hstatic hkP hinitP hy (g := g) hg (argsL := As) (rest := rest) (hn.trans (hlen _ hsigM)) hstack (by rw [hb]; exact hdg)
  obtain ⟨v, ⟨U', l2, c2, s2⟩, X', ⟨g', mk', t, L, e1, e2, hq, h1, hL, h2, h3⟩, hsteps⟩ := hK m meth c ⟨T.setVm vm₁, locs, cells, slots⟩ { g with stack := rest } (.invokestatic index) mk As.toArray X₁ hg (hsize.trans hml.symm) (by rw [hb]; exact hdg) hW (X₁.named hnamed) ⟨hf.1, hf.2, hp.2 (T.setVm vm₁) hT X₁.warmed⟩
  dsimp only [Pt.U, Pt.locs, Pt.cells, Pt.slots] at X' e1 e2 h1 h2 h3 hsteps
  subst h1; subst h2; subst h3
  exact ⟨v, (T.setVm vm₁).calling g' mk' As.toArray, t, U', L, hT, X', hL, e1, e2, hq, fun target h => hstep₁ _ fun acts => by rw [doInvoke_state]; exact hsteps.trans h⟩
end THV
def thN : List String := ["java/lang/RuntimeException", "java/lang/Exception"]
def th_Qi (E : String) (ok : Int32 → Prop) (no : Prop) : Array Value → State → Outcome → State → Prop := fun _ st o t => (∃ r : Int32, o = .returned (some (.int r)) ∧ ok r ∧ t.heap = st.heap) ∨ (∃ (a : Addr) (ce : Cell), o = .threw a ∧ no ∧ t.heap[a]? = some ce ∧ ce.vm = .none ∧ st.vm.findClass E = some ce.cls)
def th_Ql (E : String) (ok : Int64 → Prop) (no : Prop) : Array Value → State → Outcome → State → Prop := fun _ st o t => (∃ r : Int64, o = .returned (some (.long r)) ∧ ok r ∧ t.heap = st.heap) ∨ (∃ (a : Addr) (ce : Cell), o = .threw a ∧ no ∧ t.heap[a]? = some ce ∧ ce.vm = .none ∧ st.vm.findClass E = some ce.cls)
theorem th_ret {p : Program} {l : Launch} {e : Env} {R : Room} {s : State} {m : MethodId} {args : Array Value} {below : List Frame} {meth : Method} {c : Code} {H : Heap} {locs : List Loc} {cells slots mc ms : Nat} {Qc : Array Value → State → Outcome → State → Prop} {g : JFrame}
    (k : W p l e R s m args below meth c H locs cells slots (MQ below Qc args s mc ms (fun _ => False)) g) : W p l e R s m args below meth c H locs cells slots (MQT below Qc args s mc ms) g := fun T hT X => by
  obtain ⟨t, a, b⟩ := k T hT X
  exact ⟨t, a, th_toT b⟩
theorem th_str {own tx : String} {k : Nat} {s : State} {args : Array Value} {m : MethodId} (hown : s.vm.findClass own = some m.cls) (h : (Cond.stringRef own k tx).before args s = true) : ∃ q, vk_R own k tx q s := by
  obtain ⟨-, -, -, sa, -, -, -, -, -, hev⟩ := Cond.stringRef_spec hown h
  exact ⟨sa, vk_R.of h hev⟩
/-- where a static field lies: its class's statics cell -/
def th_L (C n d : String) (A : Nat → Prop) (U : State) (H : Heap) : Prop := ∃ (c : ClassId) (k : Class) (i : Nat) (f : Field) (a : Nat) (cell : Cell), U.vm.findClass C = some c ∧ U.fieldFound? C n d = some (c, k, i, f) ∧ f.isStatic = true ∧ k.statics = some a ∧ H[a]? = some cell ∧ cell.vm.isStatics = true ∧ cell.cls = c ∧ f.slot < cell.slots.size ∧ k.staticTypes[f.slot]? = some f.type ∧ ¬ A a
theorem th_L.to {C n d : String} {A : Nat → Prop} {u U : State} {H H1 : Heap} (hvm : u.vm.Alike U.vm) (hq : ∀ a : Nat, a < H.size → ¬ A a → H1[a]? = H[a]?) (h : th_L C n d A u H) : th_L C n d A U H1 := by
  obtain ⟨c, k, i, f, a, cell, h1, h2, h3, h4, h5, h6, h7, h8, h9, h10⟩ := h
  obtain ⟨k', hi', he⟩ := State.fieldFound?_setVm hvm h2
  exact ⟨c, k', i, f, a, cell, by rw [hvm.findClass]; exact h1, hi', h3, by rw [he]; exact h4, by rw [hq a (Array.getElem?_eq_some_iff.mp h5).1 h10]; exact h5, h6, h7, h8, by rw [he]; exact h9, h10⟩
theorem th_L.word {C n d : String} {A : Nat → Prop} {s : State} {args : Array Value} (h : th_L C n d A s s.heap) : (Cond.laysStatic C n d).before args s = true := by
  obtain ⟨c, k, i, f, a, cell, h1, h2, h3, h4, h5, h6, h7, h8, h9, -⟩ := h
  show (Cond.laysStatic C n d).holds args s none s [] = true
  exact Cond.laysStatic_of h1 h2 h3 h4 h5 h6 h7 h8 h9
theorem th_L.of {C n d : String} {A : Nat → Prop} {s : State} {args : Array Value} (hl : (Cond.laysStatic C n d).before args s = true) (hA : ∀ a : Nat, a < s.heap.size → ¬ A a) : th_L C n d A s s.heap := by
  obtain ⟨c, k, i, f, a, cell, h1, h2, h3, h4, h5, h6, h7, h8, h9⟩ := Cond.laysStatic_spec hl
  exact ⟨c, k, i, f, a, cell, h1, h2, h3, h4, h5, h6, h7, h8, h9, hA a (Array.getElem?_eq_some_iff.mp h5).1⟩
/-- the words of the tables that stay true under warmer tables, the good ones and those on members -/
def th_k (w : Cond) : Bool := w.onTables && w.keepsFace
def th_T (U : State) : Prop := ∀ w ∈ lw_tbl, th_k w = true → w.before #[] U = true
theorem th_T.to {s U : State} (hW : s.WarmedH U.vm) (h : th_T s) : th_T U := by
  intro w hw hk
  have hk2 := hk
  unfold th_k at hk2
  rw [Bool.and_eq_true] at hk2
  have h1 : w.before #[] (s.setVm U.vm) = true := Cond.before_shiftedFace (State.Shifted.of_warmed hW) w hk2.2 (h w hw hk)
  exact va_tabs hk2.1 (rfl : (s.setVm U.vm).vm = U.vm) h1
theorem th_T.same {s U : State} (hv : s.vm = U.vm) (h : th_T s) : th_T U := fun w hw hk => by
  have hk2 := hk
  unfold th_k at hk2
  rw [Bool.and_eq_true] at hk2
  exact va_tabs hk2.1 hv (h w hw hk)
def thS : List (Nat × String) := [(30, "the divisor is 0"), (46, "a long can't hold the ratio"), (62, "d is not above 0"), (65, "n is not 0 .. d"), (80, "c is not 0 .. 255"), (86, "x or y is not 0 .. 255")]
/-- what a throw needs of the state: two statics of Throwable, the tables' words, the texts -/
def th_Z (sz : Nat) (U : State) : Prop := (va_Zq Bundle.tN "UNASSIGNED_STACK" Bundle.steD (fun q => sz ≤ q) U U.heap ∧ va_Zq Bundle.tN "SUPPRESSED_SENTINEL" Bundle.listD (fun q => sz ≤ q) U U.heap) ∧ (th_L Bundle.tN "UNASSIGNED_STACK" Bundle.steD (fun q => sz ≤ q) U U.heap ∧ th_L Bundle.tN "SUPPRESSED_SENTINEL" Bundle.listD (fun q => sz ≤ q) U U.heap) ∧ th_T U ∧ ∀ z ∈ thS, ∃ q, vk_R R_F z.1 z.2 q U
theorem th_Z.to {sz : Nat} {s U : State} (h : th_Z sz s) (hW : s.WarmedH U.vm) (hq : ∀ q : Nat, q < s.heap.size → ¬ sz ≤ q → U.heap[q]? = s.heap[q]?) : th_Z sz U :=
  ⟨⟨(va_Zq.moved hW.alike h.1.1).kept hq, (va_Zq.moved hW.alike h.1.2).kept hq⟩, ⟨th_L.to hW.alike hq h.2.1.1, th_L.to hW.alike hq h.2.1.2⟩, th_T.to hW h.2.2.1, fun z hz => by
    obtain ⟨q, hq⟩ := h.2.2.2 z hz
    exact ⟨q, vk_R.warm hW hq⟩⟩
theorem th_Z.call {sz : Nat} {U : State} {g : JFrame} {mk : MethodId} {a : Array Value} (h : th_Z sz U) : th_Z sz (U.calling g mk a) :=
  ⟨⟨va_Zq.moved (Vm.Alike.refl U.vm) h.1.1, va_Zq.moved (Vm.Alike.refl U.vm) h.1.2⟩, ⟨th_L.to (Vm.Alike.refl U.vm) (fun _ _ _ => rfl) h.2.1.1, th_L.to (Vm.Alike.refl U.vm) (fun _ _ _ => rfl) h.2.1.2⟩, th_T.same (s := U) (U := U.calling g mk a) rfl h.2.2.1, fun z hz => by
    obtain ⟨q, hq⟩ := h.2.2.2 z hz
    exact ⟨q, vk_R.same (u := U) rfl hq⟩⟩
theorem th_isRef {C n d : String} {A : Nat → Prop} {U : State} {args : Array Value} (h : va_Zq C n d A U U.heap) : (Cond.isRef (.static C n d)).before args U = true := by
  rcases h with ⟨cf, kf, fi, f, a, cell, h1, h2, h3, h4, h5, h6, h7, h8⟩ | ⟨t, cf, kf, fi, f, a, cell, h1, h2, h3, h4, h5, h6, h7, h8⟩ <;> simp [Cond.before, Cond.holds, Cond.value, Term.eval, State.fieldNamed?, h1, h2, h4, h5, h6, h7]
theorem th_at {own : String} {ic : Nat} {X : String} {names : List String} {s : State} {args : Array Value} {sz : Nat} (hmem : (Bundle.ownAtoms own ic X names).all (fun w => decide (w = .isRef (.static Bundle.tN "UNASSIGNED_STACK" Bundle.steD)) || decide (w = .isRef (.static Bundle.tN "SUPPRESSED_SENTINEL" Bundle.listD)) || decide (w = .laysStatic Bundle.tN "UNASSIGNED_STACK" Bundle.steD) || decide (w = .laysStatic Bundle.tN "SUPPRESSED_SENTINEL" Bundle.listD) || (decide (w ∈ lw_tbl) && th_k w)) = true)
    (hZ : th_Z sz s) : ∀ a ∈ Bundle.ownAtoms own ic X names, a.before args s = true := by
  intro a ha
  have h := List.all_eq_true.mp hmem a ha
  rw [Bool.or_eq_true, Bool.or_eq_true, Bool.or_eq_true, Bool.or_eq_true, Bool.and_eq_true] at h
  rcases h with (((h | h) | h) | h) | h
  · rw [of_decide_eq_true h]
    exact th_isRef hZ.1.1
  · rw [of_decide_eq_true h]
    exact th_isRef hZ.1.2
  · rw [of_decide_eq_true h]
    exact th_L.word hZ.2.1.1
  · rw [of_decide_eq_true h]
    exact th_L.word hZ.2.1.2
  · have hk2 := h.2
    unfold th_k at hk2
    rw [Bool.and_eq_true] at hk2
    exact va_tabs hk2.1 rfl (hZ.2.2.1 a (of_decide_eq_true h.1) h.2)
theorem th_off {l : Launch} {e : Env} (hf : l.flags = flags0) (ha : l.admits e) : e.platform.stackTraces = false := Launch.traces_off hf ha
set_option maxRecDepth 20000 in
theorem th_at_32 {s : State} {args : Array Value} {sz : Nat} (hZ : th_Z sz s) : ∀ a ∈ Bundle.ownAtoms R_F 32 "java/lang/ArithmeticException" thN, a.before args s = true := th_at (by decide +kernel) hZ
set_option maxRecDepth 20000 in
theorem th_at_64 {s : State} {args : Array Value} {sz : Nat} (hZ : th_Z sz s) : ∀ a ∈ Bundle.ownAtoms R_F 64 "java/lang/IllegalArgumentException" thN, a.before args s = true := th_at (by decide +kernel) hZ
end
section
theorem d_F_init_0 : decode b_F_init 0 = .ok (.aload_n 0, 1) := by decide +kernel
theorem d_F_init_1 : decode b_F_init 1 = .ok (.invokespecial 1, 3) := by decide +kernel
theorem d_F_init_4 : decode b_F_init 4 = .ok (.return_, 1) := by decide +kernel
theorem d_F_product_0 : decode b_F_product 0 = .ok (.iload_n 1, 1) := by decide +kernel
theorem d_F_product_1 : decode b_F_product 1 = .ok (.i2l, 1) := by decide +kernel
theorem d_F_product_2 : decode b_F_product 2 = .ok (.iload_n 2, 1) := by decide +kernel
theorem d_F_product_3 : decode b_F_product 3 = .ok (.i2l, 1) := by decide +kernel
theorem d_F_product_4 : decode b_F_product 4 = .ok (.lmul, 1) := by decide +kernel
theorem d_F_product_5 : decode b_F_product 5 = .ok (.bipush 16, 2) := by decide +kernel
theorem d_F_product_7 : decode b_F_product 7 = .ok (.lshr, 1) := by decide +kernel
theorem d_F_product_8 : decode b_F_product 8 = .ok (.l2i, 1) := by decide +kernel
theorem d_F_product_9 : decode b_F_product 9 = .ok (.ireturn, 1) := by decide +kernel
theorem d_F_quotient_0 : decode b_F_quotient 0 = .ok (.iload_n 2, 1) := by decide +kernel
theorem d_F_quotient_1 : decode b_F_quotient 1 = .ok (.ifCond .ne 23, 3) := by decide +kernel
theorem d_F_quotient_4 : decode b_F_quotient 4 = .ok (.iload_n 1, 1) := by decide +kernel
theorem d_F_quotient_5 : decode b_F_quotient 5 = .ok (.ifCond .le 8, 3) := by decide +kernel
theorem d_F_quotient_8 : decode b_F_quotient 8 = .ok (.ldc 9, 2) := by decide +kernel
theorem d_F_quotient_10 : decode b_F_quotient 10 = .ok (.goto 13, 3) := by decide +kernel
theorem d_F_quotient_13 : decode b_F_quotient 13 = .ok (.iload_n 1, 1) := by decide +kernel
theorem d_F_quotient_14 : decode b_F_quotient 14 = .ok (.ifCond .ge 8, 3) := by decide +kernel
theorem d_F_quotient_17 : decode b_F_quotient 17 = .ok (.ldc 10, 2) := by decide +kernel
theorem d_F_quotient_19 : decode b_F_quotient 19 = .ok (.goto 4, 3) := by decide +kernel
theorem d_F_quotient_22 : decode b_F_quotient 22 = .ok (.iconst 0, 1) := by decide +kernel
theorem d_F_quotient_23 : decode b_F_quotient 23 = .ok (.ireturn, 1) := by decide +kernel
theorem d_F_quotient_24 : decode b_F_quotient 24 = .ok (.ldc2_w 11, 3) := by decide +kernel
theorem d_F_quotient_27 : decode b_F_quotient 27 = .ok (.iload_n 1, 1) := by decide +kernel
theorem d_F_quotient_28 : decode b_F_quotient 28 = .ok (.i2l, 1) := by decide +kernel
theorem d_F_quotient_29 : decode b_F_quotient 29 = .ok (.lmul, 1) := by decide +kernel
theorem d_F_quotient_30 : decode b_F_quotient 30 = .ok (.iload_n 2, 1) := by decide +kernel
theorem d_F_quotient_31 : decode b_F_quotient 31 = .ok (.i2l, 1) := by decide +kernel
theorem d_F_quotient_32 : decode b_F_quotient 32 = .ok (.invokestatic 13, 3) := by decide +kernel
theorem d_F_quotient_35 : decode b_F_quotient 35 = .ok (.invokestatic 19, 3) := by decide +kernel
theorem d_F_quotient_38 : decode b_F_quotient 38 = .ok (.ireturn, 1) := by decide +kernel
theorem d_J_floorDiv_0 : decode b_J_floorDiv 0 = .ok (.lload_n 0, 1) := by decide +kernel
theorem d_J_floorDiv_1 : decode b_J_floorDiv 1 = .ok (.lload_n 2, 1) := by decide +kernel
theorem d_J_floorDiv_2 : decode b_J_floorDiv 2 = .ok (.ldiv, 1) := by decide +kernel
theorem d_J_floorDiv_3 : decode b_J_floorDiv 3 = .ok (.lstore 4, 2) := by decide +kernel
theorem d_J_floorDiv_5 : decode b_J_floorDiv 5 = .ok (.lload_n 0, 1) := by decide +kernel
theorem d_J_floorDiv_6 : decode b_J_floorDiv 6 = .ok (.lload_n 2, 1) := by decide +kernel
theorem d_J_floorDiv_7 : decode b_J_floorDiv 7 = .ok (.lxor, 1) := by decide +kernel
theorem d_J_floorDiv_8 : decode b_J_floorDiv 8 = .ok (.lconst 0, 1) := by decide +kernel
theorem d_J_floorDiv_9 : decode b_J_floorDiv 9 = .ok (.lcmp, 1) := by decide +kernel
theorem d_J_floorDiv_10 : decode b_J_floorDiv 10 = .ok (.ifCond .ge 17, 3) := by decide +kernel
theorem d_J_floorDiv_13 : decode b_J_floorDiv 13 = .ok (.lload 4, 2) := by decide +kernel
theorem d_J_floorDiv_15 : decode b_J_floorDiv 15 = .ok (.lload_n 2, 1) := by decide +kernel
theorem d_J_floorDiv_16 : decode b_J_floorDiv 16 = .ok (.lmul, 1) := by decide +kernel
theorem d_J_floorDiv_17 : decode b_J_floorDiv 17 = .ok (.lload_n 0, 1) := by decide +kernel
theorem d_J_floorDiv_18 : decode b_J_floorDiv 18 = .ok (.lcmp, 1) := by decide +kernel
theorem d_J_floorDiv_19 : decode b_J_floorDiv 19 = .ok (.ifCond .eq 8, 3) := by decide +kernel
theorem d_J_floorDiv_22 : decode b_J_floorDiv 22 = .ok (.lload 4, 2) := by decide +kernel
theorem d_J_floorDiv_24 : decode b_J_floorDiv 24 = .ok (.lconst 1, 1) := by decide +kernel
theorem d_J_floorDiv_25 : decode b_J_floorDiv 25 = .ok (.lsub, 1) := by decide +kernel
theorem d_J_floorDiv_26 : decode b_J_floorDiv 26 = .ok (.lreturn, 1) := by decide +kernel
theorem d_J_floorDiv_27 : decode b_J_floorDiv 27 = .ok (.lload 4, 2) := by decide +kernel
theorem d_J_floorDiv_29 : decode b_J_floorDiv 29 = .ok (.lreturn, 1) := by decide +kernel
theorem d_F_cut_0 : decode b_F_cut 0 = .ok (.ldc2_w 97, 3) := by decide +kernel
theorem d_F_cut_3 : decode b_F_cut 3 = .ok (.lload_n 0, 1) := by decide +kernel
theorem d_F_cut_4 : decode b_F_cut 4 = .ok (.ldc2_w 99, 3) := by decide +kernel
theorem d_F_cut_7 : decode b_F_cut 7 = .ok (.invokestatic 101, 3) := by decide +kernel
theorem d_F_cut_10 : decode b_F_cut 10 = .ok (.invokestatic 103, 3) := by decide +kernel
theorem d_F_cut_13 : decode b_F_cut 13 = .ok (.l2i, 1) := by decide +kernel
theorem d_F_cut_14 : decode b_F_cut 14 = .ok (.ireturn, 1) := by decide +kernel
theorem d_F_root_0 : decode b_F_root 0 = .ok (.iload_n 1, 1) := by decide +kernel
theorem d_F_root_1 : decode b_F_root 1 = .ok (.ifCond .ge 5, 3) := by decide +kernel
theorem d_F_root_4 : decode b_F_root 4 = .ok (.iconst 0, 1) := by decide +kernel
theorem d_F_root_5 : decode b_F_root 5 = .ok (.ireturn, 1) := by decide +kernel
theorem d_F_root_6 : decode b_F_root 6 = .ok (.ldc2_w 11, 3) := by decide +kernel
theorem d_F_root_9 : decode b_F_root 9 = .ok (.iload_n 1, 1) := by decide +kernel
theorem d_F_root_10 : decode b_F_root 10 = .ok (.i2l, 1) := by decide +kernel
theorem d_F_root_11 : decode b_F_root 11 = .ok (.lmul, 1) := by decide +kernel
theorem d_F_root_12 : decode b_F_root 12 = .ok (.invokestatic 23, 3) := by decide +kernel
theorem d_F_root_15 : decode b_F_root 15 = .ok (.ireturn, 1) := by decide +kernel
theorem d_F_wholeRoot_0 : decode b_F_wholeRoot 0 = .ok (.lconst 0, 1) := by decide +kernel
theorem d_F_wholeRoot_1 : decode b_F_wholeRoot 1 = .ok (.lstore_n 2, 1) := by decide +kernel
theorem d_F_wholeRoot_2 : decode b_F_wholeRoot 2 = .ok (.bipush 24, 2) := by decide +kernel
theorem d_F_wholeRoot_4 : decode b_F_wholeRoot 4 = .ok (.istore 4, 2) := by decide +kernel
theorem d_F_wholeRoot_6 : decode b_F_wholeRoot 6 = .ok (.iload 4, 2) := by decide +kernel
theorem d_F_wholeRoot_8 : decode b_F_wholeRoot 8 = .ok (.ifCond .lt 30, 3) := by decide +kernel
theorem d_F_wholeRoot_11 : decode b_F_wholeRoot 11 = .ok (.lload_n 2, 1) := by decide +kernel
theorem d_F_wholeRoot_12 : decode b_F_wholeRoot 12 = .ok (.lconst 1, 1) := by decide +kernel
theorem d_F_wholeRoot_13 : decode b_F_wholeRoot 13 = .ok (.iload 4, 2) := by decide +kernel
theorem d_F_wholeRoot_15 : decode b_F_wholeRoot 15 = .ok (.lshl, 1) := by decide +kernel
theorem d_F_wholeRoot_16 : decode b_F_wholeRoot 16 = .ok (.ladd, 1) := by decide +kernel
theorem d_F_wholeRoot_17 : decode b_F_wholeRoot 17 = .ok (.lstore 5, 2) := by decide +kernel
theorem d_F_wholeRoot_19 : decode b_F_wholeRoot 19 = .ok (.lload 5, 2) := by decide +kernel
theorem d_F_wholeRoot_21 : decode b_F_wholeRoot 21 = .ok (.lload 5, 2) := by decide +kernel
theorem d_F_wholeRoot_23 : decode b_F_wholeRoot 23 = .ok (.lmul, 1) := by decide +kernel
theorem d_F_wholeRoot_24 : decode b_F_wholeRoot 24 = .ok (.lload_n 0, 1) := by decide +kernel
theorem d_F_wholeRoot_25 : decode b_F_wholeRoot 25 = .ok (.lcmp, 1) := by decide +kernel
theorem d_F_wholeRoot_26 : decode b_F_wholeRoot 26 = .ok (.ifCond .gt 6, 3) := by decide +kernel
theorem d_F_wholeRoot_29 : decode b_F_wholeRoot 29 = .ok (.lload 5, 2) := by decide +kernel
theorem d_F_wholeRoot_31 : decode b_F_wholeRoot 31 = .ok (.lstore_n 2, 1) := by decide +kernel
theorem d_F_wholeRoot_32 : decode b_F_wholeRoot 32 = .ok (.iinc 4 (-1), 3) := by decide +kernel
theorem d_F_wholeRoot_35 : decode b_F_wholeRoot 35 = .ok (.goto (-29), 3) := by decide +kernel
theorem d_F_wholeRoot_38 : decode b_F_wholeRoot 38 = .ok (.lload_n 2, 1) := by decide +kernel
theorem d_F_wholeRoot_39 : decode b_F_wholeRoot 39 = .ok (.l2i, 1) := by decide +kernel
theorem d_F_wholeRoot_40 : decode b_F_wholeRoot 40 = .ok (.ireturn, 1) := by decide +kernel
theorem d_F_oneByRoot_0 : decode b_F_oneByRoot 0 = .ok (.iload_n 1, 1) := by decide +kernel
theorem d_F_oneByRoot_1 : decode b_F_oneByRoot 1 = .ok (.ifCond .gt 6, 3) := by decide +kernel
theorem d_F_oneByRoot_4 : decode b_F_oneByRoot 4 = .ok (.ldc 9, 2) := by decide +kernel
theorem d_F_oneByRoot_6 : decode b_F_oneByRoot 6 = .ok (.ireturn, 1) := by decide +kernel
theorem d_F_oneByRoot_7 : decode b_F_oneByRoot 7 = .ok (.ldc2_w 26, 3) := by decide +kernel
theorem d_F_oneByRoot_10 : decode b_F_oneByRoot 10 = .ok (.iload_n 1, 1) := by decide +kernel
theorem d_F_oneByRoot_11 : decode b_F_oneByRoot 11 = .ok (.i2l, 1) := by decide +kernel
theorem d_F_oneByRoot_12 : decode b_F_oneByRoot 12 = .ok (.ldiv, 1) := by decide +kernel
theorem d_F_oneByRoot_13 : decode b_F_oneByRoot 13 = .ok (.invokestatic 23, 3) := by decide +kernel
theorem d_F_oneByRoot_16 : decode b_F_oneByRoot 16 = .ok (.ireturn, 1) := by decide +kernel
theorem d_F_channel_0 : decode b_F_channel 0 = .ok (.iconst 0, 1) := by decide +kernel
theorem d_F_channel_1 : decode b_F_channel 1 = .ok (.iload_n 1, 1) := by decide +kernel
theorem d_F_channel_2 : decode b_F_channel 2 = .ok (.ldc 67, 2) := by decide +kernel
theorem d_F_channel_4 : decode b_F_channel 4 = .ok (.invokestatic 68, 3) := by decide +kernel
theorem d_F_channel_7 : decode b_F_channel 7 = .ok (.invokestatic 72, 3) := by decide +kernel
theorem d_F_channel_10 : decode b_F_channel 10 = .ok (.istore_n 2, 1) := by decide +kernel
theorem d_F_channel_11 : decode b_F_channel 11 = .ok (.sipush 255, 3) := by decide +kernel
theorem d_F_channel_14 : decode b_F_channel 14 = .ok (.iload_n 2, 1) := by decide +kernel
theorem d_F_channel_15 : decode b_F_channel 15 = .ok (.imul, 1) := by decide +kernel
theorem d_F_channel_16 : decode b_F_channel 16 = .ok (.ldc 75, 2) := by decide +kernel
theorem d_F_channel_18 : decode b_F_channel 18 = .ok (.iadd, 1) := by decide +kernel
theorem d_F_channel_19 : decode b_F_channel 19 = .ok (.bipush 16, 2) := by decide +kernel
theorem d_F_channel_21 : decode b_F_channel 21 = .ok (.ishr, 1) := by decide +kernel
theorem d_F_channel_22 : decode b_F_channel 22 = .ok (.ireturn, 1) := by decide +kernel
theorem d_F_fromHalf_0 : decode b_F_fromHalf 0 = .ok (.iload_n 1, 1) := by decide +kernel
theorem d_F_fromHalf_1 : decode b_F_fromHalf 1 = .ok (.ldc 75, 2) := by decide +kernel
theorem d_F_fromHalf_3 : decode b_F_fromHalf 3 = .ok (.iand, 1) := by decide +kernel
theorem d_F_fromHalf_4 : decode b_F_fromHalf 4 = .ok (.ifCond .eq 7, 3) := by decide +kernel
theorem d_F_fromHalf_7 : decode b_F_fromHalf 7 = .ok (.iconst 1, 1) := by decide +kernel
theorem d_F_fromHalf_8 : decode b_F_fromHalf 8 = .ok (.goto 4, 3) := by decide +kernel
theorem d_F_fromHalf_11 : decode b_F_fromHalf 11 = .ok (.iconst 0, 1) := by decide +kernel
theorem d_F_fromHalf_12 : decode b_F_fromHalf 12 = .ok (.istore_n 2, 1) := by decide +kernel
theorem d_F_fromHalf_13 : decode b_F_fromHalf 13 = .ok (.iload_n 1, 1) := by decide +kernel
theorem d_F_fromHalf_14 : decode b_F_fromHalf 14 = .ok (.bipush 10, 2) := by decide +kernel
theorem d_F_fromHalf_16 : decode b_F_fromHalf 16 = .ok (.ishr, 1) := by decide +kernel
theorem d_F_fromHalf_17 : decode b_F_fromHalf 17 = .ok (.bipush 31, 2) := by decide +kernel
theorem d_F_fromHalf_19 : decode b_F_fromHalf 19 = .ok (.iand, 1) := by decide +kernel
theorem d_F_fromHalf_20 : decode b_F_fromHalf 20 = .ok (.istore_n 3, 1) := by decide +kernel
theorem d_F_fromHalf_21 : decode b_F_fromHalf 21 = .ok (.iload_n 1, 1) := by decide +kernel
theorem d_F_fromHalf_22 : decode b_F_fromHalf 22 = .ok (.sipush 1023, 3) := by decide +kernel
theorem d_F_fromHalf_25 : decode b_F_fromHalf 25 = .ok (.iand, 1) := by decide +kernel
theorem d_F_fromHalf_26 : decode b_F_fromHalf 26 = .ok (.istore 4, 2) := by decide +kernel
theorem d_F_fromHalf_28 : decode b_F_fromHalf 28 = .ok (.iload_n 3, 1) := by decide +kernel
theorem d_F_fromHalf_29 : decode b_F_fromHalf 29 = .ok (.bipush 31, 2) := by decide +kernel
theorem d_F_fromHalf_31 : decode b_F_fromHalf 31 = .ok (.if_icmp .ne 24, 3) := by decide +kernel
theorem d_F_fromHalf_34 : decode b_F_fromHalf 34 = .ok (.iload 4, 2) := by decide +kernel
theorem d_F_fromHalf_36 : decode b_F_fromHalf 36 = .ok (.ifCond .eq 7, 3) := by decide +kernel
theorem d_F_fromHalf_39 : decode b_F_fromHalf 39 = .ok (.iconst 0, 1) := by decide +kernel
theorem d_F_fromHalf_40 : decode b_F_fromHalf 40 = .ok (.goto 14, 3) := by decide +kernel
theorem d_F_fromHalf_43 : decode b_F_fromHalf 43 = .ok (.iload_n 2, 1) := by decide +kernel
theorem d_F_fromHalf_44 : decode b_F_fromHalf 44 = .ok (.ifCond .eq 8, 3) := by decide +kernel
theorem d_F_fromHalf_47 : decode b_F_fromHalf 47 = .ok (.ldc 10, 2) := by decide +kernel
theorem d_F_fromHalf_49 : decode b_F_fromHalf 49 = .ok (.goto 5, 3) := by decide +kernel
theorem d_F_fromHalf_52 : decode b_F_fromHalf 52 = .ok (.ldc 9, 2) := by decide +kernel
theorem d_F_fromHalf_54 : decode b_F_fromHalf 54 = .ok (.ireturn, 1) := by decide +kernel
theorem d_F_fromHalf_55 : decode b_F_fromHalf 55 = .ok (.iload_n 3, 1) := by decide +kernel
theorem d_F_fromHalf_56 : decode b_F_fromHalf 56 = .ok (.ifCond .ne 9, 3) := by decide +kernel
theorem d_F_fromHalf_59 : decode b_F_fromHalf 59 = .ok (.iload 4, 2) := by decide +kernel
theorem d_F_fromHalf_61 : decode b_F_fromHalf 61 = .ok (.i2l, 1) := by decide +kernel
theorem d_F_fromHalf_62 : decode b_F_fromHalf 62 = .ok (.goto 10, 3) := by decide +kernel
theorem d_F_fromHalf_65 : decode b_F_fromHalf 65 = .ok (.sipush 1024, 3) := by decide +kernel
theorem d_F_fromHalf_68 : decode b_F_fromHalf 68 = .ok (.iload 4, 2) := by decide +kernel
theorem d_F_fromHalf_70 : decode b_F_fromHalf 70 = .ok (.iadd, 1) := by decide +kernel
theorem d_F_fromHalf_71 : decode b_F_fromHalf 71 = .ok (.i2l, 1) := by decide +kernel
theorem d_F_fromHalf_72 : decode b_F_fromHalf 72 = .ok (.lstore 5, 2) := by decide +kernel
theorem d_F_fromHalf_74 : decode b_F_fromHalf 74 = .ok (.iload_n 3, 1) := by decide +kernel
theorem d_F_fromHalf_75 : decode b_F_fromHalf 75 = .ok (.iconst 1, 1) := by decide +kernel
theorem d_F_fromHalf_76 : decode b_F_fromHalf 76 = .ok (.invokestatic 72, 3) := by decide +kernel
theorem d_F_fromHalf_79 : decode b_F_fromHalf 79 = .ok (.istore 7, 2) := by decide +kernel
theorem d_F_fromHalf_81 : decode b_F_fromHalf 81 = .ok (.iload_n 2, 1) := by decide +kernel
theorem d_F_fromHalf_82 : decode b_F_fromHalf 82 = .ok (.ifCond .eq 9, 3) := by decide +kernel
theorem d_F_fromHalf_85 : decode b_F_fromHalf 85 = .ok (.lload 5, 2) := by decide +kernel
theorem d_F_fromHalf_87 : decode b_F_fromHalf 87 = .ok (.lneg, 1) := by decide +kernel
theorem d_F_fromHalf_88 : decode b_F_fromHalf 88 = .ok (.goto 5, 3) := by decide +kernel
theorem d_F_fromHalf_91 : decode b_F_fromHalf 91 = .ok (.lload 5, 2) := by decide +kernel
theorem d_F_fromHalf_93 : decode b_F_fromHalf 93 = .ok (.lstore 8, 2) := by decide +kernel
theorem d_F_fromHalf_95 : decode b_F_fromHalf 95 = .ok (.iload 7, 2) := by decide +kernel
theorem d_F_fromHalf_97 : decode b_F_fromHalf 97 = .ok (.bipush 9, 2) := by decide +kernel
theorem d_F_fromHalf_99 : decode b_F_fromHalf 99 = .ok (.if_icmp .lt 14, 3) := by decide +kernel
theorem d_F_fromHalf_102 : decode b_F_fromHalf 102 = .ok (.lload 8, 2) := by decide +kernel
theorem d_F_fromHalf_104 : decode b_F_fromHalf 104 = .ok (.iload 7, 2) := by decide +kernel
theorem d_F_fromHalf_106 : decode b_F_fromHalf 106 = .ok (.bipush 9, 2) := by decide +kernel
theorem d_F_fromHalf_108 : decode b_F_fromHalf 108 = .ok (.isub, 1) := by decide +kernel
theorem d_F_fromHalf_109 : decode b_F_fromHalf 109 = .ok (.lshl, 1) := by decide +kernel
theorem d_F_fromHalf_110 : decode b_F_fromHalf 110 = .ok (.goto 11, 3) := by decide +kernel
theorem d_F_fromHalf_113 : decode b_F_fromHalf 113 = .ok (.lload 8, 2) := by decide +kernel
theorem d_F_fromHalf_115 : decode b_F_fromHalf 115 = .ok (.bipush 9, 2) := by decide +kernel
theorem d_F_fromHalf_117 : decode b_F_fromHalf 117 = .ok (.iload 7, 2) := by decide +kernel
theorem d_F_fromHalf_119 : decode b_F_fromHalf 119 = .ok (.isub, 1) := by decide +kernel
theorem d_F_fromHalf_120 : decode b_F_fromHalf 120 = .ok (.lshr, 1) := by decide +kernel
theorem d_F_fromHalf_121 : decode b_F_fromHalf 121 = .ok (.invokestatic 19, 3) := by decide +kernel
theorem d_F_fromHalf_124 : decode b_F_fromHalf 124 = .ok (.ireturn, 1) := by decide +kernel
theorem d_F_toHalf_0 : decode b_F_toHalf 0 = .ok (.iload_n 1, 1) := by decide +kernel
theorem d_F_toHalf_1 : decode b_F_toHalf 1 = .ok (.ifCond .ge 8, 3) := by decide +kernel
theorem d_F_toHalf_4 : decode b_F_toHalf 4 = .ok (.ldc 75, 2) := by decide +kernel
theorem d_F_toHalf_6 : decode b_F_toHalf 6 = .ok (.goto 4, 3) := by decide +kernel
theorem d_F_toHalf_9 : decode b_F_toHalf 9 = .ok (.iconst 0, 1) := by decide +kernel
theorem d_F_toHalf_10 : decode b_F_toHalf 10 = .ok (.istore_n 2, 1) := by decide +kernel
theorem d_F_toHalf_11 : decode b_F_toHalf 11 = .ok (.iload_n 1, 1) := by decide +kernel
theorem d_F_toHalf_12 : decode b_F_toHalf 12 = .ok (.i2l, 1) := by decide +kernel
theorem d_F_toHalf_13 : decode b_F_toHalf 13 = .ok (.invokestatic 35, 3) := by decide +kernel
theorem d_F_toHalf_16 : decode b_F_toHalf 16 = .ok (.lstore_n 3, 1) := by decide +kernel
theorem d_F_toHalf_17 : decode b_F_toHalf 17 = .ok (.lload_n 3, 1) := by decide +kernel
theorem d_F_toHalf_18 : decode b_F_toHalf 18 = .ok (.ldc2_w 88, 3) := by decide +kernel
theorem d_F_toHalf_21 : decode b_F_toHalf 21 = .ok (.lcmp, 1) := by decide +kernel
theorem d_F_toHalf_22 : decode b_F_toHalf 22 = .ok (.ifCond .ge 11, 3) := by decide +kernel
theorem d_F_toHalf_25 : decode b_F_toHalf 25 = .ok (.iload_n 2, 1) := by decide +kernel
theorem d_F_toHalf_26 : decode b_F_toHalf 26 = .ok (.lload_n 3, 1) := by decide +kernel
theorem d_F_toHalf_27 : decode b_F_toHalf 27 = .ok (.bipush 8, 2) := by decide +kernel
theorem d_F_toHalf_29 : decode b_F_toHalf 29 = .ok (.lshl, 1) := by decide +kernel
theorem d_F_toHalf_30 : decode b_F_toHalf 30 = .ok (.l2i, 1) := by decide +kernel
theorem d_F_toHalf_31 : decode b_F_toHalf 31 = .ok (.ior, 1) := by decide +kernel
theorem d_F_toHalf_32 : decode b_F_toHalf 32 = .ok (.ireturn, 1) := by decide +kernel
theorem d_F_toHalf_33 : decode b_F_toHalf 33 = .ok (.lload_n 3, 1) := by decide +kernel
theorem d_F_toHalf_34 : decode b_F_toHalf 34 = .ok (.invokestatic 90, 3) := by decide +kernel
theorem d_F_toHalf_37 : decode b_F_toHalf 37 = .ok (.istore 5, 2) := by decide +kernel
theorem d_F_toHalf_39 : decode b_F_toHalf 39 = .ok (.iload 5, 2) := by decide +kernel
theorem d_F_toHalf_41 : decode b_F_toHalf 41 = .ok (.iconst 1, 1) := by decide +kernel
theorem d_F_toHalf_42 : decode b_F_toHalf 42 = .ok (.isub, 1) := by decide +kernel
theorem d_F_toHalf_43 : decode b_F_toHalf 43 = .ok (.istore 6, 2) := by decide +kernel
theorem d_F_toHalf_45 : decode b_F_toHalf 45 = .ok (.iload 5, 2) := by decide +kernel
theorem d_F_toHalf_47 : decode b_F_toHalf 47 = .ok (.bipush 10, 2) := by decide +kernel
theorem d_F_toHalf_49 : decode b_F_toHalf 49 = .ok (.if_icmp .gt 14, 3) := by decide +kernel
theorem d_F_toHalf_52 : decode b_F_toHalf 52 = .ok (.lload_n 3, 1) := by decide +kernel
theorem d_F_toHalf_53 : decode b_F_toHalf 53 = .ok (.bipush 10, 2) := by decide +kernel
theorem d_F_toHalf_55 : decode b_F_toHalf 55 = .ok (.iload 5, 2) := by decide +kernel
theorem d_F_toHalf_57 : decode b_F_toHalf 57 = .ok (.isub, 1) := by decide +kernel
theorem d_F_toHalf_58 : decode b_F_toHalf 58 = .ok (.lshl, 1) := by decide +kernel
theorem d_F_toHalf_59 : decode b_F_toHalf 59 = .ok (.l2i, 1) := by decide +kernel
theorem d_F_toHalf_60 : decode b_F_toHalf 60 = .ok (.goto 12, 3) := by decide +kernel
theorem d_F_toHalf_63 : decode b_F_toHalf 63 = .ok (.lload_n 3, 1) := by decide +kernel
theorem d_F_toHalf_64 : decode b_F_toHalf 64 = .ok (.iload 5, 2) := by decide +kernel
theorem d_F_toHalf_66 : decode b_F_toHalf 66 = .ok (.bipush 10, 2) := by decide +kernel
theorem d_F_toHalf_68 : decode b_F_toHalf 68 = .ok (.isub, 1) := by decide +kernel
theorem d_F_toHalf_69 : decode b_F_toHalf 69 = .ok (.invokestatic 93, 3) := by decide +kernel
theorem d_F_toHalf_72 : decode b_F_toHalf 72 = .ok (.istore 7, 2) := by decide +kernel
theorem d_F_toHalf_74 : decode b_F_toHalf 74 = .ok (.iload_n 2, 1) := by decide +kernel
theorem d_F_toHalf_75 : decode b_F_toHalf 75 = .ok (.iload 6, 2) := by decide +kernel
theorem d_F_toHalf_77 : decode b_F_toHalf 77 = .ok (.bipush 10, 2) := by decide +kernel
theorem d_F_toHalf_79 : decode b_F_toHalf 79 = .ok (.ishl, 1) := by decide +kernel
theorem d_F_toHalf_80 : decode b_F_toHalf 80 = .ok (.iload 7, 2) := by decide +kernel
theorem d_F_toHalf_82 : decode b_F_toHalf 82 = .ok (.sipush 1024, 3) := by decide +kernel
theorem d_F_toHalf_85 : decode b_F_toHalf 85 = .ok (.isub, 1) := by decide +kernel
theorem d_F_toHalf_86 : decode b_F_toHalf 86 = .ok (.iadd, 1) := by decide +kernel
theorem d_F_toHalf_87 : decode b_F_toHalf 87 = .ok (.ior, 1) := by decide +kernel
theorem d_F_toHalf_88 : decode b_F_toHalf 88 = .ok (.ireturn, 1) := by decide +kernel
theorem d_F_magnitude_0 : decode b_F_magnitude 0 = .ok (.lload_n 0, 1) := by decide +kernel
theorem d_F_magnitude_1 : decode b_F_magnitude 1 = .ok (.lconst 0, 1) := by decide +kernel
theorem d_F_magnitude_2 : decode b_F_magnitude 2 = .ok (.lcmp, 1) := by decide +kernel
theorem d_F_magnitude_3 : decode b_F_magnitude 3 = .ok (.ifCond .ge 8, 3) := by decide +kernel
theorem d_F_magnitude_6 : decode b_F_magnitude 6 = .ok (.lload_n 0, 1) := by decide +kernel
theorem d_F_magnitude_7 : decode b_F_magnitude 7 = .ok (.lneg, 1) := by decide +kernel
theorem d_F_magnitude_8 : decode b_F_magnitude 8 = .ok (.goto 4, 3) := by decide +kernel
theorem d_F_magnitude_11 : decode b_F_magnitude 11 = .ok (.lload_n 0, 1) := by decide +kernel
theorem d_F_magnitude_12 : decode b_F_magnitude 12 = .ok (.lreturn, 1) := by decide +kernel
theorem d_F_highestBit_0 : decode b_F_highestBit 0 = .ok (.bipush 31, 2) := by decide +kernel
theorem d_F_highestBit_2 : decode b_F_highestBit 2 = .ok (.istore_n 2, 1) := by decide +kernel
theorem d_F_highestBit_3 : decode b_F_highestBit 3 = .ok (.iload_n 2, 1) := by decide +kernel
theorem d_F_highestBit_4 : decode b_F_highestBit 4 = .ok (.ifCond .le 17, 3) := by decide +kernel
theorem d_F_highestBit_7 : decode b_F_highestBit 7 = .ok (.lload_n 0, 1) := by decide +kernel
theorem d_F_highestBit_8 : decode b_F_highestBit 8 = .ok (.iload_n 2, 1) := by decide +kernel
theorem d_F_highestBit_9 : decode b_F_highestBit 9 = .ok (.lshr, 1) := by decide +kernel
theorem d_F_highestBit_10 : decode b_F_highestBit 10 = .ok (.lconst 0, 1) := by decide +kernel
theorem d_F_highestBit_11 : decode b_F_highestBit 11 = .ok (.lcmp, 1) := by decide +kernel
theorem d_F_highestBit_12 : decode b_F_highestBit 12 = .ok (.ifCond .ne 9, 3) := by decide +kernel
theorem d_F_highestBit_15 : decode b_F_highestBit 15 = .ok (.iinc 2 (-1), 3) := by decide +kernel
theorem d_F_highestBit_18 : decode b_F_highestBit 18 = .ok (.goto (-15), 3) := by decide +kernel
theorem d_F_highestBit_21 : decode b_F_highestBit 21 = .ok (.iload_n 2, 1) := by decide +kernel
theorem d_F_highestBit_22 : decode b_F_highestBit 22 = .ok (.ireturn, 1) := by decide +kernel
theorem d_F_nearestEven_0 : decode b_F_nearestEven 0 = .ok (.lload_n 0, 1) := by decide +kernel
theorem d_F_nearestEven_1 : decode b_F_nearestEven 1 = .ok (.iload_n 2, 1) := by decide +kernel
theorem d_F_nearestEven_2 : decode b_F_nearestEven 2 = .ok (.lshr, 1) := by decide +kernel
theorem d_F_nearestEven_3 : decode b_F_nearestEven 3 = .ok (.lstore_n 3, 1) := by decide +kernel
theorem d_F_nearestEven_4 : decode b_F_nearestEven 4 = .ok (.lload_n 0, 1) := by decide +kernel
theorem d_F_nearestEven_5 : decode b_F_nearestEven 5 = .ok (.lload_n 3, 1) := by decide +kernel
theorem d_F_nearestEven_6 : decode b_F_nearestEven 6 = .ok (.iload_n 2, 1) := by decide +kernel
theorem d_F_nearestEven_7 : decode b_F_nearestEven 7 = .ok (.lshl, 1) := by decide +kernel
theorem d_F_nearestEven_8 : decode b_F_nearestEven 8 = .ok (.lsub, 1) := by decide +kernel
theorem d_F_nearestEven_9 : decode b_F_nearestEven 9 = .ok (.iconst 1, 1) := by decide +kernel
theorem d_F_nearestEven_10 : decode b_F_nearestEven 10 = .ok (.lshl, 1) := by decide +kernel
theorem d_F_nearestEven_11 : decode b_F_nearestEven 11 = .ok (.lstore 5, 2) := by decide +kernel
theorem d_F_nearestEven_13 : decode b_F_nearestEven 13 = .ok (.lconst 1, 1) := by decide +kernel
theorem d_F_nearestEven_14 : decode b_F_nearestEven 14 = .ok (.iload_n 2, 1) := by decide +kernel
theorem d_F_nearestEven_15 : decode b_F_nearestEven 15 = .ok (.lshl, 1) := by decide +kernel
theorem d_F_nearestEven_16 : decode b_F_nearestEven 16 = .ok (.lstore 7, 2) := by decide +kernel
theorem d_F_nearestEven_18 : decode b_F_nearestEven 18 = .ok (.lload 5, 2) := by decide +kernel
theorem d_F_nearestEven_20 : decode b_F_nearestEven 20 = .ok (.lload 7, 2) := by decide +kernel
theorem d_F_nearestEven_22 : decode b_F_nearestEven 22 = .ok (.lcmp, 1) := by decide +kernel
theorem d_F_nearestEven_23 : decode b_F_nearestEven 23 = .ok (.ifCond .gt 19, 3) := by decide +kernel
theorem d_F_nearestEven_26 : decode b_F_nearestEven 26 = .ok (.lload 5, 2) := by decide +kernel
theorem d_F_nearestEven_28 : decode b_F_nearestEven 28 = .ok (.lload 7, 2) := by decide +kernel
theorem d_F_nearestEven_30 : decode b_F_nearestEven 30 = .ok (.lcmp, 1) := by decide +kernel
theorem d_F_nearestEven_31 : decode b_F_nearestEven 31 = .ok (.ifCond .ne 15, 3) := by decide +kernel
theorem d_F_nearestEven_34 : decode b_F_nearestEven 34 = .ok (.lload_n 3, 1) := by decide +kernel
theorem d_F_nearestEven_35 : decode b_F_nearestEven 35 = .ok (.lconst 1, 1) := by decide +kernel
theorem d_F_nearestEven_36 : decode b_F_nearestEven 36 = .ok (.land, 1) := by decide +kernel
theorem d_F_nearestEven_37 : decode b_F_nearestEven 37 = .ok (.lconst 1, 1) := by decide +kernel
theorem d_F_nearestEven_38 : decode b_F_nearestEven 38 = .ok (.lcmp, 1) := by decide +kernel
theorem d_F_nearestEven_39 : decode b_F_nearestEven 39 = .ok (.ifCond .ne 7, 3) := by decide +kernel
theorem d_F_nearestEven_42 : decode b_F_nearestEven 42 = .ok (.iconst 1, 1) := by decide +kernel
theorem d_F_nearestEven_43 : decode b_F_nearestEven 43 = .ok (.goto 4, 3) := by decide +kernel
theorem d_F_nearestEven_46 : decode b_F_nearestEven 46 = .ok (.iconst 0, 1) := by decide +kernel
theorem d_F_nearestEven_47 : decode b_F_nearestEven 47 = .ok (.istore 9, 2) := by decide +kernel
theorem d_F_nearestEven_49 : decode b_F_nearestEven 49 = .ok (.iload 9, 2) := by decide +kernel
theorem d_F_nearestEven_51 : decode b_F_nearestEven 51 = .ok (.ifCond .eq 9, 3) := by decide +kernel
theorem d_F_nearestEven_54 : decode b_F_nearestEven 54 = .ok (.lload_n 3, 1) := by decide +kernel
theorem d_F_nearestEven_55 : decode b_F_nearestEven 55 = .ok (.lconst 1, 1) := by decide +kernel
theorem d_F_nearestEven_56 : decode b_F_nearestEven 56 = .ok (.ladd, 1) := by decide +kernel
theorem d_F_nearestEven_57 : decode b_F_nearestEven 57 = .ok (.goto 4, 3) := by decide +kernel
theorem d_F_nearestEven_60 : decode b_F_nearestEven 60 = .ok (.lload_n 3, 1) := by decide +kernel
theorem d_F_nearestEven_61 : decode b_F_nearestEven 61 = .ok (.l2i, 1) := by decide +kernel
theorem d_F_nearestEven_62 : decode b_F_nearestEven 62 = .ok (.ireturn, 1) := by decide +kernel
theorem d_F_ratio_0 : decode b_F_ratio 0 = .ok (.lload 5, 2) := by decide +kernel
theorem d_F_ratio_2 : decode b_F_ratio 2 = .ok (.lconst 0, 1) := by decide +kernel
theorem d_F_ratio_3 : decode b_F_ratio 3 = .ok (.lcmp, 1) := by decide +kernel
theorem d_F_ratio_4 : decode b_F_ratio 4 = .ok (.ifCond .ne 13, 3) := by decide +kernel
theorem d_F_ratio_7 : decode b_F_ratio 7 = .ok (.new 28, 3) := by decide +kernel
theorem d_F_ratio_10 : decode b_F_ratio 10 = .ok (.dup, 1) := by decide +kernel
theorem d_F_ratio_11 : decode b_F_ratio 11 = .ok (.ldc 30, 2) := by decide +kernel
theorem d_F_ratio_13 : decode b_F_ratio 13 = .ok (.invokespecial 32, 3) := by decide +kernel
theorem d_F_ratio_16 : decode b_F_ratio 16 = .ok (.athrow, 1) := by decide +kernel
theorem d_F_ratio_17 : decode b_F_ratio 17 = .ok (.lload_n 1, 1) := by decide +kernel
theorem d_F_ratio_18 : decode b_F_ratio 18 = .ok (.invokestatic 35, 3) := by decide +kernel
theorem d_F_ratio_21 : decode b_F_ratio 21 = .ok (.lstore 7, 2) := by decide +kernel
theorem d_F_ratio_23 : decode b_F_ratio 23 = .ok (.lload_n 3, 1) := by decide +kernel
theorem d_F_ratio_24 : decode b_F_ratio 24 = .ok (.invokestatic 35, 3) := by decide +kernel
theorem d_F_ratio_27 : decode b_F_ratio 27 = .ok (.lstore 9, 2) := by decide +kernel
theorem d_F_ratio_29 : decode b_F_ratio 29 = .ok (.lload 5, 2) := by decide +kernel
theorem d_F_ratio_31 : decode b_F_ratio 31 = .ok (.invokestatic 35, 3) := by decide +kernel
theorem d_F_ratio_34 : decode b_F_ratio 34 = .ok (.lstore 11, 2) := by decide +kernel
theorem d_F_ratio_36 : decode b_F_ratio 36 = .ok (.lload 7, 2) := by decide +kernel
theorem d_F_ratio_38 : decode b_F_ratio 38 = .ok (.lload 9, 2) := by decide +kernel
theorem d_F_ratio_40 : decode b_F_ratio 40 = .ok (.invokestatic 39, 3) := by decide +kernel
theorem d_F_ratio_43 : decode b_F_ratio 43 = .ok (.lstore 13, 2) := by decide +kernel
theorem d_F_ratio_45 : decode b_F_ratio 45 = .ok (.lload 7, 2) := by decide +kernel
theorem d_F_ratio_47 : decode b_F_ratio 47 = .ok (.lload 9, 2) := by decide +kernel
theorem d_F_ratio_49 : decode b_F_ratio 49 = .ok (.lmul, 1) := by decide +kernel
theorem d_F_ratio_50 : decode b_F_ratio 50 = .ok (.lstore 15, 2) := by decide +kernel
theorem d_F_ratio_52 : decode b_F_ratio 52 = .ok (.lload 13, 2) := by decide +kernel
theorem d_F_ratio_54 : decode b_F_ratio 54 = .ok (.lload 11, 2) := by decide +kernel
theorem d_F_ratio_56 : decode b_F_ratio 56 = .ok (.invokestatic 42, 3) := by decide +kernel
theorem d_F_ratio_59 : decode b_F_ratio 59 = .ok (.ifCond .ne 13, 3) := by decide +kernel
theorem d_F_ratio_62 : decode b_F_ratio 62 = .ok (.new 28, 3) := by decide +kernel
theorem d_F_ratio_65 : decode b_F_ratio 65 = .ok (.dup, 1) := by decide +kernel
theorem d_F_ratio_66 : decode b_F_ratio 66 = .ok (.ldc 46, 2) := by decide +kernel
theorem d_F_ratio_68 : decode b_F_ratio 68 = .ok (.invokespecial 32, 3) := by decide +kernel
theorem d_F_ratio_71 : decode b_F_ratio 71 = .ok (.athrow, 1) := by decide +kernel
theorem d_F_ratio_72 : decode b_F_ratio 72 = .ok (.lload 13, 2) := by decide +kernel
theorem d_F_ratio_74 : decode b_F_ratio 74 = .ok (.lload 15, 2) := by decide +kernel
theorem d_F_ratio_76 : decode b_F_ratio 76 = .ok (.lload 11, 2) := by decide +kernel
theorem d_F_ratio_78 : decode b_F_ratio 78 = .ok (.invokestatic 48, 3) := by decide +kernel
theorem d_F_ratio_81 : decode b_F_ratio 81 = .ok (.lstore 17, 2) := by decide +kernel
theorem d_F_ratio_83 : decode b_F_ratio 83 = .ok (.lload 17, 2) := by decide +kernel
theorem d_F_ratio_85 : decode b_F_ratio 85 = .ok (.lload 11, 2) := by decide +kernel
theorem d_F_ratio_87 : decode b_F_ratio 87 = .ok (.lmul, 1) := by decide +kernel
theorem d_F_ratio_88 : decode b_F_ratio 88 = .ok (.lload 15, 2) := by decide +kernel
theorem d_F_ratio_90 : decode b_F_ratio 90 = .ok (.lcmp, 1) := by decide +kernel
theorem d_F_ratio_91 : decode b_F_ratio 91 = .ok (.ifCond .eq 7, 3) := by decide +kernel
theorem d_F_ratio_94 : decode b_F_ratio 94 = .ok (.iconst 1, 1) := by decide +kernel
theorem d_F_ratio_95 : decode b_F_ratio 95 = .ok (.goto 4, 3) := by decide +kernel
theorem d_F_ratio_98 : decode b_F_ratio 98 = .ok (.iconst 0, 1) := by decide +kernel
theorem d_F_ratio_99 : decode b_F_ratio 99 = .ok (.istore 19, 2) := by decide +kernel
theorem d_F_ratio_101 : decode b_F_ratio 101 = .ok (.lload_n 1, 1) := by decide +kernel
theorem d_F_ratio_102 : decode b_F_ratio 102 = .ok (.lload_n 3, 1) := by decide +kernel
theorem d_F_ratio_103 : decode b_F_ratio 103 = .ok (.lxor, 1) := by decide +kernel
theorem d_F_ratio_104 : decode b_F_ratio 104 = .ok (.lload 5, 2) := by decide +kernel
theorem d_F_ratio_106 : decode b_F_ratio 106 = .ok (.lxor, 1) := by decide +kernel
theorem d_F_ratio_107 : decode b_F_ratio 107 = .ok (.lconst 0, 1) := by decide +kernel
theorem d_F_ratio_108 : decode b_F_ratio 108 = .ok (.lcmp, 1) := by decide +kernel
theorem d_F_ratio_109 : decode b_F_ratio 109 = .ok (.ifCond .ge 7, 3) := by decide +kernel
theorem d_F_ratio_112 : decode b_F_ratio 112 = .ok (.iconst 1, 1) := by decide +kernel
theorem d_F_ratio_113 : decode b_F_ratio 113 = .ok (.goto 4, 3) := by decide +kernel
theorem d_F_ratio_116 : decode b_F_ratio 116 = .ok (.iconst 0, 1) := by decide +kernel
theorem d_F_ratio_117 : decode b_F_ratio 117 = .ok (.istore 20, 2) := by decide +kernel
theorem d_F_ratio_119 : decode b_F_ratio 119 = .ok (.lload 17, 2) := by decide +kernel
theorem d_F_ratio_121 : decode b_F_ratio 121 = .ok (.iload 19, 2) := by decide +kernel
theorem d_F_ratio_123 : decode b_F_ratio 123 = .ok (.iload 20, 2) := by decide +kernel
theorem d_F_ratio_125 : decode b_F_ratio 125 = .ok (.invokestatic 52, 3) := by decide +kernel
theorem d_F_ratio_128 : decode b_F_ratio 128 = .ok (.ifCond .ne 13, 3) := by decide +kernel
theorem d_F_ratio_131 : decode b_F_ratio 131 = .ok (.new 28, 3) := by decide +kernel
theorem d_F_ratio_134 : decode b_F_ratio 134 = .ok (.dup, 1) := by decide +kernel
theorem d_F_ratio_135 : decode b_F_ratio 135 = .ok (.ldc 46, 2) := by decide +kernel
theorem d_F_ratio_137 : decode b_F_ratio 137 = .ok (.invokespecial 32, 3) := by decide +kernel
theorem d_F_ratio_140 : decode b_F_ratio 140 = .ok (.athrow, 1) := by decide +kernel
theorem d_F_ratio_141 : decode b_F_ratio 141 = .ok (.lload 17, 2) := by decide +kernel
theorem d_F_ratio_143 : decode b_F_ratio 143 = .ok (.iload 19, 2) := by decide +kernel
theorem d_F_ratio_145 : decode b_F_ratio 145 = .ok (.iload 20, 2) := by decide +kernel
theorem d_F_ratio_147 : decode b_F_ratio 147 = .ok (.invokestatic 56, 3) := by decide +kernel
theorem d_F_ratio_150 : decode b_F_ratio 150 = .ok (.lreturn, 1) := by decide +kernel
theorem d_F_highProduct_0 : decode b_F_highProduct 0 = .ok (.lload_n 0, 1) := by decide +kernel
theorem d_F_highProduct_1 : decode b_F_highProduct 1 = .ok (.ldc2_w 107, 3) := by decide +kernel
theorem d_F_highProduct_4 : decode b_F_highProduct 4 = .ok (.land, 1) := by decide +kernel
theorem d_F_highProduct_5 : decode b_F_highProduct 5 = .ok (.lstore 4, 2) := by decide +kernel
theorem d_F_highProduct_7 : decode b_F_highProduct 7 = .ok (.lload_n 0, 1) := by decide +kernel
theorem d_F_highProduct_8 : decode b_F_highProduct 8 = .ok (.bipush 32, 2) := by decide +kernel
theorem d_F_highProduct_10 : decode b_F_highProduct 10 = .ok (.lushr, 1) := by decide +kernel
theorem d_F_highProduct_11 : decode b_F_highProduct 11 = .ok (.lstore 6, 2) := by decide +kernel
theorem d_F_highProduct_13 : decode b_F_highProduct 13 = .ok (.lload_n 2, 1) := by decide +kernel
theorem d_F_highProduct_14 : decode b_F_highProduct 14 = .ok (.ldc2_w 107, 3) := by decide +kernel
theorem d_F_highProduct_17 : decode b_F_highProduct 17 = .ok (.land, 1) := by decide +kernel
theorem d_F_highProduct_18 : decode b_F_highProduct 18 = .ok (.lstore 8, 2) := by decide +kernel
theorem d_F_highProduct_20 : decode b_F_highProduct 20 = .ok (.lload_n 2, 1) := by decide +kernel
theorem d_F_highProduct_21 : decode b_F_highProduct 21 = .ok (.bipush 32, 2) := by decide +kernel
theorem d_F_highProduct_23 : decode b_F_highProduct 23 = .ok (.lushr, 1) := by decide +kernel
theorem d_F_highProduct_24 : decode b_F_highProduct 24 = .ok (.lstore 10, 2) := by decide +kernel
theorem d_F_highProduct_26 : decode b_F_highProduct 26 = .ok (.lload 6, 2) := by decide +kernel
theorem d_F_highProduct_28 : decode b_F_highProduct 28 = .ok (.lload 8, 2) := by decide +kernel
theorem d_F_highProduct_30 : decode b_F_highProduct 30 = .ok (.lmul, 1) := by decide +kernel
theorem d_F_highProduct_31 : decode b_F_highProduct 31 = .ok (.lload 4, 2) := by decide +kernel
theorem d_F_highProduct_33 : decode b_F_highProduct 33 = .ok (.lload 8, 2) := by decide +kernel
theorem d_F_highProduct_35 : decode b_F_highProduct 35 = .ok (.lmul, 1) := by decide +kernel
theorem d_F_highProduct_36 : decode b_F_highProduct 36 = .ok (.bipush 32, 2) := by decide +kernel
theorem d_F_highProduct_38 : decode b_F_highProduct 38 = .ok (.lushr, 1) := by decide +kernel
theorem d_F_highProduct_39 : decode b_F_highProduct 39 = .ok (.ladd, 1) := by decide +kernel
theorem d_F_highProduct_40 : decode b_F_highProduct 40 = .ok (.lstore 12, 2) := by decide +kernel
theorem d_F_highProduct_42 : decode b_F_highProduct 42 = .ok (.lload 4, 2) := by decide +kernel
theorem d_F_highProduct_44 : decode b_F_highProduct 44 = .ok (.lload 10, 2) := by decide +kernel
theorem d_F_highProduct_46 : decode b_F_highProduct 46 = .ok (.lmul, 1) := by decide +kernel
theorem d_F_highProduct_47 : decode b_F_highProduct 47 = .ok (.lload 12, 2) := by decide +kernel
theorem d_F_highProduct_49 : decode b_F_highProduct 49 = .ok (.ldc2_w 107, 3) := by decide +kernel
theorem d_F_highProduct_52 : decode b_F_highProduct 52 = .ok (.land, 1) := by decide +kernel
theorem d_F_highProduct_53 : decode b_F_highProduct 53 = .ok (.ladd, 1) := by decide +kernel
theorem d_F_highProduct_54 : decode b_F_highProduct 54 = .ok (.lstore 14, 2) := by decide +kernel
theorem d_F_highProduct_56 : decode b_F_highProduct 56 = .ok (.lload 6, 2) := by decide +kernel
theorem d_F_highProduct_58 : decode b_F_highProduct 58 = .ok (.lload 10, 2) := by decide +kernel
theorem d_F_highProduct_60 : decode b_F_highProduct 60 = .ok (.lmul, 1) := by decide +kernel
theorem d_F_highProduct_61 : decode b_F_highProduct 61 = .ok (.lload 12, 2) := by decide +kernel
theorem d_F_highProduct_63 : decode b_F_highProduct 63 = .ok (.bipush 32, 2) := by decide +kernel
theorem d_F_highProduct_65 : decode b_F_highProduct 65 = .ok (.lushr, 1) := by decide +kernel
theorem d_F_highProduct_66 : decode b_F_highProduct 66 = .ok (.ladd, 1) := by decide +kernel
theorem d_F_highProduct_67 : decode b_F_highProduct 67 = .ok (.lload 14, 2) := by decide +kernel
theorem d_F_highProduct_69 : decode b_F_highProduct 69 = .ok (.bipush 32, 2) := by decide +kernel
theorem d_F_highProduct_71 : decode b_F_highProduct 71 = .ok (.lushr, 1) := by decide +kernel
theorem d_F_highProduct_72 : decode b_F_highProduct 72 = .ok (.ladd, 1) := by decide +kernel
theorem d_F_highProduct_73 : decode b_F_highProduct 73 = .ok (.lreturn, 1) := by decide +kernel
theorem d_F_isBelow_0 : decode b_F_isBelow 0 = .ok (.lload_n 0, 1) := by decide +kernel
theorem d_F_isBelow_1 : decode b_F_isBelow 1 = .ok (.ldc2_w 105, 3) := by decide +kernel
theorem d_F_isBelow_4 : decode b_F_isBelow 4 = .ok (.lxor, 1) := by decide +kernel
theorem d_F_isBelow_5 : decode b_F_isBelow 5 = .ok (.lload_n 2, 1) := by decide +kernel
theorem d_F_isBelow_6 : decode b_F_isBelow 6 = .ok (.ldc2_w 105, 3) := by decide +kernel
theorem d_F_isBelow_9 : decode b_F_isBelow 9 = .ok (.lxor, 1) := by decide +kernel
theorem d_F_isBelow_10 : decode b_F_isBelow 10 = .ok (.lcmp, 1) := by decide +kernel
theorem d_F_isBelow_11 : decode b_F_isBelow 11 = .ok (.ifCond .ge 7, 3) := by decide +kernel
theorem d_F_isBelow_14 : decode b_F_isBelow 14 = .ok (.iconst 1, 1) := by decide +kernel
theorem d_F_isBelow_15 : decode b_F_isBelow 15 = .ok (.goto 4, 3) := by decide +kernel
theorem d_F_isBelow_18 : decode b_F_isBelow 18 = .ok (.iconst 0, 1) := by decide +kernel
theorem d_F_isBelow_19 : decode b_F_isBelow 19 = .ok (.ireturn, 1) := by decide +kernel
theorem d_F_wholeQuotient_0 : decode b_F_wholeQuotient 0 = .ok (.lload_n 0, 1) := by decide +kernel
theorem d_F_wholeQuotient_1 : decode b_F_wholeQuotient 1 = .ok (.lstore 6, 2) := by decide +kernel
theorem d_F_wholeQuotient_3 : decode b_F_wholeQuotient 3 = .ok (.lconst 0, 1) := by decide +kernel
theorem d_F_wholeQuotient_4 : decode b_F_wholeQuotient 4 = .ok (.lstore 8, 2) := by decide +kernel
theorem d_F_wholeQuotient_6 : decode b_F_wholeQuotient 6 = .ok (.bipush 63, 2) := by decide +kernel
theorem d_F_wholeQuotient_8 : decode b_F_wholeQuotient 8 = .ok (.istore 10, 2) := by decide +kernel
theorem d_F_wholeQuotient_10 : decode b_F_wholeQuotient 10 = .ok (.iload 10, 2) := by decide +kernel
theorem d_F_wholeQuotient_12 : decode b_F_wholeQuotient 12 = .ok (.ifCond .lt 51, 3) := by decide +kernel
theorem d_F_wholeQuotient_15 : decode b_F_wholeQuotient 15 = .ok (.lload 6, 2) := by decide +kernel
theorem d_F_wholeQuotient_17 : decode b_F_wholeQuotient 17 = .ok (.iconst 1, 1) := by decide +kernel
theorem d_F_wholeQuotient_18 : decode b_F_wholeQuotient 18 = .ok (.lshl, 1) := by decide +kernel
theorem d_F_wholeQuotient_19 : decode b_F_wholeQuotient 19 = .ok (.lload_n 2, 1) := by decide +kernel
theorem d_F_wholeQuotient_20 : decode b_F_wholeQuotient 20 = .ok (.iload 10, 2) := by decide +kernel
theorem d_F_wholeQuotient_22 : decode b_F_wholeQuotient 22 = .ok (.lushr, 1) := by decide +kernel
theorem d_F_wholeQuotient_23 : decode b_F_wholeQuotient 23 = .ok (.lconst 1, 1) := by decide +kernel
theorem d_F_wholeQuotient_24 : decode b_F_wholeQuotient 24 = .ok (.land, 1) := by decide +kernel
theorem d_F_wholeQuotient_25 : decode b_F_wholeQuotient 25 = .ok (.lor, 1) := by decide +kernel
theorem d_F_wholeQuotient_26 : decode b_F_wholeQuotient 26 = .ok (.lstore 6, 2) := by decide +kernel
theorem d_F_wholeQuotient_28 : decode b_F_wholeQuotient 28 = .ok (.lload 8, 2) := by decide +kernel
theorem d_F_wholeQuotient_30 : decode b_F_wholeQuotient 30 = .ok (.iconst 1, 1) := by decide +kernel
theorem d_F_wholeQuotient_31 : decode b_F_wholeQuotient 31 = .ok (.lshl, 1) := by decide +kernel
theorem d_F_wholeQuotient_32 : decode b_F_wholeQuotient 32 = .ok (.lstore 8, 2) := by decide +kernel
theorem d_F_wholeQuotient_34 : decode b_F_wholeQuotient 34 = .ok (.lload 6, 2) := by decide +kernel
theorem d_F_wholeQuotient_36 : decode b_F_wholeQuotient 36 = .ok (.lload 4, 2) := by decide +kernel
theorem d_F_wholeQuotient_38 : decode b_F_wholeQuotient 38 = .ok (.invokestatic 42, 3) := by decide +kernel
theorem d_F_wholeQuotient_41 : decode b_F_wholeQuotient 41 = .ok (.ifCond .ne 16, 3) := by decide +kernel
theorem d_F_wholeQuotient_44 : decode b_F_wholeQuotient 44 = .ok (.lload 6, 2) := by decide +kernel
theorem d_F_wholeQuotient_46 : decode b_F_wholeQuotient 46 = .ok (.lload 4, 2) := by decide +kernel
theorem d_F_wholeQuotient_48 : decode b_F_wholeQuotient 48 = .ok (.lsub, 1) := by decide +kernel
theorem d_F_wholeQuotient_49 : decode b_F_wholeQuotient 49 = .ok (.lstore 6, 2) := by decide +kernel
theorem d_F_wholeQuotient_51 : decode b_F_wholeQuotient 51 = .ok (.lload 8, 2) := by decide +kernel
theorem d_F_wholeQuotient_53 : decode b_F_wholeQuotient 53 = .ok (.lconst 1, 1) := by decide +kernel
theorem d_F_wholeQuotient_54 : decode b_F_wholeQuotient 54 = .ok (.lor, 1) := by decide +kernel
theorem d_F_wholeQuotient_55 : decode b_F_wholeQuotient 55 = .ok (.lstore 8, 2) := by decide +kernel
theorem d_F_wholeQuotient_57 : decode b_F_wholeQuotient 57 = .ok (.iinc 10 (-1), 3) := by decide +kernel
theorem d_F_wholeQuotient_60 : decode b_F_wholeQuotient 60 = .ok (.goto (-50), 3) := by decide +kernel
theorem d_F_wholeQuotient_63 : decode b_F_wholeQuotient 63 = .ok (.lload 8, 2) := by decide +kernel
theorem d_F_wholeQuotient_65 : decode b_F_wholeQuotient 65 = .ok (.lreturn, 1) := by decide +kernel
theorem d_F_fitsLong_0 : decode b_F_fitsLong 0 = .ok (.lload_n 0, 1) := by decide +kernel
theorem d_F_fitsLong_1 : decode b_F_fitsLong 1 = .ok (.lconst 0, 1) := by decide +kernel
theorem d_F_fitsLong_2 : decode b_F_fitsLong 2 = .ok (.lcmp, 1) := by decide +kernel
theorem d_F_fitsLong_3 : decode b_F_fitsLong 3 = .ok (.ifCond .ge 19, 3) := by decide +kernel
theorem d_F_fitsLong_6 : decode b_F_fitsLong 6 = .ok (.lload_n 0, 1) := by decide +kernel
theorem d_F_fitsLong_7 : decode b_F_fitsLong 7 = .ok (.ldc2_w 105, 3) := by decide +kernel
theorem d_F_fitsLong_10 : decode b_F_fitsLong 10 = .ok (.lcmp, 1) := by decide +kernel
theorem d_F_fitsLong_11 : decode b_F_fitsLong 11 = .ok (.ifCond .ne 15, 3) := by decide +kernel
theorem d_F_fitsLong_14 : decode b_F_fitsLong 14 = .ok (.iload_n 3, 1) := by decide +kernel
theorem d_F_fitsLong_15 : decode b_F_fitsLong 15 = .ok (.ifCond .eq 11, 3) := by decide +kernel
theorem d_F_fitsLong_18 : decode b_F_fitsLong 18 = .ok (.iload_n 2, 1) := by decide +kernel
theorem d_F_fitsLong_19 : decode b_F_fitsLong 19 = .ok (.ifCond .ne 7, 3) := by decide +kernel
theorem d_F_fitsLong_22 : decode b_F_fitsLong 22 = .ok (.iconst 1, 1) := by decide +kernel
theorem d_F_fitsLong_23 : decode b_F_fitsLong 23 = .ok (.goto 4, 3) := by decide +kernel
theorem d_F_fitsLong_26 : decode b_F_fitsLong 26 = .ok (.iconst 0, 1) := by decide +kernel
theorem d_F_fitsLong_27 : decode b_F_fitsLong 27 = .ok (.ireturn, 1) := by decide +kernel
theorem d_F_signedDown_0 : decode b_F_signedDown 0 = .ok (.iload_n 3, 1) := by decide +kernel
theorem d_F_signedDown_1 : decode b_F_signedDown 1 = .ok (.ifCond .ne 5, 3) := by decide +kernel
theorem d_F_signedDown_4 : decode b_F_signedDown 4 = .ok (.lload_n 0, 1) := by decide +kernel
theorem d_F_signedDown_5 : decode b_F_signedDown 5 = .ok (.lreturn, 1) := by decide +kernel
theorem d_F_signedDown_6 : decode b_F_signedDown 6 = .ok (.iload_n 2, 1) := by decide +kernel
theorem d_F_signedDown_7 : decode b_F_signedDown 7 = .ok (.ifCond .eq 10, 3) := by decide +kernel
theorem d_F_signedDown_10 : decode b_F_signedDown 10 = .ok (.lload_n 0, 1) := by decide +kernel
theorem d_F_signedDown_11 : decode b_F_signedDown 11 = .ok (.lneg, 1) := by decide +kernel
theorem d_F_signedDown_12 : decode b_F_signedDown 12 = .ok (.lconst 1, 1) := by decide +kernel
theorem d_F_signedDown_13 : decode b_F_signedDown 13 = .ok (.lsub, 1) := by decide +kernel
theorem d_F_signedDown_14 : decode b_F_signedDown 14 = .ok (.goto 5, 3) := by decide +kernel
theorem d_F_signedDown_17 : decode b_F_signedDown 17 = .ok (.lload_n 0, 1) := by decide +kernel
theorem d_F_signedDown_18 : decode b_F_signedDown 18 = .ok (.lneg, 1) := by decide +kernel
theorem d_F_signedDown_19 : decode b_F_signedDown 19 = .ok (.lreturn, 1) := by decide +kernel
theorem d_F_between_0 : decode b_F_between 0 = .ok (.lload 5, 2) := by decide +kernel
theorem d_F_between_2 : decode b_F_between 2 = .ok (.lconst 0, 1) := by decide +kernel
theorem d_F_between_3 : decode b_F_between 3 = .ok (.lcmp, 1) := by decide +kernel
theorem d_F_between_4 : decode b_F_between 4 = .ok (.ifCond .gt 13, 3) := by decide +kernel
theorem d_F_between_7 : decode b_F_between 7 = .ok (.new 60, 3) := by decide +kernel
theorem d_F_between_10 : decode b_F_between 10 = .ok (.dup, 1) := by decide +kernel
theorem d_F_between_11 : decode b_F_between 11 = .ok (.ldc 62, 2) := by decide +kernel
theorem d_F_between_13 : decode b_F_between 13 = .ok (.invokespecial 64, 3) := by decide +kernel
theorem d_F_between_16 : decode b_F_between 16 = .ok (.athrow, 1) := by decide +kernel
theorem d_F_between_17 : decode b_F_between 17 = .ok (.lload_n 3, 1) := by decide +kernel
theorem d_F_between_18 : decode b_F_between 18 = .ok (.lconst 0, 1) := by decide +kernel
theorem d_F_between_19 : decode b_F_between 19 = .ok (.lcmp, 1) := by decide +kernel
theorem d_F_between_20 : decode b_F_between 20 = .ok (.ifCond .lt 10, 3) := by decide +kernel
theorem d_F_between_23 : decode b_F_between 23 = .ok (.lload_n 3, 1) := by decide +kernel
theorem d_F_between_24 : decode b_F_between 24 = .ok (.lload 5, 2) := by decide +kernel
theorem d_F_between_26 : decode b_F_between 26 = .ok (.lcmp, 1) := by decide +kernel
theorem d_F_between_27 : decode b_F_between 27 = .ok (.ifCond .le 13, 3) := by decide +kernel
theorem d_F_between_30 : decode b_F_between 30 = .ok (.new 60, 3) := by decide +kernel
theorem d_F_between_33 : decode b_F_between 33 = .ok (.dup, 1) := by decide +kernel
theorem d_F_between_34 : decode b_F_between 34 = .ok (.ldc 65, 2) := by decide +kernel
theorem d_F_between_36 : decode b_F_between 36 = .ok (.invokespecial 64, 3) := by decide +kernel
theorem d_F_between_39 : decode b_F_between 39 = .ok (.athrow, 1) := by decide +kernel
theorem d_F_between_40 : decode b_F_between 40 = .ok (.iload_n 2, 1) := by decide +kernel
theorem d_F_between_41 : decode b_F_between 41 = .ok (.i2l, 1) := by decide +kernel
theorem d_F_between_42 : decode b_F_between 42 = .ok (.iload_n 1, 1) := by decide +kernel
theorem d_F_between_43 : decode b_F_between 43 = .ok (.i2l, 1) := by decide +kernel
theorem d_F_between_44 : decode b_F_between 44 = .ok (.lsub, 1) := by decide +kernel
theorem d_F_between_45 : decode b_F_between 45 = .ok (.lstore 7, 2) := by decide +kernel
theorem d_F_between_47 : decode b_F_between 47 = .ok (.lload 7, 2) := by decide +kernel
theorem d_F_between_49 : decode b_F_between 49 = .ok (.invokestatic 35, 3) := by decide +kernel
theorem d_F_between_52 : decode b_F_between 52 = .ok (.lstore 9, 2) := by decide +kernel
theorem d_F_between_54 : decode b_F_between 54 = .ok (.lload 9, 2) := by decide +kernel
theorem d_F_between_56 : decode b_F_between 56 = .ok (.lload_n 3, 1) := by decide +kernel
theorem d_F_between_57 : decode b_F_between 57 = .ok (.lmul, 1) := by decide +kernel
theorem d_F_between_58 : decode b_F_between 58 = .ok (.lstore 11, 2) := by decide +kernel
theorem d_F_between_60 : decode b_F_between 60 = .ok (.lload 9, 2) := by decide +kernel
theorem d_F_between_62 : decode b_F_between 62 = .ok (.lload_n 3, 1) := by decide +kernel
theorem d_F_between_63 : decode b_F_between 63 = .ok (.invokestatic 39, 3) := by decide +kernel
theorem d_F_between_66 : decode b_F_between 66 = .ok (.lload 11, 2) := by decide +kernel
theorem d_F_between_68 : decode b_F_between 68 = .ok (.lload 5, 2) := by decide +kernel
theorem d_F_between_70 : decode b_F_between 70 = .ok (.invokestatic 48, 3) := by decide +kernel
theorem d_F_between_73 : decode b_F_between 73 = .ok (.lstore 13, 2) := by decide +kernel
theorem d_F_between_75 : decode b_F_between 75 = .ok (.iload_n 1, 1) := by decide +kernel
theorem d_F_between_76 : decode b_F_between 76 = .ok (.i2l, 1) := by decide +kernel
theorem d_F_between_77 : decode b_F_between 77 = .ok (.lload 13, 2) := by decide +kernel
theorem d_F_between_79 : decode b_F_between 79 = .ok (.lload 13, 2) := by decide +kernel
theorem d_F_between_81 : decode b_F_between 81 = .ok (.lload 5, 2) := by decide +kernel
theorem d_F_between_83 : decode b_F_between 83 = .ok (.lmul, 1) := by decide +kernel
theorem d_F_between_84 : decode b_F_between 84 = .ok (.lload 11, 2) := by decide +kernel
theorem d_F_between_86 : decode b_F_between 86 = .ok (.lcmp, 1) := by decide +kernel
theorem d_F_between_87 : decode b_F_between 87 = .ok (.ifCond .eq 7, 3) := by decide +kernel
theorem d_F_between_90 : decode b_F_between 90 = .ok (.iconst 1, 1) := by decide +kernel
theorem d_F_between_91 : decode b_F_between 91 = .ok (.goto 4, 3) := by decide +kernel
theorem d_F_between_94 : decode b_F_between 94 = .ok (.iconst 0, 1) := by decide +kernel
theorem d_F_between_95 : decode b_F_between 95 = .ok (.lload 7, 2) := by decide +kernel
theorem d_F_between_97 : decode b_F_between 97 = .ok (.lconst 0, 1) := by decide +kernel
theorem d_F_between_98 : decode b_F_between 98 = .ok (.lcmp, 1) := by decide +kernel
theorem d_F_between_99 : decode b_F_between 99 = .ok (.ifCond .ge 7, 3) := by decide +kernel
theorem d_F_between_102 : decode b_F_between 102 = .ok (.iconst 1, 1) := by decide +kernel
theorem d_F_between_103 : decode b_F_between 103 = .ok (.goto 4, 3) := by decide +kernel
theorem d_F_between_106 : decode b_F_between 106 = .ok (.iconst 0, 1) := by decide +kernel
theorem d_F_between_107 : decode b_F_between 107 = .ok (.invokestatic 56, 3) := by decide +kernel
theorem d_F_between_110 : decode b_F_between 110 = .ok (.ladd, 1) := by decide +kernel
theorem d_F_between_111 : decode b_F_between 111 = .ok (.l2i, 1) := by decide +kernel
theorem d_F_between_112 : decode b_F_between 112 = .ok (.ireturn, 1) := by decide +kernel
theorem d_F_fixed_0 : decode b_F_fixed 0 = .ok (.iload_n 1, 1) := by decide +kernel
theorem d_F_fixed_1 : decode b_F_fixed 1 = .ok (.invokestatic 76, 3) := by decide +kernel
theorem d_F_fixed_4 : decode b_F_fixed 4 = .ok (.ifCond .ne 13, 3) := by decide +kernel
theorem d_F_fixed_7 : decode b_F_fixed 7 = .ok (.new 60, 3) := by decide +kernel
theorem d_F_fixed_10 : decode b_F_fixed 10 = .ok (.dup, 1) := by decide +kernel
theorem d_F_fixed_11 : decode b_F_fixed 11 = .ok (.ldc 80, 2) := by decide +kernel
theorem d_F_fixed_13 : decode b_F_fixed 13 = .ok (.invokespecial 64, 3) := by decide +kernel
theorem d_F_fixed_16 : decode b_F_fixed 16 = .ok (.athrow, 1) := by decide +kernel
theorem d_F_fixed_17 : decode b_F_fixed 17 = .ok (.ldc 67, 2) := by decide +kernel
theorem d_F_fixed_19 : decode b_F_fixed 19 = .ok (.iload_n 1, 1) := by decide +kernel
theorem d_F_fixed_20 : decode b_F_fixed 20 = .ok (.imul, 1) := by decide +kernel
theorem d_F_fixed_21 : decode b_F_fixed 21 = .ok (.invokestatic 82, 3) := by decide +kernel
theorem d_F_fixed_24 : decode b_F_fixed 24 = .ok (.ireturn, 1) := by decide +kernel
theorem d_F_isByte_0 : decode b_F_isByte 0 = .ok (.iload_n 0, 1) := by decide +kernel
theorem d_F_isByte_1 : decode b_F_isByte 1 = .ok (.ifCond .lt 14, 3) := by decide +kernel
theorem d_F_isByte_4 : decode b_F_isByte 4 = .ok (.iload_n 0, 1) := by decide +kernel
theorem d_F_isByte_5 : decode b_F_isByte 5 = .ok (.sipush 255, 3) := by decide +kernel
theorem d_F_isByte_8 : decode b_F_isByte 8 = .ok (.if_icmp .gt 7, 3) := by decide +kernel
theorem d_F_isByte_11 : decode b_F_isByte 11 = .ok (.iconst 1, 1) := by decide +kernel
theorem d_F_isByte_12 : decode b_F_isByte 12 = .ok (.goto 4, 3) := by decide +kernel
theorem d_F_isByte_15 : decode b_F_isByte 15 = .ok (.iconst 0, 1) := by decide +kernel
theorem d_F_isByte_16 : decode b_F_isByte 16 = .ok (.ireturn, 1) := by decide +kernel
theorem d_F_nearest255th_0 : decode b_F_nearest255th 0 = .ok (.iconst 2, 1) := by decide +kernel
theorem d_F_nearest255th_1 : decode b_F_nearest255th 1 = .ok (.iload_n 0, 1) := by decide +kernel
theorem d_F_nearest255th_2 : decode b_F_nearest255th 2 = .ok (.imul, 1) := by decide +kernel
theorem d_F_nearest255th_3 : decode b_F_nearest255th 3 = .ok (.sipush 255, 3) := by decide +kernel
theorem d_F_nearest255th_6 : decode b_F_nearest255th 6 = .ok (.iadd, 1) := by decide +kernel
theorem d_F_nearest255th_7 : decode b_F_nearest255th 7 = .ok (.sipush 510, 3) := by decide +kernel
theorem d_F_nearest255th_10 : decode b_F_nearest255th 10 = .ok (.idiv, 1) := by decide +kernel
theorem d_F_nearest255th_11 : decode b_F_nearest255th 11 = .ok (.ireturn, 1) := by decide +kernel
theorem d_F_shade_0 : decode b_F_shade 0 = .ok (.iload_n 1, 1) := by decide +kernel
theorem d_F_shade_1 : decode b_F_shade 1 = .ok (.invokestatic 76, 3) := by decide +kernel
theorem d_F_shade_4 : decode b_F_shade 4 = .ok (.ifCond .eq 10, 3) := by decide +kernel
theorem d_F_shade_7 : decode b_F_shade 7 = .ok (.iload_n 2, 1) := by decide +kernel
theorem d_F_shade_8 : decode b_F_shade 8 = .ok (.invokestatic 76, 3) := by decide +kernel
theorem d_F_shade_11 : decode b_F_shade 11 = .ok (.ifCond .ne 13, 3) := by decide +kernel
theorem d_F_shade_14 : decode b_F_shade 14 = .ok (.new 60, 3) := by decide +kernel
theorem d_F_shade_17 : decode b_F_shade 17 = .ok (.dup, 1) := by decide +kernel
theorem d_F_shade_18 : decode b_F_shade 18 = .ok (.ldc 86, 2) := by decide +kernel
theorem d_F_shade_20 : decode b_F_shade 20 = .ok (.invokespecial 64, 3) := by decide +kernel
theorem d_F_shade_23 : decode b_F_shade 23 = .ok (.athrow, 1) := by decide +kernel
theorem d_F_shade_24 : decode b_F_shade 24 = .ok (.iload_n 1, 1) := by decide +kernel
theorem d_F_shade_25 : decode b_F_shade 25 = .ok (.iload_n 2, 1) := by decide +kernel
theorem d_F_shade_26 : decode b_F_shade 26 = .ok (.imul, 1) := by decide +kernel
theorem d_F_shade_27 : decode b_F_shade 27 = .ok (.invokestatic 82, 3) := by decide +kernel
theorem d_F_shade_30 : decode b_F_shade 30 = .ok (.ireturn, 1) := by decide +kernel
set_option maxRecDepth 20000 in
theorem g_F_13 {w0 : Cond} : GoodIn (w0 :: WS) (va_wsS R_F 13 y_J_floorDiv w_J_floorDiv) := ws_good (by decide +kernel) ic_J_floorDiv rfl
set_option maxRecDepth 20000 in
theorem g_F_19 {w0 : Cond} : GoodIn (w0 :: WS) (wsS R_F 19 y_F_cut w_F_cut) := ws_good (by decide +kernel) ic_F_cut rfl
set_option maxRecDepth 20000 in
theorem g_F_23 {w0 : Cond} : GoodIn (w0 :: WS) (wsS R_F 23 y_F_wholeRoot w_F_wholeRoot) := ws_good (by decide +kernel) ic_F_wholeRoot rfl
set_option maxRecDepth 20000 in
theorem g_F_35 {w0 : Cond} : GoodIn (w0 :: WS) (wsS R_F 35 y_F_magnitude w_F_magnitude) := ws_good (by decide +kernel) ic_F_magnitude rfl
set_option maxRecDepth 20000 in
theorem g_F_90 {w0 : Cond} : GoodIn (w0 :: WS) (wsS R_F 90 y_F_highestBit w_F_highestBit) := ws_good (by decide +kernel) ic_F_highestBit rfl
set_option maxRecDepth 20000 in
theorem g_F_93 {w0 : Cond} : GoodIn (w0 :: WS) (wsS R_F 93 y_F_nearestEven w_F_nearestEven) := ws_good (by decide +kernel) ic_F_nearestEven rfl
set_option maxRecDepth 20000 in
theorem g_F_39 {w0 : Cond} : GoodIn (w0 :: WS) (wsS R_F 39 y_F_highProduct w_F_highProduct) := ws_good (by decide +kernel) ic_F_highProduct rfl
set_option maxRecDepth 20000 in
theorem g_F_42 {w0 : Cond} : GoodIn (w0 :: WS) (wsS R_F 42 y_F_isBelow w_F_isBelow) := ws_good (by decide +kernel) ic_F_isBelow rfl
set_option maxRecDepth 20000 in
theorem g_F_48 {w0 : Cond} : GoodIn (w0 :: WS) (wsS R_F 48 y_F_wholeQuotient w_F_wholeQuotient) := ws_good (by decide +kernel) ic_F_wholeQuotient rfl
set_option maxRecDepth 20000 in
theorem g_F_52 {w0 : Cond} : GoodIn (w0 :: WS) (wsS R_F 52 y_F_fitsLong w_F_fitsLong) := ws_good (by decide +kernel) ic_F_fitsLong rfl
set_option maxRecDepth 20000 in
theorem g_F_56 {w0 : Cond} : GoodIn (w0 :: WS) (wsS R_F 56 y_F_signedDown w_F_signedDown) := ws_good (by decide +kernel) ic_F_signedDown rfl
set_option maxRecDepth 20000 in
theorem g_F_76 {w0 : Cond} : GoodIn (w0 :: WS) (wsS R_F 76 y_F_isByte w_F_isByte) := ws_good (by decide +kernel) ic_F_isByte rfl
set_option maxRecDepth 20000 in
theorem g_F_82 {w0 : Cond} : GoodIn (w0 :: WS) (wsS R_F 82 y_F_nearest255th w_F_nearest255th) := ws_good (by decide +kernel) ic_F_nearest255th rfl
end
section
set_option maxHeartbeats 4000000 in
set_option maxRecDepth 100000 in
theorem c_F_cut (l : Launch) (x : Int64)  : Met l y_F_cut w_F_cut ({ frames := 1, cells := 0, slots := 0, locals := 23 }) (fun v _ => v = [.long x].toArray) (vp_Si (fun r => r.toInt = max (-2147483648) (min x.toInt 2147483647))) 0 0 (fun _ => False) := by
  refine Met.ofW (cc := b_F_cut) (maxL := 2) (ret := some .int) (by decide +kernel) rfl ?_
  intro p e s m args below meth c s₁ B hml hv
  subst hv
  have hx := B.exec
  have hb := B.bytes
  have hr := B.returns
  have hts := atoms_spec (ws := w_F_cut) B.pre
  have hown : s.vm.findClass R_F = some m.cls := findClass_of_methodNamed B.named
  have hlocks := B.notSynchronized
  have hl := lv_entry ([.long x]) (n := 2) (Nat.le_of_ble_eq_true rfl)
  rw [lg_entry_eq]
  generalize (lg_sl ([.long x]) ++ List.replicate (2 - (lg_sl ([.long x])).length) Slot.unset).toArray = ls at hl ⊢
  have hl : lv_has ls 2 [(0, .long x)] := hl
  refine lv_ldc2 (v := (-2147483648)) hx hb hown (hts (.constantLong R_F 97 (-2147483648)) (List.mem_cons_of_mem _ (tm (by decide +kernel) rfl))) d_F_cut_0 ?_
  refine lv_lload_n hx hb d_F_cut_3 rfl (lv_at hl 0 rfl) ?_
  refine lv_ldc2 (v := 2147483647) hx hb hown (hts (.constantLong R_F 99 2147483647) (List.mem_cons_of_mem _ (tm (by decide +kernel) rfl))) d_F_cut_4 ?_
  refine va_mmin_long hx hb (hml.trans hl.1.symm) hown (hts (.methodLink R_F 101 Lib.MathLoose.min_long.x) (List.mem_cons_of_mem _ (tm (by decide +kernel) rfl))) (hts (.static Lib.MathLoose.min_long.x) (List.mem_cons_of_mem _ (tm (by decide +kernel) rfl))) (hts (.initialized "java/lang/Math") (List.mem_cons_of_mem _ (tm (by decide +kernel) rfl))) (hts _ (List.mem_cons_of_mem _ (tm ic_J_minL rfl))) (Nat.le_of_ble_eq_true rfl) (Nat.le_of_ble_eq_true rfl) (Nat.zero_le _) (Nat.zero_le _) d_F_cut_7 ?_
  refine lv_topl (fun v7 e7 => ?_)
  refine va_mmax_long hx hb (hml.trans hl.1.symm) hown (hts (.methodLink R_F 103 Lib.MathLoose.max_long.x) (List.mem_cons_of_mem _ (tm (by decide +kernel) rfl))) (hts (.static Lib.MathLoose.max_long.x) (List.mem_cons_of_mem _ (tm (by decide +kernel) rfl))) (hts (.initialized "java/lang/Math") (List.mem_cons_of_mem _ (tm (by decide +kernel) rfl))) (hts _ (List.mem_cons_of_mem _ (tm ic_J_maxL rfl))) (Nat.le_of_ble_eq_true rfl) (Nat.le_of_ble_eq_true rfl) (Nat.zero_le _) (Nat.zero_le _) d_F_cut_10 ?_
  refine lv_topl (fun v10 e10 => ?_)
  refine lv_l2i hx hb d_F_cut_13 rfl ?_
  refine lv_topi (fun v13 e13 => ?_)
  refine W.iret (v := v13) hx hb hr (fun t ht hW => ⟨_, rfl, ?_, ht⟩) (fun _ h => by cases h) d_F_cut_14
  show v13.toInt = max (-2147483648) (min x.toInt 2147483647)
  exact by rw [e13]; exact fx_cut x v7 v10 e7 e10
set_option maxHeartbeats 4000000 in
set_option maxRecDepth 100000 in
theorem c_F_magnitude (l : Launch) (x : Int64)  : Met l y_F_magnitude w_F_magnitude ({ frames := 0, cells := 0, slots := 0, locals := 0 }) (fun v _ => v = [.long x].toArray) (vp_Sl (fun r => uN r = x.toInt.natAbs)) 0 0 (fun _ => False) := by
  refine Met.ofW (cc := b_F_magnitude) (maxL := 2) (ret := some .long) (by decide +kernel) rfl ?_
  intro p e s m args below meth c s₁ B hml hv
  subst hv
  have hx := B.exec
  have hb := B.bytes
  have hr := B.returns
  have hts := atoms_spec (ws := w_F_magnitude) B.pre
  have hown : s.vm.findClass R_F = some m.cls := findClass_of_methodNamed B.named
  have hlocks := B.notSynchronized
  have hl := lv_entry ([.long x]) (n := 2) (Nat.le_of_ble_eq_true rfl)
  rw [lg_entry_eq]
  generalize (lg_sl ([.long x]) ++ List.replicate (2 - (lg_sl ([.long x])).length) Slot.unset).toArray = ls at hl ⊢
  have hl : lv_has ls 2 [(0, .long x)] := hl
  refine lv_lload_n hx hb d_F_magnitude_0 rfl (lv_at hl 0 rfl) ?_
  refine lv_lconst (v := 0) hx hb d_F_magnitude_1 (by decide) ?_
  refine W.lcmp hx hb d_F_magnitude_2 ?_
  refine lv_if_ge (tgt := 11) hx hb d_F_magnitude_3 (by decide) (fun c3 => ?_) (fun c3 => ?_)
  · skip
    have c3 := (lg_cmp_ge _ _).mp c3
    refine lv_lload_n hx hb d_F_magnitude_11 rfl (lv_at hl 0 rfl) ?_
    refine W.lret (v := x) hx hb hr (fun t ht hW => ⟨_, rfl, ?_, ht⟩) (fun _ h => by cases h) d_F_magnitude_12
    show uN x = x.toInt.natAbs
    exact fx_abs2 x (Int64.not_lt.mpr c3)
  · skip
    have c3 := (not_congr (lg_cmp_ge _ _)).mp c3
    refine lv_lload_n hx hb d_F_magnitude_6 rfl (lv_at hl 0 rfl) ?_
    refine lv_lneg hx hb d_F_magnitude_7 ?_
    refine lv_topl (fun v7 e7 => ?_)
    refine lv_goto (tgt := 12) hx hb d_F_magnitude_8 (by decide) ?_
    refine W.lret (v := v7) hx hb hr (fun t ht hW => ⟨_, rfl, ?_, ht⟩) (fun _ h => by cases h) d_F_magnitude_12
    show uN v7 = x.toInt.natAbs
    exact fx_abs1 x v7 (Int64.not_le.mp c3) e7
set_option maxHeartbeats 4000000 in
set_option maxRecDepth 100000 in
theorem c_F_isBelow (l : Launch) (x y : Int64)  : Met l y_F_isBelow w_F_isBelow ({ frames := 0, cells := 0, slots := 0, locals := 0 }) (fun v _ => v = [.long x, .long y].toArray) (vp_Si (fun r => r = if uN x < uN y then 1 else 0)) 0 0 (fun _ => False) := by
  refine Met.ofW (cc := b_F_isBelow) (maxL := 4) (ret := some .boolean) (by decide +kernel) rfl ?_
  intro p e s m args below meth c s₁ B hml hv
  subst hv
  have hx := B.exec
  have hb := B.bytes
  have hr := B.returns
  have hts := atoms_spec (ws := w_F_isBelow) B.pre
  have hown : s.vm.findClass R_F = some m.cls := findClass_of_methodNamed B.named
  have hlocks := B.notSynchronized
  have hl := lv_entry ([.long x, .long y]) (n := 4) (Nat.le_of_ble_eq_true rfl)
  rw [lg_entry_eq]
  generalize (lg_sl ([.long x, .long y]) ++ List.replicate (4 - (lg_sl ([.long x, .long y])).length) Slot.unset).toArray = ls at hl ⊢
  have hl : lv_has ls 4 [(0, .long x), (2, .long y)] := hl
  refine lv_lload_n hx hb d_F_isBelow_0 rfl (lv_at hl 0 rfl) ?_
  refine lv_ldc2 (v := (-9223372036854775808)) hx hb hown (hts (.constantLong R_F 105 (-9223372036854775808)) (List.mem_cons_of_mem _ (tm (by decide +kernel) rfl))) d_F_isBelow_1 ?_
  refine lv_lxor hx hb d_F_isBelow_4 ?_
  refine lv_topl (fun v4 e4 => ?_)
  refine lv_lload_n hx hb d_F_isBelow_5 rfl (lv_at hl 1 rfl) ?_
  refine lv_ldc2 (v := (-9223372036854775808)) hx hb hown (hts (.constantLong R_F 105 (-9223372036854775808)) (List.mem_cons_of_mem _ (tm (by decide +kernel) rfl))) d_F_isBelow_6 ?_
  refine lv_lxor hx hb d_F_isBelow_9 ?_
  refine lv_topl (fun v9 e9 => ?_)
  refine W.lcmp hx hb d_F_isBelow_10 ?_
  refine lv_if_ge (tgt := 18) hx hb d_F_isBelow_11 (by decide) (fun c11 => ?_) (fun c11 => ?_)
  · skip
    have c11 := (lg_cmp_ge _ _).mp c11
    refine lv_iconst (v := 0) hx hb d_F_isBelow_18 (by decide) ?_
    refine W.zret (v := 0) hx hb hr (by first | rfl | decide) (fun t ht hW => ⟨_, rfl, ?_, ht⟩) (fun _ h => by cases h) d_F_isBelow_19
    show (0 : Int32) = if uN x < uN y then 1 else 0
    exact fx_below0 x y v4 v9 e4 e9 c11
  · skip
    have c11 := (not_congr (lg_cmp_ge _ _)).mp c11
    refine lv_iconst (v := 1) hx hb d_F_isBelow_14 (by decide) ?_
    refine lv_goto (tgt := 19) hx hb d_F_isBelow_15 (by decide) ?_
    refine W.zret (v := 1) hx hb hr (by first | rfl | decide) (fun t ht hW => ⟨_, rfl, ?_, ht⟩) (fun _ h => by cases h) d_F_isBelow_19
    show (1 : Int32) = if uN x < uN y then 1 else 0
    exact fx_below1 x y v4 v9 e4 e9 c11
set_option maxHeartbeats 4000000 in
set_option maxRecDepth 100000 in
theorem c_F_highProduct (l : Launch) (x y : Int64)  : Met l y_F_highProduct w_F_highProduct ({ frames := 0, cells := 0, slots := 0, locals := 0 }) (fun v _ => v = [.long x, .long y].toArray) (vp_Sl (fun r => uN r = uN x * uN y / 18446744073709551616)) 0 0 (fun _ => False) := by
  refine Met.ofW (cc := b_F_highProduct) (maxL := 16) (ret := some .long) (by decide +kernel) rfl ?_
  intro p e s m args below meth c s₁ B hml hv
  subst hv
  have hx := B.exec
  have hb := B.bytes
  have hr := B.returns
  have hts := atoms_spec (ws := w_F_highProduct) B.pre
  have hown : s.vm.findClass R_F = some m.cls := findClass_of_methodNamed B.named
  have hlocks := B.notSynchronized
  have hl := lv_entry ([.long x, .long y]) (n := 16) (Nat.le_of_ble_eq_true rfl)
  rw [lg_entry_eq]
  generalize (lg_sl ([.long x, .long y]) ++ List.replicate (16 - (lg_sl ([.long x, .long y])).length) Slot.unset).toArray = ls at hl ⊢
  have hl : lv_has ls 16 [(0, .long x), (2, .long y)] := hl
  refine lv_lload_n hx hb d_F_highProduct_0 rfl (lv_at hl 0 rfl) ?_
  refine lv_ldc2 (v := 4294967295) hx hb hown (hts (.constantLong R_F 107 4294967295) (List.mem_cons_of_mem _ (tm (by decide +kernel) rfl))) d_F_highProduct_1 ?_
  refine lv_land hx hb d_F_highProduct_4 ?_
  refine lv_topl (fun v4 e4 => ?_)
  refine lv_lstore (lv' := [(4, .long v4), (0, .long x), (2, .long y)]) hx hb d_F_highProduct_5 hl (by decide) rfl (fun ls hl => ?_)
  refine lv_lload_n hx hb d_F_highProduct_7 rfl (lv_at hl 1 rfl) ?_
  refine lv_bipush (v := 32) hx hb d_F_highProduct_8 (by decide) ?_
  refine lv_lushr hx hb d_F_highProduct_10 rfl ?_
  refine lv_topl (fun v10 e10 => ?_)
  refine lv_lstore (lv' := [(6, .long v10), (4, .long v4), (0, .long x), (2, .long y)]) hx hb d_F_highProduct_11 hl (by decide) rfl (fun ls hl => ?_)
  refine lv_lload_n hx hb d_F_highProduct_13 rfl (lv_at hl 3 rfl) ?_
  refine lv_ldc2 (v := 4294967295) hx hb hown (hts (.constantLong R_F 107 4294967295) (List.mem_cons_of_mem _ (tm (by decide +kernel) rfl))) d_F_highProduct_14 ?_
  refine lv_land hx hb d_F_highProduct_17 ?_
  refine lv_topl (fun v17 e17 => ?_)
  refine lv_lstore (lv' := [(8, .long v17), (6, .long v10), (4, .long v4), (0, .long x), (2, .long y)]) hx hb d_F_highProduct_18 hl (by decide) rfl (fun ls hl => ?_)
  refine lv_lload_n hx hb d_F_highProduct_20 rfl (lv_at hl 4 rfl) ?_
  refine lv_bipush (v := 32) hx hb d_F_highProduct_21 (by decide) ?_
  refine lv_lushr hx hb d_F_highProduct_23 rfl ?_
  refine lv_topl (fun v23 e23 => ?_)
  refine lv_lstore (lv' := [(10, .long v23), (8, .long v17), (6, .long v10), (4, .long v4), (0, .long x), (2, .long y)]) hx hb d_F_highProduct_24 hl (by decide) rfl (fun ls hl => ?_)
  refine lv_lload hx hb d_F_highProduct_26 (lv_at hl 2 rfl) ?_
  refine lv_lload hx hb d_F_highProduct_28 (lv_at hl 1 rfl) ?_
  refine lv_lmul hx hb d_F_highProduct_30 ?_
  refine lv_topl (fun v30 e30 => ?_)
  refine lv_lload hx hb d_F_highProduct_31 (lv_at hl 3 rfl) ?_
  refine lv_lload hx hb d_F_highProduct_33 (lv_at hl 1 rfl) ?_
  refine lv_lmul hx hb d_F_highProduct_35 ?_
  refine lv_topl (fun v35 e35 => ?_)
  refine lv_bipush (v := 32) hx hb d_F_highProduct_36 (by decide) ?_
  refine lv_lushr hx hb d_F_highProduct_38 rfl ?_
  refine lv_topl (fun v38 e38 => ?_)
  refine lv_ladd hx hb d_F_highProduct_39 ?_
  refine lv_topl (fun v39 e39 => ?_)
  refine lv_lstore (lv' := [(12, .long v39), (10, .long v23), (8, .long v17), (6, .long v10), (4, .long v4), (0, .long x), (2, .long y)]) hx hb d_F_highProduct_40 hl (by decide) rfl (fun ls hl => ?_)
  refine lv_lload hx hb d_F_highProduct_42 (lv_at hl 4 rfl) ?_
  refine lv_lload hx hb d_F_highProduct_44 (lv_at hl 1 rfl) ?_
  refine lv_lmul hx hb d_F_highProduct_46 ?_
  refine lv_topl (fun v46 e46 => ?_)
  refine lv_lload hx hb d_F_highProduct_47 (lv_at hl 0 rfl) ?_
  refine lv_ldc2 (v := 4294967295) hx hb hown (hts (.constantLong R_F 107 4294967295) (List.mem_cons_of_mem _ (tm (by decide +kernel) rfl))) d_F_highProduct_49 ?_
  refine lv_land hx hb d_F_highProduct_52 ?_
  refine lv_topl (fun v52 e52 => ?_)
  refine lv_ladd hx hb d_F_highProduct_53 ?_
  refine lv_topl (fun v53 e53 => ?_)
  refine lv_lstore (lv' := [(14, .long v53), (12, .long v39), (10, .long v23), (8, .long v17), (6, .long v10), (4, .long v4), (0, .long x), (2, .long y)]) hx hb d_F_highProduct_54 hl (by decide) rfl (fun ls hl => ?_)
  refine lv_lload hx hb d_F_highProduct_56 (lv_at hl 4 rfl) ?_
  refine lv_lload hx hb d_F_highProduct_58 (lv_at hl 2 rfl) ?_
  refine lv_lmul hx hb d_F_highProduct_60 ?_
  refine lv_topl (fun v60 e60 => ?_)
  refine lv_lload hx hb d_F_highProduct_61 (lv_at hl 1 rfl) ?_
  refine lv_bipush (v := 32) hx hb d_F_highProduct_63 (by decide) ?_
  refine lv_lushr hx hb d_F_highProduct_65 rfl ?_
  refine lv_topl (fun v65 e65 => ?_)
  refine lv_ladd hx hb d_F_highProduct_66 ?_
  refine lv_topl (fun v66 e66 => ?_)
  refine lv_lload hx hb d_F_highProduct_67 (lv_at hl 0 rfl) ?_
  refine lv_bipush (v := 32) hx hb d_F_highProduct_69 (by decide) ?_
  refine lv_lushr hx hb d_F_highProduct_71 rfl ?_
  refine lv_topl (fun v71 e71 => ?_)
  refine lv_ladd hx hb d_F_highProduct_72 ?_
  refine lv_topl (fun v72 e72 => ?_)
  refine W.lret (v := v72) hx hb hr (fun t ht hW => ⟨_, rfl, ?_, ht⟩) (fun _ h => by cases h) d_F_highProduct_73
  show uN v72 = uN x * uN y / 18446744073709551616
  exact fx_high x y v4 v10 v17 v23 v30 v35 v38 v39 v46 v52 v53 v60 v65 v66 v71 v72 e4 e10 e17 e23 e30 e35 e38 e39 e46 e52 e53 e60 e65 e66 e71 e72
set_option maxHeartbeats 4000000 in
set_option maxRecDepth 100000 in
theorem c_F_fitsLong (l : Launch) (x : Int64) (h n : Int32)  : Met l y_F_fitsLong w_F_fitsLong ({ frames := 0, cells := 0, slots := 0, locals := 0 }) (fun v _ => v = [.long x, .int h, .int n].toArray) (vp_Si (fun r => r = if 0 ≤ x ∨ (x = -9223372036854775808 ∧ ¬ n = 0 ∧ h = 0) then 1 else 0)) 0 0 (fun _ => False) := by
  refine Met.ofW (cc := b_F_fitsLong) (maxL := 4) (ret := some .boolean) (by decide +kernel) rfl ?_
  intro p e s m args below meth c s₁ B hml hv
  subst hv
  have hx := B.exec
  have hb := B.bytes
  have hr := B.returns
  have hts := atoms_spec (ws := w_F_fitsLong) B.pre
  have hown : s.vm.findClass R_F = some m.cls := findClass_of_methodNamed B.named
  have hlocks := B.notSynchronized
  have hl := lv_entry ([.long x, .int h, .int n]) (n := 4) (Nat.le_of_ble_eq_true rfl)
  rw [lg_entry_eq]
  generalize (lg_sl ([.long x, .int h, .int n]) ++ List.replicate (4 - (lg_sl ([.long x, .int h, .int n])).length) Slot.unset).toArray = ls at hl ⊢
  have hl : lv_has ls 4 [(0, .long x), (2, .int h), (3, .int n)] := hl
  refine lv_lload_n hx hb d_F_fitsLong_0 rfl (lv_at hl 0 rfl) ?_
  refine lv_lconst (v := 0) hx hb d_F_fitsLong_1 (by decide) ?_
  refine W.lcmp hx hb d_F_fitsLong_2 ?_
  refine lv_if_ge (tgt := 22) hx hb d_F_fitsLong_3 (by decide) (fun c3 => ?_) (fun c3 => ?_)
  · skip
    have c3 := (lg_cmp_ge _ _).mp c3
    refine lv_iconst (v := 1) hx hb d_F_fitsLong_22 (by decide) ?_
    refine lv_goto (tgt := 27) hx hb d_F_fitsLong_23 (by decide) ?_
    refine W.zret (v := 1) hx hb hr (by first | rfl | decide) (fun t ht hW => ⟨_, rfl, ?_, ht⟩) (fun _ h => by cases h) d_F_fitsLong_27
    show (1 : Int32) = if 0 ≤ x ∨ (x = -9223372036854775808 ∧ ¬ n = 0 ∧ h = 0) then 1 else 0
    exact (if_pos (by first | exact Or.inl c3 | exact Or.inr ⟨c11, c15, c19⟩)).symm
  · skip
    have c3 := (not_congr (lg_cmp_ge _ _)).mp c3
    refine lv_lload_n hx hb d_F_fitsLong_6 rfl (lv_at hl 0 rfl) ?_
    refine lv_ldc2 (v := (-9223372036854775808)) hx hb hown (hts (.constantLong R_F 105 (-9223372036854775808)) (List.mem_cons_of_mem _ (tm (by decide +kernel) rfl))) d_F_fitsLong_7 ?_
    refine W.lcmp hx hb d_F_fitsLong_10 ?_
    refine lv_if_ne (tgt := 26) hx hb d_F_fitsLong_11 (by decide) (fun c11 => ?_) (fun c11 => ?_)
    · skip
      have c11 := (not_congr (lg_cmp_eq _ _)).mp c11
      refine lv_iconst (v := 0) hx hb d_F_fitsLong_26 (by decide) ?_
      refine W.zret (v := 0) hx hb hr (by first | rfl | decide) (fun t ht hW => ⟨_, rfl, ?_, ht⟩) (fun _ h => by cases h) d_F_fitsLong_27
      show (0 : Int32) = if 0 ≤ x ∨ (x = -9223372036854775808 ∧ ¬ n = 0 ∧ h = 0) then 1 else 0
      exact (if_neg (fun q => q.elim (fun z => c3 z) (fun z => by first | exact c11 z.1 | exact z.2.1 c15 | exact c19 z.2.2))).symm
    · skip
      have c11 := (lg_cmp_eq _ _).mp c11
      refine lv_iload_n hx hb d_F_fitsLong_14 rfl (lv_at hl 2 rfl) ?_
      refine lv_if_eq (tgt := 26) hx hb d_F_fitsLong_15 (by decide) (fun c15 => ?_) (fun c15 => ?_)
      · skip
        refine lv_iconst (v := 0) hx hb d_F_fitsLong_26 (by decide) ?_
        refine W.zret (v := 0) hx hb hr (by first | rfl | decide) (fun t ht hW => ⟨_, rfl, ?_, ht⟩) (fun _ h => by cases h) d_F_fitsLong_27
        show (0 : Int32) = if 0 ≤ x ∨ (x = -9223372036854775808 ∧ ¬ n = 0 ∧ h = 0) then 1 else 0
        exact (if_neg (fun q => q.elim (fun z => c3 z) (fun z => by first | exact c11 z.1 | exact z.2.1 c15 | exact c19 z.2.2))).symm
      · skip
        refine lv_iload_n hx hb d_F_fitsLong_18 rfl (lv_at hl 1 rfl) ?_
        refine lv_if_ne (tgt := 26) hx hb d_F_fitsLong_19 (by decide) (fun c19 => ?_) (fun c19 => ?_)
        · skip
          refine lv_iconst (v := 0) hx hb d_F_fitsLong_26 (by decide) ?_
          refine W.zret (v := 0) hx hb hr (by first | rfl | decide) (fun t ht hW => ⟨_, rfl, ?_, ht⟩) (fun _ h => by cases h) d_F_fitsLong_27
          show (0 : Int32) = if 0 ≤ x ∨ (x = -9223372036854775808 ∧ ¬ n = 0 ∧ h = 0) then 1 else 0
          exact (if_neg (fun q => q.elim (fun z => c3 z) (fun z => by first | exact c11 z.1 | exact z.2.1 c15 | exact c19 z.2.2))).symm
        · skip
          refine lv_iconst (v := 1) hx hb d_F_fitsLong_22 (by decide) ?_
          refine lv_goto (tgt := 27) hx hb d_F_fitsLong_23 (by decide) ?_
          refine W.zret (v := 1) hx hb hr (by first | rfl | decide) (fun t ht hW => ⟨_, rfl, ?_, ht⟩) (fun _ h => by cases h) d_F_fitsLong_27
          show (1 : Int32) = if 0 ≤ x ∨ (x = -9223372036854775808 ∧ ¬ n = 0 ∧ h = 0) then 1 else 0
          exact (if_pos (by first | exact Or.inl c3 | exact Or.inr ⟨c11, c15, c19⟩)).symm
set_option maxHeartbeats 4000000 in
set_option maxRecDepth 100000 in
theorem c_F_signedDown (l : Launch) (x : Int64) (h n : Int32)  : Met l y_F_signedDown w_F_signedDown ({ frames := 0, cells := 0, slots := 0, locals := 0 }) (fun v _ => v = [.long x, .int h, .int n].toArray) (vp_Sl (fun r => r = if n = 0 then x else if h = 0 then -x else -x - 1)) 0 0 (fun _ => False) := by
  refine Met.ofW (cc := b_F_signedDown) (maxL := 4) (ret := some .long) (by decide +kernel) rfl ?_
  intro p e s m args below meth c s₁ B hml hv
  subst hv
  have hx := B.exec
  have hb := B.bytes
  have hr := B.returns
  have hts := atoms_spec (ws := w_F_signedDown) B.pre
  have hown : s.vm.findClass R_F = some m.cls := findClass_of_methodNamed B.named
  have hlocks := B.notSynchronized
  have hl := lv_entry ([.long x, .int h, .int n]) (n := 4) (Nat.le_of_ble_eq_true rfl)
  rw [lg_entry_eq]
  generalize (lg_sl ([.long x, .int h, .int n]) ++ List.replicate (4 - (lg_sl ([.long x, .int h, .int n])).length) Slot.unset).toArray = ls at hl ⊢
  have hl : lv_has ls 4 [(0, .long x), (2, .int h), (3, .int n)] := hl
  refine lv_iload_n hx hb d_F_signedDown_0 rfl (lv_at hl 2 rfl) ?_
  refine lv_if_ne (tgt := 6) hx hb d_F_signedDown_1 (by decide) (fun c1 => ?_) (fun c1 => ?_)
  · skip
    refine lv_iload_n hx hb d_F_signedDown_6 rfl (lv_at hl 1 rfl) ?_
    refine lv_if_eq (tgt := 17) hx hb d_F_signedDown_7 (by decide) (fun c7 => ?_) (fun c7 => ?_)
    · skip
      refine lv_lload_n hx hb d_F_signedDown_17 rfl (lv_at hl 0 rfl) ?_
      refine lv_lneg hx hb d_F_signedDown_18 ?_
      refine lv_topl (fun v18 e18 => ?_)
      refine W.lret (v := v18) hx hb hr (fun t ht hW => ⟨_, rfl, ?_, ht⟩) (fun _ h => by cases h) d_F_signedDown_19
      show v18 = if n = 0 then x else if h = 0 then -x else -x - 1
      exact by rw [if_neg c1, if_pos c7, e18]
    · skip
      refine lv_lload_n hx hb d_F_signedDown_10 rfl (lv_at hl 0 rfl) ?_
      refine lv_lneg hx hb d_F_signedDown_11 ?_
      refine lv_topl (fun v11 e11 => ?_)
      refine lv_lconst (v := 1) hx hb d_F_signedDown_12 (by decide) ?_
      refine lv_lsub hx hb d_F_signedDown_13 ?_
      refine lv_topl (fun v13 e13 => ?_)
      refine lv_goto (tgt := 19) hx hb d_F_signedDown_14 (by decide) ?_
      refine W.lret (v := v13) hx hb hr (fun t ht hW => ⟨_, rfl, ?_, ht⟩) (fun _ h => by cases h) d_F_signedDown_19
      show v13 = if n = 0 then x else if h = 0 then -x else -x - 1
      exact by rw [if_neg c1, if_neg c7, e13, e11]
  · skip
    refine lv_lload_n hx hb d_F_signedDown_4 rfl (lv_at hl 0 rfl) ?_
    refine W.lret (v := x) hx hb hr (fun t ht hW => ⟨_, rfl, ?_, ht⟩) (fun _ h => by cases h) d_F_signedDown_5
    show x = if n = 0 then x else if h = 0 then -x else -x - 1
    exact by rw [if_pos c1]
set_option maxHeartbeats 4000000 in
set_option maxRecDepth 100000 in
theorem c_F_isByte (l : Launch) (x : Int32)  : Met l y_F_isByte w_F_isByte ({ frames := 0, cells := 0, slots := 0, locals := 0 }) (fun v _ => v = [.int x].toArray) (vp_Si (fun r => r = if 0 ≤ x.toInt ∧ x.toInt ≤ 255 then 1 else 0)) 0 0 (fun _ => False) := by
  refine Met.ofW (cc := b_F_isByte) (maxL := 1) (ret := some .boolean) (by decide +kernel) rfl ?_
  intro p e s m args below meth c s₁ B hml hv
  subst hv
  have hx := B.exec
  have hb := B.bytes
  have hr := B.returns
  have hts := atoms_spec (ws := w_F_isByte) B.pre
  have hown : s.vm.findClass R_F = some m.cls := findClass_of_methodNamed B.named
  have hlocks := B.notSynchronized
  have hl := lv_entry ([.int x]) (n := 1) (Nat.le_of_ble_eq_true rfl)
  rw [lg_entry_eq]
  generalize (lg_sl ([.int x]) ++ List.replicate (1 - (lg_sl ([.int x])).length) Slot.unset).toArray = ls at hl ⊢
  have hl : lv_has ls 1 [(0, .int x)] := hl
  refine lv_iload_n hx hb d_F_isByte_0 rfl (lv_at hl 0 rfl) ?_
  refine lv_if_lt (tgt := 15) hx hb d_F_isByte_1 (by decide) (fun c1 => ?_) (fun c1 => ?_)
  · skip
    refine lv_iconst (v := 0) hx hb d_F_isByte_15 (by decide) ?_
    refine W.zret (v := 0) hx hb hr (by first | rfl | decide) (fun t ht hW => ⟨_, rfl, ?_, ht⟩) (fun _ h => by cases h) d_F_isByte_16
    show (0 : Int32) = if 0 ≤ x.toInt ∧ x.toInt ≤ 255 then 1 else 0
    exact fx_byte0 x (by first | exact Or.inl c1 | exact Or.inr c8)
  · skip
    refine lv_iload_n hx hb d_F_isByte_4 rfl (lv_at hl 0 rfl) ?_
    refine lv_sipush (v := 255) hx hb d_F_isByte_5 (by decide) ?_
    refine lv_icmp_gt (tgt := 15) hx hb d_F_isByte_8 (by decide) (fun c8 => ?_) (fun c8 => ?_)
    · skip
      refine lv_iconst (v := 0) hx hb d_F_isByte_15 (by decide) ?_
      refine W.zret (v := 0) hx hb hr (by first | rfl | decide) (fun t ht hW => ⟨_, rfl, ?_, ht⟩) (fun _ h => by cases h) d_F_isByte_16
      show (0 : Int32) = if 0 ≤ x.toInt ∧ x.toInt ≤ 255 then 1 else 0
      exact fx_byte0 x (by first | exact Or.inl c1 | exact Or.inr c8)
    · skip
      refine lv_iconst (v := 1) hx hb d_F_isByte_11 (by decide) ?_
      refine lv_goto (tgt := 16) hx hb d_F_isByte_12 (by decide) ?_
      refine W.zret (v := 1) hx hb hr (by first | rfl | decide) (fun t ht hW => ⟨_, rfl, ?_, ht⟩) (fun _ h => by cases h) d_F_isByte_16
      show (1 : Int32) = if 0 ≤ x.toInt ∧ x.toInt ≤ 255 then 1 else 0
      exact fx_byte1 x c1 c8
set_option maxHeartbeats 4000000 in
set_option maxRecDepth 100000 in
theorem c_F_nearest255th (l : Launch) (x : Int32) (h0 : 0 ≤ x.toInt) (h1 : x.toInt ≤ 16711680) : Met l y_F_nearest255th w_F_nearest255th ({ frames := 0, cells := 0, slots := 0, locals := 0 }) (fun v _ => v = [.int x].toArray) (vp_Si (fun r => r.toInt = (2 * x.toInt + 255) / 510)) 0 0 (fun _ => False) := by
  refine Met.ofW (cc := b_F_nearest255th) (maxL := 1) (ret := some .int) (by decide +kernel) rfl ?_
  intro p e s m args below meth c s₁ B hml hv
  subst hv
  have hx := B.exec
  have hb := B.bytes
  have hr := B.returns
  have hts := atoms_spec (ws := w_F_nearest255th) B.pre
  have hown : s.vm.findClass R_F = some m.cls := findClass_of_methodNamed B.named
  have hlocks := B.notSynchronized
  have hl := lv_entry ([.int x]) (n := 1) (Nat.le_of_ble_eq_true rfl)
  rw [lg_entry_eq]
  generalize (lg_sl ([.int x]) ++ List.replicate (1 - (lg_sl ([.int x])).length) Slot.unset).toArray = ls at hl ⊢
  have hl : lv_has ls 1 [(0, .int x)] := hl
  refine lv_iconst (v := 2) hx hb d_F_nearest255th_0 (by decide) ?_
  refine lv_iload_n hx hb d_F_nearest255th_1 rfl (lv_at hl 0 rfl) ?_
  refine lv_imul hx hb d_F_nearest255th_2 ?_
  refine lv_topi (fun v2 e2 => ?_)
  refine lv_sipush (v := 255) hx hb d_F_nearest255th_3 (by decide) ?_
  refine lv_iadd hx hb d_F_nearest255th_6 ?_
  refine lv_topi (fun v6 e6 => ?_)
  refine lv_sipush (v := 510) hx hb d_F_nearest255th_7 (by decide) ?_
  refine lv_idiv hx hb d_F_nearest255th_10 (by decide) ?_
  refine lv_topi (fun v10 e10 => ?_)
  refine W.iret (v := v10) hx hb hr (fun t ht hW => ⟨_, rfl, ?_, ht⟩) (fun _ h => by cases h) d_F_nearest255th_11
  show v10.toInt = (2 * x.toInt + 255) / 510
  exact fx_255 x v2 v6 v10 h0 h1 e2 e6 e10
set_option maxHeartbeats 4000000 in
set_option maxRecDepth 100000 in
theorem c_F_wholeRoot (l : Launch) (x : Int64) (h0 : 0 ≤ x.toInt) (h1 : x.toInt ≤ 281474976710656) : Met l y_F_wholeRoot w_F_wholeRoot ({ frames := 0, cells := 0, slots := 0, locals := 0 }) (fun v _ => v = [.long x].toArray) (vp_Si (fun r => sp_isr x.toInt r.toInt)) 0 0 (fun _ => False) := by
  refine Met.ofW (cc := b_F_wholeRoot) (maxL := 7) (ret := some .int) (by decide +kernel) rfl ?_
  intro p e s m args below meth c s₁ B hml hv
  subst hv
  have hx := B.exec
  have hb := B.bytes
  have hr := B.returns
  have hts := atoms_spec (ws := w_F_wholeRoot) B.pre
  have hown : s.vm.findClass R_F = some m.cls := findClass_of_methodNamed B.named
  have hlocks := B.notSynchronized
  have hl := lv_entry ([.long x]) (n := 7) (Nat.le_of_ble_eq_true rfl)
  rw [lg_entry_eq]
  generalize (lg_sl ([.long x]) ++ List.replicate (7 - (lg_sl ([.long x])).length) Slot.unset).toArray = ls at hl ⊢
  have hl : lv_has ls 7 [(0, .long x)] := hl
  refine lv_lconst (v := 0) hx hb d_F_wholeRoot_0 (by decide) ?_
  refine lv_lstore_n (lv' := [(2, .long 0), (0, .long x)]) hx hb d_F_wholeRoot_1 rfl hl (by decide) rfl (fun ls hl => ?_)
  refine lv_bipush (v := 24) hx hb d_F_wholeRoot_2 (by decide) ?_
  refine lv_istore (lv' := [(4, .int 24), (2, .long 0), (0, .long x)]) hx hb d_F_wholeRoot_4 hl (by decide) rfl (fun ls hl => ?_)
  obtain ⟨S, hxS, hxI, hSN, -⟩ := fx_of x h0 h1
  have hS : S ≤ 281474976710656 := by omega
  refine lp_W (nL := 7) (J := 6) (fun z : Int64 × Int32 => [(4, .int z.2), (2, .long z.1), (0, .long x)]) (rt_I S) (fun n z hI ih ls hl => ?_) 25 (0, 24) (rt_0 hS) hl
  obtain ⟨found, i⟩ := z
  obtain ⟨hi, hn, f, hf, hb1, hb2, hb3⟩ := hI
  dsimp only at hi hf
  have hl : lv_has ls 7 [(4, .int i), (2, .long found), (0, .long x)] := hl
  refine lv_iload hx hb d_F_wholeRoot_6 (lv_at hl 0 rfl) ?_
  refine lv_if_lt (tgt := 38) hx hb d_F_wholeRoot_8 (by decide) (fun c8 => ?_) (fun c8 => ?_)
  · skip
    refine lv_lload_n hx hb d_F_wholeRoot_38 rfl (lv_at hl 1 rfl) ?_
    refine lv_l2i hx hb d_F_wholeRoot_39 rfl ?_
    refine lv_topi (fun v39 e39 => ?_)
    refine W.iret (v := v39) hx hb hr (fun t ht hW => ⟨_, rfl, ?_, ht⟩) (fun _ h => by cases h) d_F_wholeRoot_40
    show sp_isr x.toInt v39.toInt
    exact by have z := dn_neg (by omega) hi c8; subst z; exact rt_end hxI hf hb1 hb2 hb3 e39
  · skip
    obtain ⟨j, rfl, hij⟩ := dn_nn (by omega) hi c8
    refine lv_lload_n hx hb d_F_wholeRoot_11 rfl (lv_at hl 1 rfl) ?_
    refine lv_lconst (v := 1) hx hb d_F_wholeRoot_12 (by decide) ?_
    refine lv_iload hx hb d_F_wholeRoot_13 (lv_at hl 0 rfl) ?_
    refine lv_lshl hx hb d_F_wholeRoot_15 rfl ?_
    refine lv_topl (fun v15 e15 => ?_)
    refine lv_ladd hx hb d_F_wholeRoot_16 ?_
    refine lv_topl (fun v16 e16 => ?_)
    refine lv_lstore (lv' := [(5, .long v16), (4, .int i), (2, .long found), (0, .long x)]) hx hb d_F_wholeRoot_17 hl (by decide) rfl (fun ls hl => ?_)
    refine lv_lload hx hb d_F_wholeRoot_19 (lv_at hl 0 rfl) ?_
    refine lv_lload hx hb d_F_wholeRoot_21 (lv_at hl 0 rfl) ?_
    refine lv_lmul hx hb d_F_wholeRoot_23 ?_
    refine lv_topl (fun v23 e23 => ?_)
    obtain ⟨e16x, cx⟩ := rt_try hxS hS hij hn hf hb1 e15 e16 e23
    refine lv_lload_n hx hb d_F_wholeRoot_24 rfl (lv_at hl 3 rfl) ?_
    refine W.lcmp hx hb d_F_wholeRoot_25 ?_
    refine lv_if_gt (tgt := 32) hx hb d_F_wholeRoot_26 (by decide) (fun c26 => ?_) (fun c26 => ?_)
    · skip
      have c26 := (lg_cmp_gt _ _).mp c26
      obtain ⟨v32, e32⟩ : ∃ y : Int32, y = i + Int32.ofInt (-1) := ⟨_, rfl⟩
      refine lv_iinc (v := v32) (lv' := [(4, .int v32), (5, .long v16), (2, .long found), (0, .long x)]) hx hb d_F_wholeRoot_32 hl (k := 1) rfl (by rw [e32]) (by decide) rfl (fun ls hl => ?_)
      refine lv_goto (tgt := 6) hx hb d_F_wholeRoot_35 (by decide) ?_
      exact ih _ (found, v32) (Nat.lt_succ_self _) (rt_no hij hn hf hb1 hb2 (cx.mp c26) e32) _ (lv_sub hl [0, 2, 3] rfl)
    · skip
      have c26 := (not_congr (lg_cmp_gt _ _)).mp c26
      refine lv_lload hx hb d_F_wholeRoot_29 (lv_at hl 0 rfl) ?_
      refine lv_lstore_n (lv' := [(2, .long v16), (5, .long v16), (4, .int i), (0, .long x)]) hx hb d_F_wholeRoot_31 rfl hl (by decide) rfl (fun ls hl => ?_)
      obtain ⟨v32, e32⟩ : ∃ y : Int32, y = i + Int32.ofInt (-1) := ⟨_, rfl⟩
      refine lv_iinc (v := v32) (lv' := [(4, .int v32), (2, .long v16), (5, .long v16), (0, .long x)]) hx hb d_F_wholeRoot_32 hl (k := 2) rfl (by rw [e32]) (by decide) rfl (fun ls hl => ?_)
      refine lv_goto (tgt := 6) hx hb d_F_wholeRoot_35 (by decide) ?_
      exact ih _ (v16, v32) (Nat.lt_succ_self _) (rt_yes hij hn e16x hb1 hb3 (Nat.not_lt.mp (fun q => c26 (cx.mpr q))) e32) _ (lv_sub hl [0, 1, 3] rfl)
set_option maxHeartbeats 4000000 in
set_option maxRecDepth 100000 in
theorem c_F_wholeQuotient (l : Launch) (h lo d : Int64) (hd0 : 0 < uN d) (hd2 : uN d ≤ 9223372036854775808) (hlt : uN h < uN d) : Met l y_F_wholeQuotient w_F_wholeQuotient ({ frames := 1, cells := 0, slots := 0, locals := 23 }) (fun v _ => v = [.long h, .long lo, .long d].toArray) (vp_Sl (fun r => uN r = (uN h * 18446744073709551616 + uN lo) / uN d)) 0 0 (fun _ => False) := by
  refine Met.ofW (cc := b_F_wholeQuotient) (maxL := 11) (ret := some .long) (by decide +kernel) rfl ?_
  intro p e s m args below meth c s₁ B hml hv
  subst hv
  have hx := B.exec
  have hb := B.bytes
  have hr := B.returns
  have hts := atoms_spec (ws := w_F_wholeQuotient) B.pre
  have hown : s.vm.findClass R_F = some m.cls := findClass_of_methodNamed B.named
  have hlocks := B.notSynchronized
  have hl := lv_entry ([.long h, .long lo, .long d]) (n := 11) (Nat.le_of_ble_eq_true rfl)
  rw [lg_entry_eq]
  generalize (lg_sl ([.long h, .long lo, .long d]) ++ List.replicate (11 - (lg_sl ([.long h, .long lo, .long d])).length) Slot.unset).toArray = ls at hl ⊢
  have hl : lv_has ls 11 [(0, .long h), (2, .long lo), (4, .long d)] := hl
  refine lv_lload_n hx hb d_F_wholeQuotient_0 rfl (lv_at hl 0 rfl) ?_
  refine lv_lstore (lv' := [(6, .long h), (0, .long h), (2, .long lo), (4, .long d)]) hx hb d_F_wholeQuotient_1 hl (by decide) rfl (fun ls hl => ?_)
  refine lv_lconst (v := 0) hx hb d_F_wholeQuotient_3 (by decide) ?_
  refine lv_lstore (lv' := [(8, .long 0), (6, .long h), (0, .long h), (2, .long lo), (4, .long d)]) hx hb d_F_wholeQuotient_4 hl (by decide) rfl (fun ls hl => ?_)
  refine lv_bipush (v := 63) hx hb d_F_wholeQuotient_6 (by decide) ?_
  refine lv_istore (lv' := [(10, .int 63), (8, .long 0), (6, .long h), (0, .long h), (2, .long lo), (4, .long d)]) hx hb d_F_wholeQuotient_8 hl (by decide) rfl (fun ls hl => ?_)
  refine lp_W (nL := 11) (J := 10) (fun z : Int64 × Int64 × Int32 => [(10, .int z.2.2), (8, .long z.2.1), (6, .long z.1), (0, .long h), (2, .long lo), (4, .long d)]) (wq_I h lo d) (fun n z hI ih ls hl => ?_) 64 (h, 0, 63) (wq_0 h lo d hlt) hl
  obtain ⟨rest, whole, i⟩ := z
  obtain ⟨hi, hn, hb1, hb2, hb3⟩ := hI
  dsimp only at hi hb1 hb2 hb3
  have hl : lv_has ls 11 [(10, .int i), (8, .long whole), (6, .long rest), (0, .long h), (2, .long lo), (4, .long d)] := hl
  refine lv_iload hx hb d_F_wholeQuotient_10 (lv_at hl 0 rfl) ?_
  refine lv_if_lt (tgt := 63) hx hb d_F_wholeQuotient_12 (by decide) (fun c12 => ?_) (fun c12 => ?_)
  · skip
    refine lv_lload hx hb d_F_wholeQuotient_63 (lv_at hl 1 rfl) ?_
    refine W.lret (v := whole) hx hb hr (fun t ht hW => ⟨_, rfl, ?_, ht⟩) (fun _ h => by cases h) d_F_wholeQuotient_65
    show uN whole = (uN h * 18446744073709551616 + uN lo) / uN d
    exact by have z := dn_neg (by omega) hi c12; subst z; exact wq_end hd0 hb1 hb3
  · skip
    obtain ⟨j, rfl, hij⟩ := dn_nn (by omega) hi c12
    refine lv_lload hx hb d_F_wholeQuotient_15 (lv_at hl 2 rfl) ?_
    refine lv_iconst (v := 1) hx hb d_F_wholeQuotient_17 (by decide) ?_
    refine lv_lshl hx hb d_F_wholeQuotient_18 rfl ?_
    refine lv_topl (fun v18 e18 => ?_)
    refine lv_lload_n hx hb d_F_wholeQuotient_19 rfl (lv_at hl 4 rfl) ?_
    refine lv_iload hx hb d_F_wholeQuotient_20 (lv_at hl 0 rfl) ?_
    refine lv_lushr hx hb d_F_wholeQuotient_22 rfl ?_
    refine lv_topl (fun v22 e22 => ?_)
    refine lv_lconst (v := 1) hx hb d_F_wholeQuotient_23 (by decide) ?_
    refine lv_land hx hb d_F_wholeQuotient_24 ?_
    refine lv_topl (fun v24 e24 => ?_)
    refine lv_lor hx hb d_F_wholeQuotient_25 ?_
    refine lv_topl (fun v25 e25 => ?_)
    refine lv_lstore (lv' := [(6, .long v25), (10, .int i), (8, .long whole), (0, .long h), (2, .long lo), (4, .long d)]) hx hb d_F_wholeQuotient_26 hl (by decide) rfl (fun ls hl => ?_)
    refine lv_lload hx hb d_F_wholeQuotient_28 (lv_at hl 2 rfl) ?_
    refine lv_iconst (v := 1) hx hb d_F_wholeQuotient_30 (by decide) ?_
    refine lv_lshl hx hb d_F_wholeQuotient_31 rfl ?_
    refine lv_topl (fun v31 e31 => ?_)
    refine lv_lstore (lv' := [(8, .long v31), (6, .long v25), (10, .int i), (0, .long h), (2, .long lo), (4, .long d)]) hx hb d_F_wholeQuotient_32 hl (by decide) rfl (fun ls hl => ?_)
    obtain ⟨fa, fb, fc⟩ := wq_try hd2 hij hn hb1 hb2 e18 e22 e24 e25 e31
    refine lv_lload hx hb d_F_wholeQuotient_34 (lv_at hl 1 rfl) ?_
    refine lv_lload hx hb d_F_wholeQuotient_36 (lv_at hl 5 rfl) ?_
    refine vp_callSi (W.runS (As := [.long v25, .long d]) (rest := []) ⟨hx, hb, hml, hown, hts⟩ (c_F_isBelow l v25 d ) (cwS 2 hts g_F_42 rfl rfl rfl (by decide +kernel) ⟨Nat.le_of_ble_eq_true rfl, Nat.le_of_ble_eq_true rfl⟩) preEq rfl rfl hl.1 rfl (lv_room (Nat.le_of_ble_eq_true rfl)) d_F_wholeQuotient_38 ⟨Nat.zero_le _, Nat.zero_le _⟩) (fun v38 e38 => ?_)
    try dsimp only at e38
    refine lv_if_ne (tgt := 57) hx hb d_F_wholeQuotient_41 (by decide) (fun c41 => ?_) (fun c41 => ?_)
    · skip
      have cx : uN v25 < uN d := Classical.byContradiction (fun q => by rw [if_neg q] at e38; exact c41 e38)
      obtain ⟨v57, e57⟩ : ∃ y : Int32, y = i + Int32.ofInt (-1) := ⟨_, rfl⟩
      refine lv_iinc (v := v57) (lv' := [(10, .int v57), (8, .long v31), (6, .long v25), (0, .long h), (2, .long lo), (4, .long d)]) hx hb d_F_wholeQuotient_57 hl (k := 2) rfl (by rw [e57]) (by decide) rfl (fun ls hl => ?_)
      refine lv_goto (tgt := 10) hx hb d_F_wholeQuotient_60 (by decide) ?_
      exact ih _ (v25, v31, v57) (Nat.lt_succ_self _) (wq_lo hij hn hb2 hb3 fa fb cx e57) _ (lv_sub hl [0, 1, 2, 3, 4, 5] rfl)
    · skip
      have cx : ¬ uN v25 < uN d := fun q => by rw [if_pos q] at e38; rw [e38] at c41; exact absurd c41 (by decide)
      refine lv_lload hx hb d_F_wholeQuotient_44 (lv_at hl 1 rfl) ?_
      refine lv_lload hx hb d_F_wholeQuotient_46 (lv_at hl 5 rfl) ?_
      refine lv_lsub hx hb d_F_wholeQuotient_48 ?_
      refine lv_topl (fun v48 e48 => ?_)
      refine lv_lstore (lv' := [(6, .long v48), (8, .long v31), (10, .int i), (0, .long h), (2, .long lo), (4, .long d)]) hx hb d_F_wholeQuotient_49 hl (by decide) rfl (fun ls hl => ?_)
      refine lv_lload hx hb d_F_wholeQuotient_51 (lv_at hl 1 rfl) ?_
      refine lv_lconst (v := 1) hx hb d_F_wholeQuotient_53 (by decide) ?_
      refine lv_lor hx hb d_F_wholeQuotient_54 ?_
      refine lv_topl (fun v54 e54 => ?_)
      refine lv_lstore (lv' := [(8, .long v54), (6, .long v48), (10, .int i), (0, .long h), (2, .long lo), (4, .long d)]) hx hb d_F_wholeQuotient_55 hl (by decide) rfl (fun ls hl => ?_)
      obtain ⟨v57, e57⟩ : ∃ y : Int32, y = i + Int32.ofInt (-1) := ⟨_, rfl⟩
      refine lv_iinc (v := v57) (lv' := [(10, .int v57), (8, .long v54), (6, .long v48), (0, .long h), (2, .long lo), (4, .long d)]) hx hb d_F_wholeQuotient_57 hl (k := 2) rfl (by rw [e57]) (by decide) rfl (fun ls hl => ?_)
      refine lv_goto (tgt := 10) hx hb d_F_wholeQuotient_60 (by decide) ?_
      exact ih _ (v48, v54, v57) (Nat.lt_succ_self _) (wq_hi hij hn hb1 hb2 hb3 fa (by rw [e54]; exact fc) e48 cx e57) _ (lv_sub hl [0, 1, 2, 3, 4, 5] rfl)
set_option maxHeartbeats 4000000 in
set_option maxRecDepth 100000 in
theorem c_F_highestBit (l : Launch) (x : Int64) (h0 : 1 ≤ x.toInt) (h1 : x.toInt ≤ 2147483648) : Met l y_F_highestBit w_F_highestBit ({ frames := 0, cells := 0, slots := 0, locals := 0 }) (fun v _ => v = [.long x].toArray) (vp_Si (fun r => ∃ t : Nat, r = nI t ∧ t ≤ 31 ∧ (2 : Int) ^ t ≤ x.toInt ∧ x.toInt < 2 ^ (t + 1))) 0 0 (fun _ => False) := by
  refine Met.ofW (cc := b_F_highestBit) (maxL := 3) (ret := some .int) (by decide +kernel) rfl ?_
  intro p e s m args below meth c s₁ B hml hv
  subst hv
  have hx := B.exec
  have hb := B.bytes
  have hr := B.returns
  have hts := atoms_spec (ws := w_F_highestBit) B.pre
  have hown : s.vm.findClass R_F = some m.cls := findClass_of_methodNamed B.named
  have hlocks := B.notSynchronized
  have hl := lv_entry ([.long x]) (n := 3) (Nat.le_of_ble_eq_true rfl)
  rw [lg_entry_eq]
  generalize (lg_sl ([.long x]) ++ List.replicate (3 - (lg_sl ([.long x])).length) Slot.unset).toArray = ls at hl ⊢
  have hl : lv_has ls 3 [(0, .long x)] := hl
  refine lv_bipush (v := 31) hx hb d_F_highestBit_0 (by decide) ?_
  refine lv_istore_n (lv' := [(2, .int 31), (0, .long x)]) hx hb d_F_highestBit_2 rfl hl (by decide) rfl (fun ls hl => ?_)
  obtain ⟨S, hxS, hxI, hSN, -⟩ := fx_of x (by omega) h1
  have hS : S < 2 ^ 62 := by omega
  have h9 : S < 2 ^ (31 + 1) := by omega
  refine lp_W (nL := 3) (J := 3) (fun z : Int32 => [(2, .int z), (0, .long x)]) (hb_I S) (fun n i hI ih ls hl => ?_) 31 31 ⟨by decide, by decide, h9⟩ hl
  obtain ⟨hi, hn, hb1⟩ := hI
  have hl : lv_has ls 3 [(2, .int i), (0, .long x)] := hl
  refine lv_iload_n hx hb d_F_highestBit_3 rfl (lv_at hl 0 rfl) ?_
  refine lv_if_le (tgt := 21) hx hb d_F_highestBit_4 (by decide) (fun c4 => ?_) (fun c4 => ?_)
  · skip
    refine lv_iload_n hx hb d_F_highestBit_21 rfl (lv_at hl 0 rfl) ?_
    refine W.iret (v := i) hx hb hr (fun t ht hW => ⟨_, rfl, ?_, ht⟩) (fun _ h => by cases h) d_F_highestBit_22
    show ∃ t : Nat, i = nI t ∧ t ≤ 31 ∧ (2 : Int) ^ t ≤ x.toInt ∧ x.toInt < 2 ^ (t + 1)
    exact ⟨n, hi, hn, by rw [hxI]; first | (have q := hb_nz hxS hS hi hn e9 c12; exact_mod_cast q) | (have q := hb_z hi hn c4; subst q; show (1 : Int) ≤ _; omega), by rw [hxI]; exact_mod_cast hb1⟩
  · skip
    refine lv_lload_n hx hb d_F_highestBit_7 rfl (lv_at hl 1 rfl) ?_
    refine lv_iload_n hx hb d_F_highestBit_8 rfl (lv_at hl 0 rfl) ?_
    refine lv_lshr hx hb d_F_highestBit_9 rfl ?_
    refine lv_topl (fun v9 e9 => ?_)
    refine lv_lconst (v := 0) hx hb d_F_highestBit_10 (by decide) ?_
    refine W.lcmp hx hb d_F_highestBit_11 ?_
    refine lv_if_ne (tgt := 21) hx hb d_F_highestBit_12 (by decide) (fun c12 => ?_) (fun c12 => ?_)
    · skip
      have c12 := (not_congr (lg_cmp_eq _ _)).mp c12
      refine lv_iload_n hx hb d_F_highestBit_21 rfl (lv_at hl 0 rfl) ?_
      refine W.iret (v := i) hx hb hr (fun t ht hW => ⟨_, rfl, ?_, ht⟩) (fun _ h => by cases h) d_F_highestBit_22
      show ∃ t : Nat, i = nI t ∧ t ≤ 31 ∧ (2 : Int) ^ t ≤ x.toInt ∧ x.toInt < 2 ^ (t + 1)
      exact ⟨n, hi, hn, by rw [hxI]; first | (have q := hb_nz hxS hS hi hn e9 c12; exact_mod_cast q) | (have q := hb_z hi hn c4; subst q; show (1 : Int) ≤ _; omega), by rw [hxI]; exact_mod_cast hb1⟩
    · skip
      have c12 := (lg_cmp_eq _ _).mp c12
      obtain ⟨v15, e15⟩ : ∃ y : Int32, y = i + Int32.ofInt (-1) := ⟨_, rfl⟩
      refine lv_iinc (v := v15) (lv' := [(2, .int v15), (0, .long x)]) hx hb d_F_highestBit_15 hl (k := 0) rfl (by rw [e15]) (by decide) rfl (fun ls hl => ?_)
      refine lv_goto (tgt := 3) hx hb d_F_highestBit_18 (by decide) ?_
      obtain ⟨j, rfl, hj⟩ := hb_go hxS hS hi hn c4 e9 c12 e15
      exact ih j v15 (Nat.lt_succ_self _) hj _ (lv_sub hl [0, 1] rfl)
set_option maxHeartbeats 4000000 in
set_option maxRecDepth 100000 in
theorem c_F_nearestEven (l : Launch) (x : Int64) (i : Int32) (sv k : Nat) (hxs : x = lN sv) (hs9 : sv ≤ 2147483648) (hi : i = nI k) (hk : k ≤ 31) : Met l y_F_nearestEven w_F_nearestEven ({ frames := 0, cells := 0, slots := 0, locals := 0 }) (fun v _ => v = [.long x, .int i].toArray) (vp_Si (fun r => r = nI (sp_ne sv k))) 0 0 (fun _ => False) := by
  refine Met.ofW (cc := b_F_nearestEven) (maxL := 10) (ret := some .int) (by decide +kernel) rfl ?_
  intro p e s m args below meth c s₁ B hml hv
  subst hv
  have hx := B.exec
  have hb := B.bytes
  have hr := B.returns
  have hts := atoms_spec (ws := w_F_nearestEven) B.pre
  have hown : s.vm.findClass R_F = some m.cls := findClass_of_methodNamed B.named
  have hlocks := B.notSynchronized
  have hl := lv_entry ([.long x, .int i]) (n := 10) (Nat.le_of_ble_eq_true rfl)
  rw [lg_entry_eq]
  generalize (lg_sl ([.long x, .int i]) ++ List.replicate (10 - (lg_sl ([.long x, .int i])).length) Slot.unset).toArray = ls at hl ⊢
  have hl : lv_has ls 10 [(0, .long x), (2, .int i)] := hl
  refine lv_lload_n hx hb d_F_nearestEven_0 rfl (lv_at hl 0 rfl) ?_
  refine lv_iload_n hx hb d_F_nearestEven_1 rfl (lv_at hl 1 rfl) ?_
  refine lv_lshr hx hb d_F_nearestEven_2 rfl ?_
  refine lv_topl (fun v2 e2 => ?_)
  refine lv_lstore_n (lv' := [(3, .long v2), (0, .long x), (2, .int i)]) hx hb d_F_nearestEven_3 rfl hl (by decide) rfl (fun ls hl => ?_)
  refine lv_lload_n hx hb d_F_nearestEven_4 rfl (lv_at hl 1 rfl) ?_
  refine lv_lload_n hx hb d_F_nearestEven_5 rfl (lv_at hl 0 rfl) ?_
  refine lv_iload_n hx hb d_F_nearestEven_6 rfl (lv_at hl 2 rfl) ?_
  refine lv_lshl hx hb d_F_nearestEven_7 rfl ?_
  refine lv_topl (fun v7 e7 => ?_)
  refine lv_lsub hx hb d_F_nearestEven_8 ?_
  refine lv_topl (fun v8 e8 => ?_)
  refine lv_iconst (v := 1) hx hb d_F_nearestEven_9 (by decide) ?_
  refine lv_lshl hx hb d_F_nearestEven_10 rfl ?_
  refine lv_topl (fun v10 e10 => ?_)
  refine lv_lstore (lv' := [(5, .long v10), (3, .long v2), (0, .long x), (2, .int i)]) hx hb d_F_nearestEven_11 hl (by decide) rfl (fun ls hl => ?_)
  refine lv_lconst (v := 1) hx hb d_F_nearestEven_13 (by decide) ?_
  refine lv_iload_n hx hb d_F_nearestEven_14 rfl (lv_at hl 3 rfl) ?_
  refine lv_lshl hx hb d_F_nearestEven_15 rfl ?_
  refine lv_topl (fun v15 e15 => ?_)
  refine lv_lstore (lv' := [(7, .long v15), (5, .long v10), (3, .long v2), (0, .long x), (2, .int i)]) hx hb d_F_nearestEven_16 hl (by decide) rfl (fun ls hl => ?_)
  obtain ⟨f2, f10, f15⟩ := ne_all hxs hs9 hi hk e2 e7 e8 e10 e15
  obtain ⟨cA, cB, cC⟩ := ne_cmp hs9 hk f2 f10 f15
  refine lv_lload hx hb d_F_nearestEven_18 (lv_at hl 1 rfl) ?_
  refine lv_lload hx hb d_F_nearestEven_20 (lv_at hl 0 rfl) ?_
  refine W.lcmp hx hb d_F_nearestEven_22 ?_
  refine lv_if_gt (tgt := 42) hx hb d_F_nearestEven_23 (by decide) (fun c23 => ?_) (fun c23 => ?_)
  · skip
    have c23 := (lg_cmp_gt _ _).mp c23
    refine lv_iconst (v := 1) hx hb d_F_nearestEven_42 (by decide) ?_
    refine lv_goto (tgt := 47) hx hb d_F_nearestEven_43 (by decide) ?_
    refine lv_istore (lv' := [(9, .int 1), (7, .long v15), (5, .long v10), (3, .long v2), (0, .long x), (2, .int i)]) hx hb d_F_nearestEven_47 hl (by decide) rfl (fun ls hl => ?_)
    refine lv_iload hx hb d_F_nearestEven_49 (lv_at hl 0 rfl) ?_
    refine lv_if_eq (tgt := 60) hx hb d_F_nearestEven_51 (by decide) (fun q => absurd q (by decide)) (fun _ => ?_)
    refine lv_lload_n hx hb d_F_nearestEven_54 rfl (lv_at hl 3 rfl) ?_
    refine lv_lconst (v := 1) hx hb d_F_nearestEven_55 (by decide) ?_
    refine lv_ladd hx hb d_F_nearestEven_56 ?_
    refine lv_topl (fun v56 e56 => ?_)
    refine lv_goto (tgt := 61) hx hb d_F_nearestEven_57 (by decide) ?_
    refine lv_l2i hx hb d_F_nearestEven_61 rfl ?_
    refine lv_topi (fun v61 e61 => ?_)
    refine W.iret (v := v61) hx hb hr (fun t ht hW => ⟨_, rfl, ?_, ht⟩) (fun _ h => by cases h) d_F_nearestEven_62
    show v61 = nI (sp_ne sv k)
    exact ne_yes f2 e56 e61 (by first | exact Or.inl (cA.mp c23) | exact Or.inr ⟨cB.mp c31, cC.mp (e36x.symm.trans c39)⟩)
  · skip
    have c23 := (not_congr (lg_cmp_gt _ _)).mp c23
    refine lv_lload hx hb d_F_nearestEven_26 (lv_at hl 1 rfl) ?_
    refine lv_lload hx hb d_F_nearestEven_28 (lv_at hl 0 rfl) ?_
    refine W.lcmp hx hb d_F_nearestEven_30 ?_
    refine lv_if_ne (tgt := 46) hx hb d_F_nearestEven_31 (by decide) (fun c31 => ?_) (fun c31 => ?_)
    · skip
      have c31 := (not_congr (lg_cmp_eq _ _)).mp c31
      refine lv_iconst (v := 0) hx hb d_F_nearestEven_46 (by decide) ?_
      refine lv_istore (lv' := [(9, .int 0), (7, .long v15), (5, .long v10), (3, .long v2), (0, .long x), (2, .int i)]) hx hb d_F_nearestEven_47 hl (by decide) rfl (fun ls hl => ?_)
      refine lv_iload hx hb d_F_nearestEven_49 (lv_at hl 0 rfl) ?_
      refine lv_if_eq (tgt := 60) hx hb d_F_nearestEven_51 (by decide) (fun _ => ?_) (fun q => absurd (by decide) q)
      refine lv_lload_n hx hb d_F_nearestEven_60 rfl (lv_at hl 3 rfl) ?_
      refine lv_l2i hx hb d_F_nearestEven_61 rfl ?_
      refine lv_topi (fun v61 e61 => ?_)
      refine W.iret (v := v61) hx hb hr (fun t ht hW => ⟨_, rfl, ?_, ht⟩) (fun _ h => by cases h) d_F_nearestEven_62
      show v61 = nI (sp_ne sv k)
      exact ne_no f2 e61 (fun q => by first | exact (q.elim (fun z => c23 (cA.mpr z)) (fun z => c31 (cB.mpr z.1))) | exact (q.elim (fun z => c23 (cA.mpr z)) (fun z => c39 (e36x.trans (cC.mpr z.2)))))
    · skip
      have c31 := (lg_cmp_eq _ _).mp c31
      refine lv_lload_n hx hb d_F_nearestEven_34 rfl (lv_at hl 2 rfl) ?_
      refine lv_lconst (v := 1) hx hb d_F_nearestEven_35 (by decide) ?_
      refine lv_land hx hb d_F_nearestEven_36 ?_
      refine lv_topl (fun v36 e36 => ?_)
      have e36x := e36
      refine lv_lconst (v := 1) hx hb d_F_nearestEven_37 (by decide) ?_
      refine W.lcmp hx hb d_F_nearestEven_38 ?_
      refine lv_if_ne (tgt := 46) hx hb d_F_nearestEven_39 (by decide) (fun c39 => ?_) (fun c39 => ?_)
      · skip
        have c39 := (not_congr (lg_cmp_eq _ _)).mp c39
        refine lv_iconst (v := 0) hx hb d_F_nearestEven_46 (by decide) ?_
        refine lv_istore (lv' := [(9, .int 0), (7, .long v15), (5, .long v10), (3, .long v2), (0, .long x), (2, .int i)]) hx hb d_F_nearestEven_47 hl (by decide) rfl (fun ls hl => ?_)
        refine lv_iload hx hb d_F_nearestEven_49 (lv_at hl 0 rfl) ?_
        refine lv_if_eq (tgt := 60) hx hb d_F_nearestEven_51 (by decide) (fun _ => ?_) (fun q => absurd (by decide) q)
        refine lv_lload_n hx hb d_F_nearestEven_60 rfl (lv_at hl 3 rfl) ?_
        refine lv_l2i hx hb d_F_nearestEven_61 rfl ?_
        refine lv_topi (fun v61 e61 => ?_)
        refine W.iret (v := v61) hx hb hr (fun t ht hW => ⟨_, rfl, ?_, ht⟩) (fun _ h => by cases h) d_F_nearestEven_62
        show v61 = nI (sp_ne sv k)
        exact ne_no f2 e61 (fun q => by first | exact (q.elim (fun z => c23 (cA.mpr z)) (fun z => c31 (cB.mpr z.1))) | exact (q.elim (fun z => c23 (cA.mpr z)) (fun z => c39 (e36x.trans (cC.mpr z.2)))))
      · skip
        have c39 := (lg_cmp_eq _ _).mp c39
        refine lv_iconst (v := 1) hx hb d_F_nearestEven_42 (by decide) ?_
        refine lv_goto (tgt := 47) hx hb d_F_nearestEven_43 (by decide) ?_
        refine lv_istore (lv' := [(9, .int 1), (7, .long v15), (5, .long v10), (3, .long v2), (0, .long x), (2, .int i)]) hx hb d_F_nearestEven_47 hl (by decide) rfl (fun ls hl => ?_)
        refine lv_iload hx hb d_F_nearestEven_49 (lv_at hl 0 rfl) ?_
        refine lv_if_eq (tgt := 60) hx hb d_F_nearestEven_51 (by decide) (fun q => absurd q (by decide)) (fun _ => ?_)
        refine lv_lload_n hx hb d_F_nearestEven_54 rfl (lv_at hl 3 rfl) ?_
        refine lv_lconst (v := 1) hx hb d_F_nearestEven_55 (by decide) ?_
        refine lv_ladd hx hb d_F_nearestEven_56 ?_
        refine lv_topl (fun v56 e56 => ?_)
        refine lv_goto (tgt := 61) hx hb d_F_nearestEven_57 (by decide) ?_
        refine lv_l2i hx hb d_F_nearestEven_61 rfl ?_
        refine lv_topi (fun v61 e61 => ?_)
        refine W.iret (v := v61) hx hb hr (fun t ht hW => ⟨_, rfl, ?_, ht⟩) (fun _ h => by cases h) d_F_nearestEven_62
        show v61 = nI (sp_ne sv k)
        exact ne_yes f2 e56 e61 (by first | exact Or.inl (cA.mp c23) | exact Or.inr ⟨cB.mp c31, cC.mp (e36x.symm.trans c39)⟩)
set_option maxHeartbeats 4000000 in
set_option maxRecDepth 100000 in
theorem c_F_product (l : Launch) (h0 : Nat) (a b : Int32)  : Met l y_F_product w_F_product ({ frames := 0, cells := 0, slots := 0, locals := 0 }) (fun v _ => v = [.ref h0, .int a, .int b].toArray) (vp_Si (fun r => r.toInt = (a.toInt * b.toInt / 65536).bmod (2 ^ 32))) 0 0 (fun _ => False) := by
  refine Met.ofW (cc := b_F_product) (maxL := 3) (ret := some .int) (by decide +kernel) rfl ?_
  intro p e s m args below meth c s₁ B hml hv
  subst hv
  have hx := B.exec
  have hb := B.bytes
  have hr := B.returns
  have hts := atoms_spec (ws := w_F_product) B.pre
  have hown : s.vm.findClass R_F = some m.cls := findClass_of_methodNamed B.named
  have hlocks := B.notSynchronized
  have hl := lv_entry ([.ref h0, .int a, .int b]) (n := 3) (Nat.le_of_ble_eq_true rfl)
  rw [lg_entry_eq]
  generalize (lg_sl ([.ref h0, .int a, .int b]) ++ List.replicate (3 - (lg_sl ([.ref h0, .int a, .int b])).length) Slot.unset).toArray = ls at hl ⊢
  have hl : lv_has ls 3 [(0, .ref h0), (1, .int a), (2, .int b)] := hl
  refine lv_iload_n hx hb d_F_product_0 rfl (lv_at hl 1 rfl) ?_
  refine lv_i2l hx hb d_F_product_1 rfl ?_
  refine lv_topl (fun v1 e1 => ?_)
  refine lv_iload_n hx hb d_F_product_2 rfl (lv_at hl 2 rfl) ?_
  refine lv_i2l hx hb d_F_product_3 rfl ?_
  refine lv_topl (fun v3 e3 => ?_)
  refine lv_lmul hx hb d_F_product_4 ?_
  refine lv_topl (fun v4 e4 => ?_)
  refine lv_bipush (v := 16) hx hb d_F_product_5 (by decide) ?_
  refine lv_lshr hx hb d_F_product_7 rfl ?_
  refine lv_topl (fun v7 e7 => ?_)
  refine lv_l2i hx hb d_F_product_8 rfl ?_
  refine lv_topi (fun v8 e8 => ?_)
  refine W.iret (v := v8) hx hb hr (fun t ht hW => ⟨_, rfl, ?_, ht⟩) (fun _ h => by cases h) d_F_product_9
  show v8.toInt = (a.toInt * b.toInt / 65536).bmod (2 ^ 32)
  exact by subst e8 e7 e4 e3 e1; exact fx_product a b
set_option maxHeartbeats 4000000 in
set_option maxRecDepth 100000 in
theorem c_J_floorDiv (l : Launch) (x y : Int64) (hy : y.toInt ≠ 0) (hx9 : -9223372036854775808 < x.toInt) : Met l y_J_floorDiv w_J_floorDiv ({ frames := 0, cells := 0, slots := 0, locals := 0 }) (fun v _ => v = [.long x, .long y].toArray) (vp_Sl (fun r => r.toInt = x.toInt.fdiv y.toInt)) 0 0 (fun _ => False) := by
  refine va_MetF (cc := b_J_floorDiv) (maxL := 6) (ret := some .long) (by decide +kernel) rfl ?_
  intro p e s m args below meth c s₁ B hml hv
  subst hv
  have hx := B.exec
  have hb := B.bytes
  have hr := B.returns
  have hts := atoms_spec (ws := w_J_floorDiv) B.pre
  have hown : s.vm.findClass R_J = some m.cls := findClass_of_methodNamed B.named
  have hlocks := B.notSynchronized
  have hl := lv_entry ([.long x, .long y]) (n := 6) (Nat.le_of_ble_eq_true rfl)
  rw [lg_entry_eq]
  generalize (lg_sl ([.long x, .long y]) ++ List.replicate (6 - (lg_sl ([.long x, .long y])).length) Slot.unset).toArray = ls at hl ⊢
  have hl : lv_has ls 6 [(0, .long x), (2, .long y)] := hl
  refine lv_lload_n hx hb d_J_floorDiv_0 rfl (lv_at hl 0 rfl) ?_
  refine lv_lload_n hx hb d_J_floorDiv_1 rfl (lv_at hl 1 rfl) ?_
  refine lv_ldiv hx hb d_J_floorDiv_2 (fun q => hy (by rw [q]; decide)) ?_
  refine lv_topl (fun v2 e2 => ?_)
  refine lv_lstore (lv' := [(4, .long v2), (0, .long x), (2, .long y)]) hx hb d_J_floorDiv_3 hl (by decide) rfl (fun ls hl => ?_)
  refine lv_lload_n hx hb d_J_floorDiv_5 rfl (lv_at hl 1 rfl) ?_
  refine lv_lload_n hx hb d_J_floorDiv_6 rfl (lv_at hl 2 rfl) ?_
  refine lv_lxor hx hb d_J_floorDiv_7 ?_
  refine lv_topl (fun v7 e7 => ?_)
  refine lv_lconst (v := 0) hx hb d_J_floorDiv_8 (by decide) ?_
  refine W.lcmp hx hb d_J_floorDiv_9 ?_
  refine lv_if_ge (tgt := 27) hx hb d_J_floorDiv_10 (by decide) (fun c10 => ?_) (fun c10 => ?_)
  · skip
    have c10 := (lg_cmp_ge _ _).mp c10
    refine lv_lload hx hb d_J_floorDiv_27 (lv_at hl 0 rfl) ?_
    refine W.lret (v := v2) hx hb hr (fun t ht hW => ⟨_, rfl, ?_, ht⟩) (fun _ h => by cases h) d_J_floorDiv_29
    show v2.toInt = x.toInt.fdiv y.toInt
    exact fx_fd1 x y v2 hy hx9 e2 (by first | exact Or.inl (by rw [← e7]; exact Int64.not_lt.mpr c10) | exact Or.inr (e16.symm.trans c19))
  · skip
    have c10 := (not_congr (lg_cmp_ge _ _)).mp c10
    refine lv_lload hx hb d_J_floorDiv_13 (lv_at hl 0 rfl) ?_
    refine lv_lload_n hx hb d_J_floorDiv_15 rfl (lv_at hl 2 rfl) ?_
    refine lv_lmul hx hb d_J_floorDiv_16 ?_
    refine lv_topl (fun v16 e16 => ?_)
    refine lv_lload_n hx hb d_J_floorDiv_17 rfl (lv_at hl 1 rfl) ?_
    refine W.lcmp hx hb d_J_floorDiv_18 ?_
    refine lv_if_eq (tgt := 27) hx hb d_J_floorDiv_19 (by decide) (fun c19 => ?_) (fun c19 => ?_)
    · skip
      have c19 := (lg_cmp_eq _ _).mp c19
      refine lv_lload hx hb d_J_floorDiv_27 (lv_at hl 0 rfl) ?_
      refine W.lret (v := v2) hx hb hr (fun t ht hW => ⟨_, rfl, ?_, ht⟩) (fun _ h => by cases h) d_J_floorDiv_29
      show v2.toInt = x.toInt.fdiv y.toInt
      exact fx_fd1 x y v2 hy hx9 e2 (by first | exact Or.inl (by rw [← e7]; exact Int64.not_lt.mpr c10) | exact Or.inr (e16.symm.trans c19))
    · skip
      have c19 := (not_congr (lg_cmp_eq _ _)).mp c19
      refine lv_lload hx hb d_J_floorDiv_22 (lv_at hl 0 rfl) ?_
      refine lv_lconst (v := 1) hx hb d_J_floorDiv_24 (by decide) ?_
      refine lv_lsub hx hb d_J_floorDiv_25 ?_
      refine lv_topl (fun v25 e25 => ?_)
      refine W.lret (v := v25) hx hb hr (fun t ht hW => ⟨_, rfl, ?_, ht⟩) (fun _ h => by cases h) d_J_floorDiv_26
      show v25.toInt = x.toInt.fdiv y.toInt
      exact fx_fd2 x y v2 v25 v16 hy hx9 e2 (by rw [← e7]; exact Int64.not_le.mp c10) e16 c19 e25
set_option maxHeartbeats 4000000 in
set_option maxRecDepth 100000 in
theorem c_F_quotient (l : Launch) (h0 : Nat) (a b : Int32)  : Met l y_F_quotient w_F_quotient ({ frames := 2, cells := 0, slots := 0, locals := 60 }) (fun v _ => v = [.ref h0, .int a, .int b].toArray) (vp_Si (fun r => r.toInt = sp_quot a.toInt b.toInt)) 0 0 (fun _ => False) := by
  refine Met.ofW (cc := b_F_quotient) (maxL := 3) (ret := some .int) (by decide +kernel) rfl ?_
  intro p e s m args below meth c s₁ B hml hv
  subst hv
  have hx := B.exec
  have hb := B.bytes
  have hr := B.returns
  have hts := atoms_spec (ws := w_F_quotient) B.pre
  have hown : s.vm.findClass R_F = some m.cls := findClass_of_methodNamed B.named
  have hlocks := B.notSynchronized
  have hl := lv_entry ([.ref h0, .int a, .int b]) (n := 3) (Nat.le_of_ble_eq_true rfl)
  rw [lg_entry_eq]
  generalize (lg_sl ([.ref h0, .int a, .int b]) ++ List.replicate (3 - (lg_sl ([.ref h0, .int a, .int b])).length) Slot.unset).toArray = ls at hl ⊢
  have hl : lv_has ls 3 [(0, .ref h0), (1, .int a), (2, .int b)] := hl
  refine lv_iload_n hx hb d_F_quotient_0 rfl (lv_at hl 2 rfl) ?_
  refine lv_if_ne (tgt := 24) hx hb d_F_quotient_1 (by decide) (fun c1 => ?_) (fun c1 => ?_)
  · skip
    refine lv_ldc2 (v := 65536) hx hb hown (hts (.constantLong R_F 11 65536) (List.mem_cons_of_mem _ (tm (by decide +kernel) rfl))) d_F_quotient_24 ?_
    refine lv_iload_n hx hb d_F_quotient_27 rfl (lv_at hl 1 rfl) ?_
    refine lv_i2l hx hb d_F_quotient_28 rfl ?_
    refine lv_topl (fun v28 e28 => ?_)
    refine lv_lmul hx hb d_F_quotient_29 ?_
    refine lv_topl (fun v29 e29 => ?_)
    refine lv_iload_n hx hb d_F_quotient_30 rfl (lv_at hl 2 rfl) ?_
    refine lv_i2l hx hb d_F_quotient_31 rfl ?_
    refine lv_topl (fun v31 e31 => ?_)
    refine vp_callSl (W.runS (As := [.long v29, .long v31]) (rest := []) ⟨hx, hb, hml, hown, hts⟩ (c_J_floorDiv l v29 v31 (by rw [e31]; exact fx_ne0 b c1) (by rw [fx_l16 a v29 (by rw [e29, e28])]; have := fx_i32 a; omega)) (va_cwS 2 hts g_F_13 rfl rfl rfl (by decide +kernel) ⟨Nat.le_of_ble_eq_true rfl, Nat.le_of_ble_eq_true rfl⟩) preEq rfl rfl hl.1 rfl (lv_room (Nat.le_of_ble_eq_true rfl)) d_F_quotient_32 ⟨Nat.zero_le _, Nat.zero_le _⟩) (fun v32 e32 => ?_)
    try dsimp only at e32
    refine vp_callSi (W.runS (As := [.long v32]) (rest := []) ⟨hx, hb, hml, hown, hts⟩ (c_F_cut l v32 ) (cwS 1 hts g_F_19 rfl rfl rfl (by decide +kernel) ⟨Nat.le_of_ble_eq_true rfl, Nat.le_of_ble_eq_true rfl⟩) preEq rfl rfl hl.1 rfl (lv_room (Nat.le_of_ble_eq_true rfl)) d_F_quotient_35 ⟨Nat.zero_le _, Nat.zero_le _⟩) (fun v35 e35 => ?_)
    try dsimp only at e35
    refine W.iret (v := v35) hx hb hr (fun t ht hW => ⟨_, rfl, ?_, ht⟩) (fun _ h => by cases h) d_F_quotient_38
    show v35.toInt = sp_quot a.toInt b.toInt
    exact fx_q1 a b v35 v29 v31 v32 c1 (by rw [e29, e28]) e31 e32 e35
  · skip
    refine lv_iload_n hx hb d_F_quotient_4 rfl (lv_at hl 1 rfl) ?_
    refine lv_if_le (tgt := 13) hx hb d_F_quotient_5 (by decide) (fun c5 => ?_) (fun c5 => ?_)
    · skip
      refine lv_iload_n hx hb d_F_quotient_13 rfl (lv_at hl 1 rfl) ?_
      refine lv_if_ge (tgt := 22) hx hb d_F_quotient_14 (by decide) (fun c14 => ?_) (fun c14 => ?_)
      · skip
        refine lv_iconst (v := 0) hx hb d_F_quotient_22 (by decide) ?_
        refine W.iret (v := 0) hx hb hr (fun t ht hW => ⟨_, rfl, ?_, ht⟩) (fun _ h => by cases h) d_F_quotient_23
        show (0 : Int32).toInt = sp_quot a.toInt b.toInt
        exact fx_q00 a b c1 c5 c14
      · skip
        refine lv_ldc (v := (-2147483648)) hx hb hown (hts (.constant R_F 10 (-2147483648)) (List.mem_cons_of_mem _ (tm (by decide +kernel) rfl))) d_F_quotient_17 ?_
        refine lv_goto (tgt := 23) hx hb d_F_quotient_19 (by decide) ?_
        refine W.iret (v := (-2147483648)) hx hb hr (fun t ht hW => ⟨_, rfl, ?_, ht⟩) (fun _ h => by cases h) d_F_quotient_23
        show (-2147483648 : Int32).toInt = sp_quot a.toInt b.toInt
        exact fx_q0n a b c1 c14
    · skip
      refine lv_ldc (v := 2147483647) hx hb hown (hts (.constant R_F 9 2147483647) (List.mem_cons_of_mem _ (tm (by decide +kernel) rfl))) d_F_quotient_8 ?_
      refine lv_goto (tgt := 23) hx hb d_F_quotient_10 (by decide) ?_
      refine W.iret (v := 2147483647) hx hb hr (fun t ht hW => ⟨_, rfl, ?_, ht⟩) (fun _ h => by cases h) d_F_quotient_23
      show (2147483647 : Int32).toInt = sp_quot a.toInt b.toInt
      exact fx_q0p a b c1 c5
set_option maxHeartbeats 4000000 in
set_option maxRecDepth 100000 in
theorem c_F_root (l : Launch) (h0 : Nat) (a : Int32)  : Met l y_F_root w_F_root ({ frames := 1, cells := 0, slots := 0, locals := 30 }) (fun v _ => v = [.ref h0, .int a].toArray) (vp_Si (fun r => sp_root a.toInt r.toInt)) 0 0 (fun _ => False) := by
  refine Met.ofW (cc := b_F_root) (maxL := 2) (ret := some .int) (by decide +kernel) rfl ?_
  intro p e s m args below meth c s₁ B hml hv
  subst hv
  have hx := B.exec
  have hb := B.bytes
  have hr := B.returns
  have hts := atoms_spec (ws := w_F_root) B.pre
  have hown : s.vm.findClass R_F = some m.cls := findClass_of_methodNamed B.named
  have hlocks := B.notSynchronized
  have hl := lv_entry ([.ref h0, .int a]) (n := 2) (Nat.le_of_ble_eq_true rfl)
  rw [lg_entry_eq]
  generalize (lg_sl ([.ref h0, .int a]) ++ List.replicate (2 - (lg_sl ([.ref h0, .int a])).length) Slot.unset).toArray = ls at hl ⊢
  have hl : lv_has ls 2 [(0, .ref h0), (1, .int a)] := hl
  refine lv_iload_n hx hb d_F_root_0 rfl (lv_at hl 1 rfl) ?_
  refine lv_if_ge (tgt := 6) hx hb d_F_root_1 (by decide) (fun c1 => ?_) (fun c1 => ?_)
  · skip
    refine lv_ldc2 (v := 65536) hx hb hown (hts (.constantLong R_F 11 65536) (List.mem_cons_of_mem _ (tm (by decide +kernel) rfl))) d_F_root_6 ?_
    refine lv_iload_n hx hb d_F_root_9 rfl (lv_at hl 1 rfl) ?_
    refine lv_i2l hx hb d_F_root_10 rfl ?_
    refine lv_topl (fun v10 e10 => ?_)
    refine lv_lmul hx hb d_F_root_11 ?_
    refine lv_topl (fun v11 e11 => ?_)
    refine vp_callSi (W.runS (As := [.long v11]) (rest := []) ⟨hx, hb, hml, hown, hts⟩ (c_F_wholeRoot l v11 (fx_rootb a v11 c1 (by rw [e11, e10])).1 (fx_rootb a v11 c1 (by rw [e11, e10])).2) (cwS 1 hts g_F_23 rfl rfl rfl (by decide +kernel) ⟨Nat.le_of_ble_eq_true rfl, Nat.le_of_ble_eq_true rfl⟩) preEq rfl rfl hl.1 rfl (lv_room (Nat.le_of_ble_eq_true rfl)) d_F_root_12 ⟨Nat.zero_le _, Nat.zero_le _⟩) (fun v12 e12 => ?_)
    try dsimp only at e12
    refine W.iret (v := v12) hx hb hr (fun t ht hW => ⟨_, rfl, ?_, ht⟩) (fun _ h => by cases h) d_F_root_15
    show sp_root a.toInt v12.toInt
    exact fx_root1 a v12 v11 c1 (by rw [e11, e10]) e12
  · skip
    refine lv_iconst (v := 0) hx hb d_F_root_4 (by decide) ?_
    refine W.iret (v := 0) hx hb hr (fun t ht hW => ⟨_, rfl, ?_, ht⟩) (fun _ h => by cases h) d_F_root_5
    show sp_root a.toInt (0 : Int32).toInt
    exact fx_root0 a c1
set_option maxHeartbeats 4000000 in
set_option maxRecDepth 100000 in
theorem c_F_oneByRoot (l : Launch) (h0 : Nat) (a : Int32)  : Met l y_F_oneByRoot w_F_oneByRoot ({ frames := 1, cells := 0, slots := 0, locals := 30 }) (fun v _ => v = [.ref h0, .int a].toArray) (vp_Si (fun r => sp_obr a.toInt r.toInt)) 0 0 (fun _ => False) := by
  refine Met.ofW (cc := b_F_oneByRoot) (maxL := 2) (ret := some .int) (by decide +kernel) rfl ?_
  intro p e s m args below meth c s₁ B hml hv
  subst hv
  have hx := B.exec
  have hb := B.bytes
  have hr := B.returns
  have hts := atoms_spec (ws := w_F_oneByRoot) B.pre
  have hown : s.vm.findClass R_F = some m.cls := findClass_of_methodNamed B.named
  have hlocks := B.notSynchronized
  have hl := lv_entry ([.ref h0, .int a]) (n := 2) (Nat.le_of_ble_eq_true rfl)
  rw [lg_entry_eq]
  generalize (lg_sl ([.ref h0, .int a]) ++ List.replicate (2 - (lg_sl ([.ref h0, .int a])).length) Slot.unset).toArray = ls at hl ⊢
  have hl : lv_has ls 2 [(0, .ref h0), (1, .int a)] := hl
  refine lv_iload_n hx hb d_F_oneByRoot_0 rfl (lv_at hl 1 rfl) ?_
  refine lv_if_gt (tgt := 7) hx hb d_F_oneByRoot_1 (by decide) (fun c1 => ?_) (fun c1 => ?_)
  · skip
    refine lv_ldc2 (v := 281474976710656) hx hb hown (hts (.constantLong R_F 26 281474976710656) (List.mem_cons_of_mem _ (tm (by decide +kernel) rfl))) d_F_oneByRoot_7 ?_
    refine lv_iload_n hx hb d_F_oneByRoot_10 rfl (lv_at hl 1 rfl) ?_
    refine lv_i2l hx hb d_F_oneByRoot_11 rfl ?_
    refine lv_topl (fun v11 e11 => ?_)
    refine lv_ldiv hx hb d_F_oneByRoot_12 (fx_obrz a v11 c1 e11) ?_
    refine lv_topl (fun v12 e12 => ?_)
    refine vp_callSi (W.runS (As := [.long v12]) (rest := []) ⟨hx, hb, hml, hown, hts⟩ (c_F_wholeRoot l v12 (fx_obrb a v12 v11 c1 e11 e12).1 (fx_obrb a v12 v11 c1 e11 e12).2) (cwS 1 hts g_F_23 rfl rfl rfl (by decide +kernel) ⟨Nat.le_of_ble_eq_true rfl, Nat.le_of_ble_eq_true rfl⟩) preEq rfl rfl hl.1 rfl (lv_room (Nat.le_of_ble_eq_true rfl)) d_F_oneByRoot_13 ⟨Nat.zero_le _, Nat.zero_le _⟩) (fun v13 e13 => ?_)
    try dsimp only at e13
    refine W.iret (v := v13) hx hb hr (fun t ht hW => ⟨_, rfl, ?_, ht⟩) (fun _ h => by cases h) d_F_oneByRoot_16
    show sp_obr a.toInt v13.toInt
    exact fx_obr1 a v13 v12 v11 c1 e11 e12 e13
  · skip
    refine lv_ldc (v := 2147483647) hx hb hown (hts (.constant R_F 9 2147483647) (List.mem_cons_of_mem _ (tm (by decide +kernel) rfl))) d_F_oneByRoot_4 ?_
    refine W.iret (v := 2147483647) hx hb hr (fun t ht hW => ⟨_, rfl, ?_, ht⟩) (fun _ h => by cases h) d_F_oneByRoot_6
    show sp_obr a.toInt (2147483647 : Int32).toInt
    exact fx_obr0 a c1
set_option maxHeartbeats 4000000 in
set_option maxRecDepth 100000 in
theorem c_F_channel (l : Launch) (h0 : Nat) (a : Int32)  : Met l y_F_channel w_F_channel ({ frames := 1, cells := 0, slots := 0, locals := 23 }) (fun v _ => v = [.ref h0, .int a].toArray) (vp_Si (fun r => r.toInt = sp_chan a.toInt)) 0 0 (fun _ => False) := by
  refine Met.ofW (cc := b_F_channel) (maxL := 3) (ret := some .int) (by decide +kernel) rfl ?_
  intro p e s m args below meth c s₁ B hml hv
  subst hv
  have hx := B.exec
  have hb := B.bytes
  have hr := B.returns
  have hts := atoms_spec (ws := w_F_channel) B.pre
  have hown : s.vm.findClass R_F = some m.cls := findClass_of_methodNamed B.named
  have hlocks := B.notSynchronized
  have hl := lv_entry ([.ref h0, .int a]) (n := 3) (Nat.le_of_ble_eq_true rfl)
  rw [lg_entry_eq]
  generalize (lg_sl ([.ref h0, .int a]) ++ List.replicate (3 - (lg_sl ([.ref h0, .int a])).length) Slot.unset).toArray = ls at hl ⊢
  have hl : lv_has ls 3 [(0, .ref h0), (1, .int a)] := hl
  refine lv_iconst (v := 0) hx hb d_F_channel_0 (by decide) ?_
  refine lv_iload_n hx hb d_F_channel_1 rfl (lv_at hl 1 rfl) ?_
  refine lv_ldc (v := 65536) hx hb hown (hts (.constant R_F 67 65536) (List.mem_cons_of_mem _ (tm (by decide +kernel) rfl))) d_F_channel_2 ?_
  refine va_mmin hx hb (hml.trans hl.1.symm) hown (hts (.methodLink R_F 68 Lib.Math.min.name) (List.mem_cons_of_mem _ (tm (by decide +kernel) rfl))) (hts (.static Lib.Math.min.name) (List.mem_cons_of_mem _ (tm (by decide +kernel) rfl))) (hts (.initialized "java/lang/Math") (List.mem_cons_of_mem _ (tm (by decide +kernel) rfl))) (hts _ (List.mem_cons_of_mem _ (tm ic_J_minI rfl))) (Nat.le_of_ble_eq_true rfl) (Nat.le_of_ble_eq_true rfl) (Nat.zero_le _) (Nat.zero_le _) d_F_channel_4 ?_
  refine lv_topi (fun v4 e4 => ?_)
  refine va_mmax hx hb (hml.trans hl.1.symm) hown (hts (.methodLink R_F 72 Lib.Math.max.name) (List.mem_cons_of_mem _ (tm (by decide +kernel) rfl))) (hts (.static Lib.Math.max.name) (List.mem_cons_of_mem _ (tm (by decide +kernel) rfl))) (hts (.initialized "java/lang/Math") (List.mem_cons_of_mem _ (tm (by decide +kernel) rfl))) (hts _ (List.mem_cons_of_mem _ (tm ic_J_maxI rfl))) (Nat.le_of_ble_eq_true rfl) (Nat.le_of_ble_eq_true rfl) (Nat.zero_le _) (Nat.zero_le _) d_F_channel_7 ?_
  refine lv_topi (fun v7 e7 => ?_)
  refine lv_istore_n (lv' := [(2, .int v7), (0, .ref h0), (1, .int a)]) hx hb d_F_channel_10 rfl hl (by decide) rfl (fun ls hl => ?_)
  refine lv_sipush (v := 255) hx hb d_F_channel_11 (by decide) ?_
  refine lv_iload_n hx hb d_F_channel_14 rfl (lv_at hl 0 rfl) ?_
  refine lv_imul hx hb d_F_channel_15 ?_
  refine lv_topi (fun v15 e15 => ?_)
  refine lv_ldc (v := 32768) hx hb hown (hts (.constant R_F 75 32768) (List.mem_cons_of_mem _ (tm (by decide +kernel) rfl))) d_F_channel_16 ?_
  refine lv_iadd hx hb d_F_channel_18 ?_
  refine lv_topi (fun v18 e18 => ?_)
  refine lv_bipush (v := 16) hx hb d_F_channel_19 (by decide) ?_
  refine lv_ishr hx hb d_F_channel_21 ?_
  refine lv_topi (fun v21 e21 => ?_)
  refine W.iret (v := v21) hx hb hr (fun t ht hW => ⟨_, rfl, ?_, ht⟩) (fun _ h => by cases h) d_F_channel_22
  show v21.toInt = sp_chan a.toInt
  exact fx_chan a v4 v7 v15 v18 v21 e4 e7 e15 e18 e21
set_option maxHeartbeats 4000000 in
set_option maxRecDepth 100000 in
theorem c_F_fromHalf (l : Launch) (h0 : Nat) (h : Int32)  : Met l y_F_fromHalf w_F_fromHalf ({ frames := 2, cells := 0, slots := 0, locals := 60 }) (fun v _ => v = [.ref h0, .int h].toArray) (vp_Si (fun r => r.toInt = sp_fh h.toBitVec.toNat)) 0 0 (fun _ => False) := by
  refine Met.ofW (cc := b_F_fromHalf) (maxL := 10) (ret := some .int) (by decide +kernel) rfl ?_
  intro p e s m args below meth c s₁ B hml hv
  subst hv
  have hx := B.exec
  have hb := B.bytes
  have hr := B.returns
  have hts := atoms_spec (ws := w_F_fromHalf) B.pre
  have hown : s.vm.findClass R_F = some m.cls := findClass_of_methodNamed B.named
  have hlocks := B.notSynchronized
  have hl := lv_entry ([.ref h0, .int h]) (n := 10) (Nat.le_of_ble_eq_true rfl)
  rw [lg_entry_eq]
  generalize (lg_sl ([.ref h0, .int h]) ++ List.replicate (10 - (lg_sl ([.ref h0, .int h])).length) Slot.unset).toArray = ls at hl ⊢
  have hl : lv_has ls 10 [(0, .ref h0), (1, .int h)] := hl
  refine lv_iload_n hx hb d_F_fromHalf_0 rfl (lv_at hl 1 rfl) ?_
  refine lv_ldc (v := 32768) hx hb hown (hts (.constant R_F 75 32768) (List.mem_cons_of_mem _ (tm (by decide +kernel) rfl))) d_F_fromHalf_1 ?_
  refine lv_iand hx hb d_F_fromHalf_3 ?_
  refine lv_topi (fun v3 e3 => ?_)
  refine jn_i (J := 12) (rest := []) (fun v => v = if v3 = 0 then 0 else 1) (fun v12 e12 => ?_) (fun K12 => ?_)
  · skip
    refine lv_istore_n (lv' := [(2, .int v12), (0, .ref h0), (1, .int h)]) hx hb d_F_fromHalf_12 rfl hl (by decide) rfl (fun ls hl => ?_)
    have f12 := fh_s12 (fh_s h v3 e3) e12
    refine lv_iload_n hx hb d_F_fromHalf_13 rfl (lv_at hl 2 rfl) ?_
    refine lv_bipush (v := 10) hx hb d_F_fromHalf_14 (by decide) ?_
    refine lv_ishr hx hb d_F_fromHalf_16 ?_
    refine lv_topi (fun v16 e16 => ?_)
    refine lv_bipush (v := 31) hx hb d_F_fromHalf_17 (by decide) ?_
    refine lv_iand hx hb d_F_fromHalf_19 ?_
    refine lv_topi (fun v19 e19 => ?_)
    have f19 := fh_e h v16 v19 e16 e19
    refine lv_istore_n (lv' := [(3, .int v19), (2, .int v12), (0, .ref h0), (1, .int h)]) hx hb d_F_fromHalf_20 rfl hl (by decide) rfl (fun ls hl => ?_)
    refine lv_iload_n hx hb d_F_fromHalf_21 rfl (lv_at hl 3 rfl) ?_
    refine lv_sipush (v := 1023) hx hb d_F_fromHalf_22 (by decide) ?_
    refine lv_iand hx hb d_F_fromHalf_25 ?_
    refine lv_topi (fun v25 e25 => ?_)
    refine lv_istore (lv' := [(4, .int v25), (3, .int v19), (2, .int v12), (0, .ref h0), (1, .int h)]) hx hb d_F_fromHalf_26 hl (by decide) rfl (fun ls hl => ?_)
    have f25 := fh_f h v25 e25
    refine lv_iload_n hx hb d_F_fromHalf_28 rfl (lv_at hl 1 rfl) ?_
    refine lv_bipush (v := 31) hx hb d_F_fromHalf_29 (by decide) ?_
    refine lv_icmp_ne (tgt := 55) hx hb d_F_fromHalf_31 (by decide) (fun c31 => ?_) (fun c31 => ?_)
    · skip
      refine lv_iload_n hx hb d_F_fromHalf_55 rfl (lv_at hl 1 rfl) ?_
      refine jn_l (J := 72) (rest := []) (fun v => v.toInt = (sp_hD h.toBitVec.toNat : Int)) (fun v72 e72 => ?_) (fun K72 => ?_)
      · skip
        refine lv_lstore (lv' := [(5, .long v72), (4, .int v25), (3, .int v19), (2, .int v12), (0, .ref h0), (1, .int h)]) hx hb d_F_fromHalf_72 hl (by decide) rfl (fun ls hl => ?_)
        refine lv_iload_n hx hb d_F_fromHalf_74 rfl (lv_at hl 2 rfl) ?_
        refine lv_iconst (v := 1) hx hb d_F_fromHalf_75 (by decide) ?_
        refine va_mmax hx hb (hml.trans hl.1.symm) hown (hts (.methodLink R_F 72 Lib.Math.max.name) (List.mem_cons_of_mem _ (tm (by decide +kernel) rfl))) (hts (.static Lib.Math.max.name) (List.mem_cons_of_mem _ (tm (by decide +kernel) rfl))) (hts (.initialized "java/lang/Math") (List.mem_cons_of_mem _ (tm (by decide +kernel) rfl))) (hts _ (List.mem_cons_of_mem _ (tm ic_J_maxI rfl))) (Nat.le_of_ble_eq_true rfl) (Nat.le_of_ble_eq_true rfl) (Nat.zero_le _) (Nat.zero_le _) d_F_fromHalf_76 ?_
        refine lv_topi (fun v76 e76 => ?_)
        have f76 := fh_st f19 e76
        refine lv_istore (lv' := [(7, .int v76), (5, .long v72), (4, .int v25), (3, .int v19), (2, .int v12), (0, .ref h0), (1, .int h)]) hx hb d_F_fromHalf_79 hl (by decide) rfl (fun ls hl => ?_)
        refine lv_iload_n hx hb d_F_fromHalf_81 rfl (lv_at hl 4 rfl) ?_
        refine jn_l (J := 93) (rest := []) (fun v => v.toInt = sp_hZ h.toBitVec.toNat) (fun v93 e93 => ?_) (fun K93 => ?_)
        · skip
          refine lv_lstore (lv' := [(8, .long v93), (7, .int v76), (5, .long v72), (4, .int v25), (3, .int v19), (2, .int v12), (0, .ref h0), (1, .int h)]) hx hb d_F_fromHalf_93 hl (by decide) rfl (fun ls hl => ?_)
          refine lv_iload hx hb d_F_fromHalf_95 (lv_at hl 1 rfl) ?_
          refine lv_bipush (v := 9) hx hb d_F_fromHalf_97 (by decide) ?_
          refine lv_icmp_lt (tgt := 113) hx hb d_F_fromHalf_99 (by decide) (fun c99 => ?_) (fun c99 => ?_)
          · skip
            refine lv_lload hx hb d_F_fromHalf_113 (lv_at hl 0 rfl) ?_
            refine lv_bipush (v := 9) hx hb d_F_fromHalf_115 (by decide) ?_
            refine lv_iload hx hb d_F_fromHalf_117 (lv_at hl 1 rfl) ?_
            refine lv_isub hx hb d_F_fromHalf_119 ?_
            refine lv_topi (fun v119 e119 => ?_)
            refine lv_lshr hx hb d_F_fromHalf_120 rfl ?_
            refine lv_topl (fun v120 e120 => ?_)
            refine vp_callSi (W.runS (As := [.long v120]) (rest := []) ⟨hx, hb, hml, hown, hts⟩ (c_F_cut l v120 ) (cwS 1 hts g_F_19 rfl rfl rfl (by decide +kernel) ⟨Nat.le_of_ble_eq_true rfl, Nat.le_of_ble_eq_true rfl⟩) preEq rfl rfl hl.1 rfl (lv_room (Nat.le_of_ble_eq_true rfl)) d_F_fromHalf_121 ⟨Nat.zero_le _, Nat.zero_le _⟩) (fun v121 e121 => ?_)
            try dsimp only at e121
            refine W.iret (v := v121) hx hb hr (fun t ht hW => ⟨_, rfl, ?_, ht⟩) (fun _ h => by cases h) d_F_fromHalf_124
            show v121.toInt = sp_fh h.toBitVec.toNat
            exact by rw [e121, sp_fh, if_neg (fun z => c31 ((fh_31 f19).mpr z)), sp_cut]; first | rw [fh_hi f76 (by omega) c99 e93 (fh_Zb _) e108 e109] | rw [fh_lo f76 (by omega) c99 e93 e119 e120]
          · skip
            refine lv_lload hx hb d_F_fromHalf_102 (lv_at hl 0 rfl) ?_
            refine lv_iload hx hb d_F_fromHalf_104 (lv_at hl 1 rfl) ?_
            refine lv_bipush (v := 9) hx hb d_F_fromHalf_106 (by decide) ?_
            refine lv_isub hx hb d_F_fromHalf_108 ?_
            refine lv_topi (fun v108 e108 => ?_)
            refine lv_lshl hx hb d_F_fromHalf_109 rfl ?_
            refine lv_topl (fun v109 e109 => ?_)
            refine lv_goto (tgt := 121) hx hb d_F_fromHalf_110 (by decide) ?_
            refine vp_callSi (W.runS (As := [.long v109]) (rest := []) ⟨hx, hb, hml, hown, hts⟩ (c_F_cut l v109 ) (cwS 1 hts g_F_19 rfl rfl rfl (by decide +kernel) ⟨Nat.le_of_ble_eq_true rfl, Nat.le_of_ble_eq_true rfl⟩) preEq rfl rfl hl.1 rfl (lv_room (Nat.le_of_ble_eq_true rfl)) d_F_fromHalf_121 ⟨Nat.zero_le _, Nat.zero_le _⟩) (fun v121 e121 => ?_)
            try dsimp only at e121
            refine W.iret (v := v121) hx hb hr (fun t ht hW => ⟨_, rfl, ?_, ht⟩) (fun _ h => by cases h) d_F_fromHalf_124
            show v121.toInt = sp_fh h.toBitVec.toNat
            exact by rw [e121, sp_fh, if_neg (fun z => c31 ((fh_31 f19).mpr z)), sp_cut]; first | rw [fh_hi f76 (by omega) c99 e93 (fh_Zb _) e108 e109] | rw [fh_lo f76 (by omega) c99 e93 e119 e120]
        · skip
          refine lv_if_eq (tgt := 91) hx hb d_F_fromHalf_82 (by decide) (fun c82 => ?_) (fun c82 => ?_)
          · skip
            refine lv_lload hx hb d_F_fromHalf_91 (lv_at hl 1 rfl) ?_
            exact K93 _ (by first | exact fh_Z f12 e72 c82 rfl | exact fh_Zn f12 e72 c82 e87)
          · skip
            refine lv_lload hx hb d_F_fromHalf_85 (lv_at hl 1 rfl) ?_
            refine lv_lneg hx hb d_F_fromHalf_87 ?_
            refine lv_topl (fun v87 e87 => ?_)
            refine lv_goto (tgt := 93) hx hb d_F_fromHalf_88 (by decide) ?_
            exact K93 _ (by first | exact fh_Z f12 e72 c82 rfl | exact fh_Zn f12 e72 c82 e87)
      · skip
        refine lv_if_ne (tgt := 65) hx hb d_F_fromHalf_56 (by decide) (fun c56 => ?_) (fun c56 => ?_)
        · skip
          refine lv_sipush (v := 1024) hx hb d_F_fromHalf_65 (by decide) ?_
          refine lv_iload hx hb d_F_fromHalf_68 (lv_at hl 0 rfl) ?_
          refine lv_iadd hx hb d_F_fromHalf_70 ?_
          refine lv_topi (fun v70 e70 => ?_)
          refine lv_i2l hx hb d_F_fromHalf_71 rfl ?_
          refine lv_topl (fun v71 e71 => ?_)
          exact K72 _ (by first | exact fh_D0 f19 f25 c56 e61 | exact fh_D1 f19 f25 c56 e70 e71)
        · skip
          refine lv_iload hx hb d_F_fromHalf_59 (lv_at hl 0 rfl) ?_
          refine lv_i2l hx hb d_F_fromHalf_61 rfl ?_
          refine lv_topl (fun v61 e61 => ?_)
          refine lv_goto (tgt := 72) hx hb d_F_fromHalf_62 (by decide) ?_
          exact K72 _ (by first | exact fh_D0 f19 f25 c56 e61 | exact fh_D1 f19 f25 c56 e70 e71)
    · skip
      refine lv_iload hx hb d_F_fromHalf_34 (lv_at hl 0 rfl) ?_
      refine lv_if_eq (tgt := 43) hx hb d_F_fromHalf_36 (by decide) (fun c36 => ?_) (fun c36 => ?_)
      · skip
        refine lv_iload_n hx hb d_F_fromHalf_43 rfl (lv_at hl 2 rfl) ?_
        refine lv_if_eq (tgt := 52) hx hb d_F_fromHalf_44 (by decide) (fun c44 => ?_) (fun c44 => ?_)
        · skip
          refine lv_ldc (v := 2147483647) hx hb hown (hts (.constant R_F 9 2147483647) (List.mem_cons_of_mem _ (tm (by decide +kernel) rfl))) d_F_fromHalf_52 ?_
          refine W.iret (v := 2147483647) hx hb hr (fun t ht hW => ⟨_, rfl, ?_, ht⟩) (fun _ h => by cases h) d_F_fromHalf_54
          show (2147483647 : Int32).toInt = sp_fh h.toBitVec.toNat
          exact by rw [sp_fh, if_pos ((fh_31 f19).mp c31), if_pos ((fh_f0 f25).mp c36), if_pos (f12.mp c44)]; decide
        · skip
          refine lv_ldc (v := (-2147483648)) hx hb hown (hts (.constant R_F 10 (-2147483648)) (List.mem_cons_of_mem _ (tm (by decide +kernel) rfl))) d_F_fromHalf_47 ?_
          refine lv_goto (tgt := 54) hx hb d_F_fromHalf_49 (by decide) ?_
          refine W.iret (v := (-2147483648)) hx hb hr (fun t ht hW => ⟨_, rfl, ?_, ht⟩) (fun _ h => by cases h) d_F_fromHalf_54
          show (-2147483648 : Int32).toInt = sp_fh h.toBitVec.toNat
          exact by rw [sp_fh, if_pos ((fh_31 f19).mp c31), if_pos ((fh_f0 f25).mp c36), if_neg (fun z => c44 (f12.mpr z))]; decide
      · skip
        refine lv_iconst (v := 0) hx hb d_F_fromHalf_39 (by decide) ?_
        refine lv_goto (tgt := 54) hx hb d_F_fromHalf_40 (by decide) ?_
        refine W.iret (v := 0) hx hb hr (fun t ht hW => ⟨_, rfl, ?_, ht⟩) (fun _ h => by cases h) d_F_fromHalf_54
        show (0 : Int32).toInt = sp_fh h.toBitVec.toNat
        exact by rw [sp_fh, if_pos ((fh_31 f19).mp c31), if_neg (fun z => c36 ((fh_f0 f25).mpr z))]; decide
  · skip
    refine lv_if_eq (tgt := 11) hx hb d_F_fromHalf_4 (by decide) (fun c4 => ?_) (fun c4 => ?_)
    · skip
      refine lv_iconst (v := 0) hx hb d_F_fromHalf_11 (by decide) ?_
      exact K12 _ (by first | (rw [if_pos c4]) | (rw [if_neg c4]))
    · skip
      refine lv_iconst (v := 1) hx hb d_F_fromHalf_7 (by decide) ?_
      refine lv_goto (tgt := 12) hx hb d_F_fromHalf_8 (by decide) ?_
      exact K12 _ (by first | (rw [if_pos c4]) | (rw [if_neg c4]))
set_option maxHeartbeats 4000000 in
set_option maxRecDepth 100000 in
theorem c_F_toHalf (l : Launch) (h0 : Nat) (a : Int32)  : Met l y_F_toHalf w_F_toHalf ({ frames := 1, cells := 0, slots := 0, locals := 40 }) (fun v _ => v = [.ref h0, .int a].toArray) (vp_Si (fun r => r = nI (sp_th a.toInt))) 0 0 (fun _ => False) := by
  refine Met.ofW (cc := b_F_toHalf) (maxL := 8) (ret := some .int) (by decide +kernel) rfl ?_
  intro p e s m args below meth c s₁ B hml hv
  subst hv
  have hx := B.exec
  have hb := B.bytes
  have hr := B.returns
  have hts := atoms_spec (ws := w_F_toHalf) B.pre
  have hown : s.vm.findClass R_F = some m.cls := findClass_of_methodNamed B.named
  have hlocks := B.notSynchronized
  have hl := lv_entry ([.ref h0, .int a]) (n := 8) (Nat.le_of_ble_eq_true rfl)
  rw [lg_entry_eq]
  generalize (lg_sl ([.ref h0, .int a]) ++ List.replicate (8 - (lg_sl ([.ref h0, .int a])).length) Slot.unset).toArray = ls at hl ⊢
  have hl : lv_has ls 8 [(0, .ref h0), (1, .int a)] := hl
  refine lv_iload_n hx hb d_F_toHalf_0 rfl (lv_at hl 1 rfl) ?_
  refine jn_i (J := 10) (rest := []) (fun v => v = if a.toInt < 0 then 32768 else 0) (fun v10 e10 => ?_) (fun K10 => ?_)
  · skip
    refine lv_istore_n (lv' := [(2, .int v10), (0, .ref h0), (1, .int a)]) hx hb d_F_toHalf_10 rfl hl (by decide) rfl (fun ls hl => ?_)
    refine lv_iload_n hx hb d_F_toHalf_11 rfl (lv_at hl 2 rfl) ?_
    refine lv_i2l hx hb d_F_toHalf_12 rfl ?_
    refine lv_topl (fun v12 e12 => ?_)
    refine vp_callSl (W.runS (As := [.long v12]) (rest := []) ⟨hx, hb, hml, hown, hts⟩ (c_F_magnitude l v12 ) (cwS 1 hts g_F_35 rfl rfl rfl (by decide +kernel) ⟨Nat.le_of_ble_eq_true rfl, Nat.le_of_ble_eq_true rfl⟩) preEq rfl rfl hl.1 rfl (lv_room (Nat.le_of_ble_eq_true rfl)) d_F_toHalf_13 ⟨Nat.zero_le _, Nat.zero_le _⟩) (fun v13 e13 => ?_)
    try dsimp only at e13
    refine lv_lstore_n (lv' := [(3, .long v13), (2, .int v10), (0, .ref h0), (1, .int a)]) hx hb d_F_toHalf_16 rfl hl (by decide) rfl (fun ls hl => ?_)
    obtain ⟨fs, fs2, fs3⟩ := th_s a v12 v13 e12 e13
    have f4 := th_lt4 fs fs3
    refine lv_lload_n hx hb d_F_toHalf_17 rfl (lv_at hl 0 rfl) ?_
    refine lv_ldc2 (v := 4) hx hb hown (hts (.constantLong R_F 88 4) (List.mem_cons_of_mem _ (tm (by decide +kernel) rfl))) d_F_toHalf_18 ?_
    refine W.lcmp hx hb d_F_toHalf_21 ?_
    refine lv_if_ge (tgt := 33) hx hb d_F_toHalf_22 (by decide) (fun c22 => ?_) (fun c22 => ?_)
    · skip
      have c22 := (lg_cmp_ge _ _).mp c22
      have h4 := f4.mp c22
      refine lv_lload_n hx hb d_F_toHalf_33 rfl (lv_at hl 0 rfl) ?_
      refine vp_callSi (W.runS (As := [.long v13]) (rest := []) ⟨hx, hb, hml, hown, hts⟩ (c_F_highestBit l v13 (by omega) (by omega)) (cwS 1 hts g_F_90 rfl rfl rfl (by decide +kernel) ⟨Nat.le_of_ble_eq_true rfl, Nat.le_of_ble_eq_true rfl⟩) preEq rfl rfl hl.1 rfl (lv_room (Nat.le_of_ble_eq_true rfl)) d_F_toHalf_34 ⟨Nat.zero_le _, Nat.zero_le _⟩) (fun v34 e34 => ?_)
      try dsimp only at e34
      obtain ⟨t, f34, ht34, hp1, hp2⟩ := e34
      rw [fs2] at hp1 hp2
      have hp1 : 2 ^ t ≤ a.toInt.natAbs := by exact_mod_cast hp1
      have hp2 : a.toInt.natAbs < 2 ^ (t + 1) := by exact_mod_cast hp2
      have ht2 : 2 ≤ t := th_t2 (by omega) hp2
      have hdig := th_dig ht2 ht34 hp1 hp2
      have ht10 : 10 < v34 ↔ 10 < t := by rw [f34]; exact nI_ltI (a := 10) (by decide) (by omega)
      refine lv_istore (lv' := [(5, .int v34), (3, .long v13), (2, .int v10), (0, .ref h0), (1, .int a)]) hx hb d_F_toHalf_37 hl (by decide) rfl (fun ls hl => ?_)
      refine lv_iload hx hb d_F_toHalf_39 (lv_at hl 0 rfl) ?_
      refine lv_iconst (v := 1) hx hb d_F_toHalf_41 (by decide) ?_
      refine lv_isub hx hb d_F_toHalf_42 ?_
      refine lv_topi (fun v42 e42 => ?_)
      refine lv_istore (lv' := [(6, .int v42), (5, .int v34), (3, .long v13), (2, .int v10), (0, .ref h0), (1, .int a)]) hx hb d_F_toHalf_43 hl (by decide) rfl (fun ls hl => ?_)
      refine lv_iload hx hb d_F_toHalf_45 (lv_at hl 1 rfl) ?_
      refine lv_bipush (v := 10) hx hb d_F_toHalf_47 (by decide) ?_
      refine jn_i (J := 72) (rest := []) (fun v => v = nI (if t ≤ 10 then a.toInt.natAbs * 2 ^ (10 - t) else sp_ne a.toInt.natAbs (t - 10))) (fun v72 e72 => ?_) (fun K72 => ?_)
      · skip
        refine lv_istore (lv' := [(7, .int v72), (6, .int v42), (5, .int v34), (3, .long v13), (2, .int v10), (0, .ref h0), (1, .int a)]) hx hb d_F_toHalf_72 hl (by decide) rfl (fun ls hl => ?_)
        refine lv_iload_n hx hb d_F_toHalf_74 rfl (lv_at hl 4 rfl) ?_
        refine lv_iload hx hb d_F_toHalf_75 (lv_at hl 1 rfl) ?_
        refine lv_bipush (v := 10) hx hb d_F_toHalf_77 (by decide) ?_
        refine lv_ishl hx hb d_F_toHalf_79 ?_
        refine lv_topi (fun v79 e79 => ?_)
        refine lv_iload hx hb d_F_toHalf_80 (lv_at hl 0 rfl) ?_
        refine lv_sipush (v := 1024) hx hb d_F_toHalf_82 (by decide) ?_
        refine lv_isub hx hb d_F_toHalf_85 ?_
        refine lv_topi (fun v85 e85 => ?_)
        refine lv_iadd hx hb d_F_toHalf_86 ?_
        refine lv_topi (fun v86 e86 => ?_)
        refine lv_ior hx hb d_F_toHalf_87 ?_
        refine lv_topi (fun v87 e87 => ?_)
        refine W.iret (v := v87) hx hb hr (fun t ht hW => ⟨_, rfl, ?_, ht⟩) (fun _ h => by cases h) d_F_toHalf_88
        show v87 = nI (sp_th a.toInt)
        exact th_end1 e10 ht2 ht34 h4 hp1 hp2 (th_fin ht2 ht34 f34 e42 e72 hdig.1 hdig.2 e79 e85 e86) e87
      · skip
        refine lv_icmp_gt (tgt := 63) hx hb d_F_toHalf_49 (by decide) (fun c49 => ?_) (fun c49 => ?_)
        · skip
          have h10 := ht10.mp c49
          refine lv_lload_n hx hb d_F_toHalf_63 rfl (lv_at hl 2 rfl) ?_
          refine lv_iload hx hb d_F_toHalf_64 (lv_at hl 1 rfl) ?_
          refine lv_bipush (v := 10) hx hb d_F_toHalf_66 (by decide) ?_
          refine lv_isub hx hb d_F_toHalf_68 ?_
          refine lv_topi (fun v68 e68 => ?_)
          refine vp_callSi (W.runS (As := [.long v13, .int v68]) (rest := []) ⟨hx, hb, hml, hown, hts⟩ (c_F_nearestEven l v13 v68 a.toInt.natAbs (t - 10) fs fs3 (by rw [e68, f34]; exact pk_sub (b := 10) (by omega)) (by omega)) (cwS 2 hts g_F_93 rfl rfl rfl (by decide +kernel) ⟨Nat.le_of_ble_eq_true rfl, Nat.le_of_ble_eq_true rfl⟩) preEq rfl rfl hl.1 rfl (lv_room (Nat.le_of_ble_eq_true rfl)) d_F_toHalf_69 ⟨Nat.zero_le _, Nat.zero_le _⟩) (fun v69 e69 => ?_)
          try dsimp only at e69
          exact K72 _ (by first | (rw [if_pos (show t ≤ 10 by omega)]; exact th_d1 fs f34 (by omega) e57 e58 e59) | (rw [if_neg (show ¬ t ≤ 10 by omega)]; exact e69))
        · skip
          have h10 : ¬ 10 < t := fun z => c49 (ht10.mpr z)
          refine lv_lload_n hx hb d_F_toHalf_52 rfl (lv_at hl 2 rfl) ?_
          refine lv_bipush (v := 10) hx hb d_F_toHalf_53 (by decide) ?_
          refine lv_iload hx hb d_F_toHalf_55 (lv_at hl 1 rfl) ?_
          refine lv_isub hx hb d_F_toHalf_57 ?_
          refine lv_topi (fun v57 e57 => ?_)
          refine lv_lshl hx hb d_F_toHalf_58 rfl ?_
          refine lv_topl (fun v58 e58 => ?_)
          refine lv_l2i hx hb d_F_toHalf_59 rfl ?_
          refine lv_topi (fun v59 e59 => ?_)
          refine lv_goto (tgt := 72) hx hb d_F_toHalf_60 (by decide) ?_
          exact K72 _ (by first | (rw [if_pos (show t ≤ 10 by omega)]; exact th_d1 fs f34 (by omega) e57 e58 e59) | (rw [if_neg (show ¬ t ≤ 10 by omega)]; exact e69))
    · skip
      have c22 := (not_congr (lg_cmp_ge _ _)).mp c22
      have h4 : ¬ 4 ≤ a.toInt.natAbs := fun z => c22 (f4.mpr z)
      refine lv_iload_n hx hb d_F_toHalf_25 rfl (lv_at hl 1 rfl) ?_
      refine lv_lload_n hx hb d_F_toHalf_26 rfl (lv_at hl 0 rfl) ?_
      refine lv_bipush (v := 8) hx hb d_F_toHalf_27 (by decide) ?_
      refine lv_lshl hx hb d_F_toHalf_29 rfl ?_
      refine lv_topl (fun v29 e29 => ?_)
      refine lv_l2i hx hb d_F_toHalf_30 rfl ?_
      refine lv_topi (fun v30 e30 => ?_)
      refine lv_ior hx hb d_F_toHalf_31 ?_
      refine lv_topi (fun v31 e31 => ?_)
      refine W.iret (v := v31) hx hb hr (fun t ht hW => ⟨_, rfl, ?_, ht⟩) (fun _ h => by cases h) d_F_toHalf_32
      show v31 = nI (sp_th a.toInt)
      exact th_end0 e10 (by omega) (th_small fs e29 e30) e31
  · skip
    refine lv_if_ge (tgt := 9) hx hb d_F_toHalf_1 (by decide) (fun c1 => ?_) (fun c1 => ?_)
    · skip
      refine lv_iconst (v := 0) hx hb d_F_toHalf_9 (by decide) ?_
      exact K10 _ (by first | exact fx_sg0 a c1 | exact fx_sg1 a c1)
    · skip
      refine lv_ldc (v := 32768) hx hb hown (hts (.constant R_F 75 32768) (List.mem_cons_of_mem _ (tm (by decide +kernel) rfl))) d_F_toHalf_4 ?_
      refine lv_goto (tgt := 10) hx hb d_F_toHalf_6 (by decide) ?_
      exact K10 _ (by first | exact fx_sg0 a c1 | exact fx_sg1 a c1)
end
section
set_option maxHeartbeats 4000000 in
set_option maxRecDepth 100000 in
theorem c_F_fixed (l : Launch) (hfl : l.flags = flags0) (sz : Nat) (h0 : Nat) (a : Int32)  : MetT l y_F_fixed w_F_fixed ({ frames := 6, cells := 1, slots := 6, locals := 90 }) (fun v U => v = [.ref h0, .int a].toArray ∧ th_Z sz U) (th_Qi "java/lang/IllegalArgumentException" (fun r => sp_byte a.toInt ∧ r.toInt = (2 * (65536 * a.toInt) + 255) / 510) (¬ sp_byte a.toInt)) 1 6 := by
  refine MetT.ofW (cc := b_F_fixed) (maxL := 2) (ret := some .int) (by decide) rfl ?_
  intro p e s m args below meth c s₁ B hml hv
  obtain ⟨hv, hZ⟩ := hv
  subst hv
  have hx := B.exec
  have hb := B.bytes
  have hr := B.returns
  have hts := atoms_spec (ws := w_F_fixed) B.pre
  have hown : s.vm.findClass R_F = some m.cls := findClass_of_methodNamed B.named
  have hlocks := B.notSynchronized
  have htr : e.platform.stackTraces = false := th_off hfl (Stand.of_body B).admits
  have hno := B.noHandlers (hts _ List.mem_cons_self)
  have hl := lv_entry ([.ref h0, .int a]) (n := 2) (Nat.le_of_ble_eq_true rfl)
  rw [lg_entry_eq]
  generalize (lg_sl ([.ref h0, .int a]) ++ List.replicate (2 - (lg_sl ([.ref h0, .int a])).length) Slot.unset).toArray = ls at hl ⊢
  have hl : lv_has ls 2 [(0, .ref h0), (1, .int a)] := hl
  refine lv_iload_n hx hb d_F_fixed_0 rfl (lv_at hl 1 rfl) ?_
  refine vp_callSi (W.runS (As := [.int a]) (rest := []) ⟨hx, hb, hml, hown, hts⟩ (c_F_isByte l a ) (cwS 1 hts g_F_76 rfl rfl rfl (by decide +kernel) ⟨Nat.le_of_ble_eq_true rfl, Nat.le_of_ble_eq_true rfl⟩) preEq rfl rfl hl.1 rfl (lv_room (Nat.le_of_ble_eq_true rfl)) d_F_fixed_1 ⟨Nat.zero_le _, Nat.zero_le _⟩) (fun v1 e1 => ?_)
  try dsimp only at e1
  refine lv_if_ne (tgt := 17) hx hb d_F_fixed_4 (by decide) (fun c4 => ?_) (fun c4 => ?_)
  · skip
    have hby : sp_byte a.toInt := Classical.byContradiction (fun q => c4 ((fx_isb e1).mpr q))
    refine lv_ldc (v := 65536) hx hb hown (hts (.constant R_F 67 65536) (List.mem_cons_of_mem _ (tm (by decide +kernel) rfl))) d_F_fixed_17 ?_
    refine lv_iload_n hx hb d_F_fixed_19 rfl (lv_at hl 1 rfl) ?_
    refine lv_imul hx hb d_F_fixed_20 ?_
    refine lv_topi (fun v20 e20 => ?_)
    refine vp_callSi (W.runS (As := [.int v20]) (rest := []) ⟨hx, hb, hml, hown, hts⟩ (c_F_nearest255th l v20 (by rw [fx_fix hby e20]; have := hby.1; omega) (by rw [fx_fix hby e20]; have := hby.2; omega)) (cwS 1 hts g_F_82 rfl rfl rfl (by decide +kernel) ⟨Nat.le_of_ble_eq_true rfl, Nat.le_of_ble_eq_true rfl⟩) preEq rfl rfl hl.1 rfl (lv_room (Nat.le_of_ble_eq_true rfl)) d_F_fixed_21 ⟨Nat.zero_le _, Nat.zero_le _⟩) (fun v21 e21 => ?_)
    try dsimp only at e21
    refine W.widen (k := 1) (n := 6) (Nat.zero_le _) (Nat.zero_le _) ?_
    refine th_ret ?_
    refine W.iret (v := v21) hx hb hr (fun t ht hW => Or.inl ⟨_, rfl, ?_, ht⟩) (fun _ h => by cases h) d_F_fixed_24
    show sp_byte a.toInt ∧ v21.toInt = (2 * (65536 * a.toInt) + 255) / 510
    exact ⟨hby, by rw [e21, fx_fix hby e20]⟩
  · skip
    obtain ⟨q9, hq9⟩ := hZ.2.2.2 (80, "c is not 0 .. 255") (by decide)
    exact th_W (own := R_F) (cls := "java/lang/IllegalArgumentException") (names := thN) hx hb htr hown (by decide +kernel) (by decide +kernel) (th_at_64 hZ) hlocks (hl.1.trans hml.symm) (hts (.classLink R_F 60 "java/lang/IllegalArgumentException") (List.mem_cons_of_mem _ (tm (by decide +kernel) rfl))) (hts (.initialized "java/lang/IllegalArgumentException") (List.mem_cons_of_mem _ (tm (by decide +kernel) rfl))) hq9 (covers_of_empty hno _) (Nat.le_of_ble_eq_true rfl) (Nat.le_of_ble_eq_true rfl) (Nat.le_of_ble_eq_true rfl) (Nat.le_of_ble_eq_true rfl) d_F_fixed_7 d_F_fixed_10 d_F_fixed_11 d_F_fixed_13 d_F_fixed_16 (fun t a9 ce k1 k2 k3 k4 => Or.inr ⟨a9, ce, rfl, (fx_isb e1).mp c4, k1, k3, k2⟩)
set_option maxHeartbeats 4000000 in
set_option maxRecDepth 100000 in
theorem c_F_shade (l : Launch) (hfl : l.flags = flags0) (sz : Nat) (h0 : Nat) (a b : Int32)  : MetT l y_F_shade w_F_shade ({ frames := 6, cells := 1, slots := 6, locals := 90 }) (fun v U => v = [.ref h0, .int a, .int b].toArray ∧ th_Z sz U) (th_Qi "java/lang/IllegalArgumentException" (fun r => sp_byte a.toInt ∧ sp_byte b.toInt ∧ r.toInt = (2 * (a.toInt * b.toInt) + 255) / 510) (¬ sp_byte a.toInt ∨ ¬ sp_byte b.toInt)) 1 6 := by
  refine MetT.ofW (cc := b_F_shade) (maxL := 3) (ret := some .int) (by decide) rfl ?_
  intro p e s m args below meth c s₁ B hml hv
  obtain ⟨hv, hZ⟩ := hv
  subst hv
  have hx := B.exec
  have hb := B.bytes
  have hr := B.returns
  have hts := atoms_spec (ws := w_F_shade) B.pre
  have hown : s.vm.findClass R_F = some m.cls := findClass_of_methodNamed B.named
  have hlocks := B.notSynchronized
  have htr : e.platform.stackTraces = false := th_off hfl (Stand.of_body B).admits
  have hno := B.noHandlers (hts _ List.mem_cons_self)
  have hl := lv_entry ([.ref h0, .int a, .int b]) (n := 3) (Nat.le_of_ble_eq_true rfl)
  rw [lg_entry_eq]
  generalize (lg_sl ([.ref h0, .int a, .int b]) ++ List.replicate (3 - (lg_sl ([.ref h0, .int a, .int b])).length) Slot.unset).toArray = ls at hl ⊢
  have hl : lv_has ls 3 [(0, .ref h0), (1, .int a), (2, .int b)] := hl
  refine lv_iload_n hx hb d_F_shade_0 rfl (lv_at hl 1 rfl) ?_
  refine vp_callSi (W.runS (As := [.int a]) (rest := []) ⟨hx, hb, hml, hown, hts⟩ (c_F_isByte l a ) (cwS 1 hts g_F_76 rfl rfl rfl (by decide +kernel) ⟨Nat.le_of_ble_eq_true rfl, Nat.le_of_ble_eq_true rfl⟩) preEq rfl rfl hl.1 rfl (lv_room (Nat.le_of_ble_eq_true rfl)) d_F_shade_1 ⟨Nat.zero_le _, Nat.zero_le _⟩) (fun v1 e1 => ?_)
  try dsimp only at e1
  refine lv_if_eq (tgt := 14) hx hb d_F_shade_4 (by decide) (fun c4 => ?_) (fun c4 => ?_)
  · skip
    obtain ⟨q9, hq9⟩ := hZ.2.2.2 (86, "x or y is not 0 .. 255") (by decide)
    exact th_W (own := R_F) (cls := "java/lang/IllegalArgumentException") (names := thN) hx hb htr hown (by decide +kernel) (by decide +kernel) (th_at_64 hZ) hlocks (hl.1.trans hml.symm) (hts (.classLink R_F 60 "java/lang/IllegalArgumentException") (List.mem_cons_of_mem _ (tm (by decide +kernel) rfl))) (hts (.initialized "java/lang/IllegalArgumentException") (List.mem_cons_of_mem _ (tm (by decide +kernel) rfl))) hq9 (covers_of_empty hno _) (Nat.le_of_ble_eq_true rfl) (Nat.le_of_ble_eq_true rfl) (Nat.le_of_ble_eq_true rfl) (Nat.le_of_ble_eq_true rfl) d_F_shade_14 d_F_shade_17 d_F_shade_18 d_F_shade_20 d_F_shade_23 (fun t a9 ce k1 k2 k3 k4 => Or.inr ⟨a9, ce, rfl, (by first | exact Or.inl ((fx_isb e1).mp c4) | exact Or.inr ((fx_isb e8).mp c11)), k1, k3, k2⟩)
  · skip
    refine lv_iload_n hx hb d_F_shade_7 rfl (lv_at hl 2 rfl) ?_
    refine vp_callSi (W.runS (As := [.int b]) (rest := []) ⟨hx, hb, hml, hown, hts⟩ (c_F_isByte l b ) (cwS 1 hts g_F_76 rfl rfl rfl (by decide +kernel) ⟨Nat.le_of_ble_eq_true rfl, Nat.le_of_ble_eq_true rfl⟩) preEq rfl rfl hl.1 rfl (lv_room (Nat.le_of_ble_eq_true rfl)) d_F_shade_8 ⟨Nat.zero_le _, Nat.zero_le _⟩) (fun v8 e8 => ?_)
    try dsimp only at e8
    refine lv_if_ne (tgt := 24) hx hb d_F_shade_11 (by decide) (fun c11 => ?_) (fun c11 => ?_)
    · skip
      have hba : sp_byte a.toInt := Classical.byContradiction (fun q => c4 ((fx_isb e1).mpr q))
      have hbb : sp_byte b.toInt := Classical.byContradiction (fun q => c11 ((fx_isb e8).mpr q))
      refine lv_iload_n hx hb d_F_shade_24 rfl (lv_at hl 1 rfl) ?_
      refine lv_iload_n hx hb d_F_shade_25 rfl (lv_at hl 2 rfl) ?_
      refine lv_imul hx hb d_F_shade_26 ?_
      refine lv_topi (fun v26 e26 => ?_)
      have hsh := fx_sha hba hbb e26
      refine vp_callSi (W.runS (As := [.int v26]) (rest := []) ⟨hx, hb, hml, hown, hts⟩ (c_F_nearest255th l v26 (by rw [hsh.1]; exact hsh.2.1) (by rw [hsh.1]; have := hsh.2.2; omega)) (cwS 1 hts g_F_82 rfl rfl rfl (by decide +kernel) ⟨Nat.le_of_ble_eq_true rfl, Nat.le_of_ble_eq_true rfl⟩) preEq rfl rfl hl.1 rfl (lv_room (Nat.le_of_ble_eq_true rfl)) d_F_shade_27 ⟨Nat.zero_le _, Nat.zero_le _⟩) (fun v27 e27 => ?_)
      try dsimp only at e27
      refine W.widen (k := 1) (n := 6) (Nat.zero_le _) (Nat.zero_le _) ?_
      refine th_ret ?_
      refine W.iret (v := v27) hx hb hr (fun t ht hW => Or.inl ⟨_, rfl, ?_, ht⟩) (fun _ h => by cases h) d_F_shade_30
      show sp_byte a.toInt ∧ sp_byte b.toInt ∧ v27.toInt = (2 * (a.toInt * b.toInt) + 255) / 510
      exact ⟨hba, hbb, by rw [e27, hsh.1]⟩
    · skip
      obtain ⟨q9, hq9⟩ := hZ.2.2.2 (86, "x or y is not 0 .. 255") (by decide)
      exact th_W (own := R_F) (cls := "java/lang/IllegalArgumentException") (names := thN) hx hb htr hown (by decide +kernel) (by decide +kernel) (th_at_64 hZ) hlocks (hl.1.trans hml.symm) (hts (.classLink R_F 60 "java/lang/IllegalArgumentException") (List.mem_cons_of_mem _ (tm (by decide +kernel) rfl))) (hts (.initialized "java/lang/IllegalArgumentException") (List.mem_cons_of_mem _ (tm (by decide +kernel) rfl))) hq9 (covers_of_empty hno _) (Nat.le_of_ble_eq_true rfl) (Nat.le_of_ble_eq_true rfl) (Nat.le_of_ble_eq_true rfl) (Nat.le_of_ble_eq_true rfl) d_F_shade_14 d_F_shade_17 d_F_shade_18 d_F_shade_20 d_F_shade_23 (fun t a9 ce k1 k2 k3 k4 => Or.inr ⟨a9, ce, rfl, (by first | exact Or.inl ((fx_isb e1).mp c4) | exact Or.inr ((fx_isb e8).mp c11)), k1, k3, k2⟩)
set_option maxHeartbeats 4000000 in
set_option maxRecDepth 100000 in
theorem c_F_ratio (l : Launch) (hfl : l.flags = flags0) (sz : Nat) (h0 : Nat) (a b d : Int64)  : MetT l y_F_ratio w_F_ratio ({ frames := 6, cells := 1, slots := 6, locals := 90 }) (fun v U => v = [.ref h0, .long a, .long b, .long d].toArray ∧ th_Z sz U) (th_Ql "java/lang/ArithmeticException" (fun r => sp_rok a.toInt b.toInt d.toInt r.toInt) (sp_rno a.toInt b.toInt d.toInt)) 1 6 := by
  refine MetT.ofW (cc := b_F_ratio) (maxL := 21) (ret := some .long) (by decide) rfl ?_
  intro p e s m args below meth c s₁ B hml hv
  obtain ⟨hv, hZ⟩ := hv
  subst hv
  have hx := B.exec
  have hb := B.bytes
  have hr := B.returns
  have hts := atoms_spec (ws := w_F_ratio) B.pre
  have hown : s.vm.findClass R_F = some m.cls := findClass_of_methodNamed B.named
  have hlocks := B.notSynchronized
  have htr : e.platform.stackTraces = false := th_off hfl (Stand.of_body B).admits
  have hno := B.noHandlers (hts _ List.mem_cons_self)
  have hl := lv_entry ([.ref h0, .long a, .long b, .long d]) (n := 21) (Nat.le_of_ble_eq_true rfl)
  rw [lg_entry_eq]
  generalize (lg_sl ([.ref h0, .long a, .long b, .long d]) ++ List.replicate (21 - (lg_sl ([.ref h0, .long a, .long b, .long d])).length) Slot.unset).toArray = ls at hl ⊢
  have hl : lv_has ls 21 [(0, .ref h0), (1, .long a), (3, .long b), (5, .long d)] := hl
  refine lv_lload hx hb d_F_ratio_0 (lv_at hl 3 rfl) ?_
  refine lv_lconst (v := 0) hx hb d_F_ratio_2 (by decide) ?_
  refine W.lcmp hx hb d_F_ratio_3 ?_
  refine lv_if_ne (tgt := 17) hx hb d_F_ratio_4 (by decide) (fun c4 => ?_) (fun c4 => ?_)
  · skip
    have c4 := (not_congr (lg_cmp_eq _ _)).mp c4
    have hd0 : d.toInt ≠ 0 := fun q => c4 (Int64.toInt_inj.mp (by rw [q]; decide))
    refine lv_lload_n hx hb d_F_ratio_17 rfl (lv_at hl 1 rfl) ?_
    refine vp_callSl (W.runS (As := [.long a]) (rest := []) ⟨hx, hb, hml, hown, hts⟩ (c_F_magnitude l a ) (cwS 1 hts g_F_35 rfl rfl rfl (by decide +kernel) ⟨Nat.le_of_ble_eq_true rfl, Nat.le_of_ble_eq_true rfl⟩) preEq rfl rfl hl.1 rfl (lv_room (Nat.le_of_ble_eq_true rfl)) d_F_ratio_18 ⟨Nat.zero_le _, Nat.zero_le _⟩) (fun v18 e18 => ?_)
    try dsimp only at e18
    refine lv_lstore (lv' := [(7, .long v18), (0, .ref h0), (1, .long a), (3, .long b), (5, .long d)]) hx hb d_F_ratio_21 hl (by decide) rfl (fun ls hl => ?_)
    refine lv_lload_n hx hb d_F_ratio_23 rfl (lv_at hl 3 rfl) ?_
    refine vp_callSl (W.runS (As := [.long b]) (rest := []) ⟨hx, hb, hml, hown, hts⟩ (c_F_magnitude l b ) (cwS 1 hts g_F_35 rfl rfl rfl (by decide +kernel) ⟨Nat.le_of_ble_eq_true rfl, Nat.le_of_ble_eq_true rfl⟩) preEq rfl rfl hl.1 rfl (lv_room (Nat.le_of_ble_eq_true rfl)) d_F_ratio_24 ⟨Nat.zero_le _, Nat.zero_le _⟩) (fun v24 e24 => ?_)
    try dsimp only at e24
    refine lv_lstore (lv' := [(9, .long v24), (7, .long v18), (0, .ref h0), (1, .long a), (3, .long b), (5, .long d)]) hx hb d_F_ratio_27 hl (by decide) rfl (fun ls hl => ?_)
    refine lv_lload hx hb d_F_ratio_29 (lv_at hl 5 rfl) ?_
    refine vp_callSl (W.runS (As := [.long d]) (rest := []) ⟨hx, hb, hml, hown, hts⟩ (c_F_magnitude l d ) (cwS 1 hts g_F_35 rfl rfl rfl (by decide +kernel) ⟨Nat.le_of_ble_eq_true rfl, Nat.le_of_ble_eq_true rfl⟩) preEq rfl rfl hl.1 rfl (lv_room (Nat.le_of_ble_eq_true rfl)) d_F_ratio_31 ⟨Nat.zero_le _, Nat.zero_le _⟩) (fun v31 e31 => ?_)
    try dsimp only at e31
    refine lv_lstore (lv' := [(11, .long v31), (9, .long v24), (7, .long v18), (0, .ref h0), (1, .long a), (3, .long b), (5, .long d)]) hx hb d_F_ratio_34 hl (by decide) rfl (fun ls hl => ?_)
    have hdp : 0 < uN v31 := by rw [e31]; exact Int.natAbs_pos.mpr hd0
    have hd2 : uN v31 ≤ 9223372036854775808 := by rw [e31]; have := fx_i64 d; omega
    refine lv_lload hx hb d_F_ratio_36 (lv_at hl 2 rfl) ?_
    refine lv_lload hx hb d_F_ratio_38 (lv_at hl 1 rfl) ?_
    refine vp_callSl (W.runS (As := [.long v18, .long v24]) (rest := []) ⟨hx, hb, hml, hown, hts⟩ (c_F_highProduct l v18 v24 ) (cwS 2 hts g_F_39 rfl rfl rfl (by decide +kernel) ⟨Nat.le_of_ble_eq_true rfl, Nat.le_of_ble_eq_true rfl⟩) preEq rfl rfl hl.1 rfl (lv_room (Nat.le_of_ble_eq_true rfl)) d_F_ratio_40 ⟨Nat.zero_le _, Nat.zero_le _⟩) (fun v40 e40 => ?_)
    try dsimp only at e40
    refine lv_lstore (lv' := [(13, .long v40), (11, .long v31), (9, .long v24), (7, .long v18), (0, .ref h0), (1, .long a), (3, .long b), (5, .long d)]) hx hb d_F_ratio_43 hl (by decide) rfl (fun ls hl => ?_)
    refine lv_lload hx hb d_F_ratio_45 (lv_at hl 3 rfl) ?_
    refine lv_lload hx hb d_F_ratio_47 (lv_at hl 2 rfl) ?_
    refine lv_lmul hx hb d_F_ratio_49 ?_
    refine lv_topl (fun v49 e49 => ?_)
    refine lv_lstore (lv' := [(15, .long v49), (13, .long v40), (11, .long v31), (9, .long v24), (7, .long v18), (0, .ref h0), (1, .long a), (3, .long b), (5, .long d)]) hx hb d_F_ratio_50 hl (by decide) rfl (fun ls hl => ?_)
    refine lv_lload hx hb d_F_ratio_52 (lv_at hl 1 rfl) ?_
    refine lv_lload hx hb d_F_ratio_54 (lv_at hl 2 rfl) ?_
    refine vp_callSi (W.runS (As := [.long v40, .long v31]) (rest := []) ⟨hx, hb, hml, hown, hts⟩ (c_F_isBelow l v40 v31 ) (cwS 2 hts g_F_42 rfl rfl rfl (by decide +kernel) ⟨Nat.le_of_ble_eq_true rfl, Nat.le_of_ble_eq_true rfl⟩) preEq rfl rfl hl.1 rfl (lv_room (Nat.le_of_ble_eq_true rfl)) d_F_ratio_56 ⟨Nat.zero_le _, Nat.zero_le _⟩) (fun v56 e56 => ?_)
    try dsimp only at e56
    refine lv_if_ne (tgt := 72) hx hb d_F_ratio_59 (by decide) (fun c59 => ?_) (fun c59 => ?_)
    · skip
      have hlt : uN v40 < uN v31 := Classical.byContradiction (fun q => by rw [if_neg q] at e56; exact c59 e56)
      refine lv_lload hx hb d_F_ratio_72 (lv_at hl 1 rfl) ?_
      refine lv_lload hx hb d_F_ratio_74 (lv_at hl 0 rfl) ?_
      refine lv_lload hx hb d_F_ratio_76 (lv_at hl 2 rfl) ?_
      refine vp_callSl (W.runS (As := [.long v40, .long v49, .long v31]) (rest := []) ⟨hx, hb, hml, hown, hts⟩ (c_F_wholeQuotient l v40 v49 v31 hdp hd2 hlt) (cwS 3 hts g_F_48 rfl rfl rfl (by decide +kernel) ⟨Nat.le_of_ble_eq_true rfl, Nat.le_of_ble_eq_true rfl⟩) preEq rfl rfl hl.1 rfl (lv_room (Nat.le_of_ble_eq_true rfl)) d_F_ratio_78 ⟨Nat.zero_le _, Nat.zero_le _⟩) (fun v78 e78 => ?_)
      try dsimp only at e78
      refine lv_lstore (lv' := [(17, .long v78), (15, .long v49), (13, .long v40), (11, .long v31), (9, .long v24), (7, .long v18), (0, .ref h0), (1, .long a), (3, .long b), (5, .long d)]) hx hb d_F_ratio_81 hl (by decide) rfl (fun ls hl => ?_)
      obtain ⟨q, hq⟩ : ∃ q, q = a.toInt.natAbs * b.toInt.natAbs / d.toInt.natAbs := ⟨_, rfl⟩
      obtain ⟨rm, hrm⟩ : ∃ q, q = a.toInt.natAbs * b.toInt.natAbs % d.toInt.natAbs := ⟨_, rfl⟩
      have hw : uN v78 = q := by rw [e78, ra_P e40 e49, e18, e24, e31, hq]
      refine lv_lload hx hb d_F_ratio_83 (lv_at hl 0 rfl) ?_
      refine lv_lload hx hb d_F_ratio_85 (lv_at hl 3 rfl) ?_
      refine lv_lmul hx hb d_F_ratio_87 ?_
      refine lv_topl (fun v87 e87 => ?_)
      have hrest : v87 = v49 ↔ rm = 0 := by
        rw [ra_rest (P := uN v18 * uN v24) hdp hd2 (ra_low e49) (by rw [e78, ra_P e40 e49]) e87, e18, e24, e31, ← hrm]
      refine lv_lload hx hb d_F_ratio_88 (lv_at hl 1 rfl) ?_
      refine W.lcmp hx hb d_F_ratio_90 ?_
      refine jn_i (J := 99) (rest := []) (fun v => v = if rm = 0 then 0 else 1) (fun v99 e99 => ?_) (fun K99 => ?_)
      · skip
        refine lv_istore (lv' := [(19, .int v99), (17, .long v78), (15, .long v49), (13, .long v40), (11, .long v31), (9, .long v24), (7, .long v18), (0, .ref h0), (1, .long a), (3, .long b), (5, .long d)]) hx hb d_F_ratio_99 hl (by decide) rfl (fun ls hl => ?_)
        refine lv_lload_n hx hb d_F_ratio_101 rfl (lv_at hl 8 rfl) ?_
        refine lv_lload_n hx hb d_F_ratio_102 rfl (lv_at hl 9 rfl) ?_
        refine lv_lxor hx hb d_F_ratio_103 ?_
        refine lv_topl (fun v103 e103 => ?_)
        refine lv_lload hx hb d_F_ratio_104 (lv_at hl 10 rfl) ?_
        refine lv_lxor hx hb d_F_ratio_106 ?_
        refine lv_topl (fun v106 e106 => ?_)
        refine lv_lconst (v := 0) hx hb d_F_ratio_107 (by decide) ?_
        refine W.lcmp hx hb d_F_ratio_108 ?_
        refine jn_i (J := 117) (rest := []) (fun v => v = if sp_neg a.toInt b.toInt d.toInt then 1 else 0) (fun v117 e117 => ?_) (fun K117 => ?_)
        · skip
          refine lv_istore (lv' := [(20, .int v117), (19, .int v99), (17, .long v78), (15, .long v49), (13, .long v40), (11, .long v31), (9, .long v24), (7, .long v18), (0, .ref h0), (1, .long a), (3, .long b), (5, .long d)]) hx hb d_F_ratio_117 hl (by decide) rfl (fun ls hl => ?_)
          refine lv_lload hx hb d_F_ratio_119 (lv_at hl 2 rfl) ?_
          refine lv_iload hx hb d_F_ratio_121 (lv_at hl 1 rfl) ?_
          refine lv_iload hx hb d_F_ratio_123 (lv_at hl 0 rfl) ?_
          refine vp_callSi (W.runS (As := [.long v78, .int v99, .int v117]) (rest := []) ⟨hx, hb, hml, hown, hts⟩ (c_F_fitsLong l v78 v99 v117 ) (cwS 3 hts g_F_52 rfl rfl rfl (by decide +kernel) ⟨Nat.le_of_ble_eq_true rfl, Nat.le_of_ble_eq_true rfl⟩) preEq rfl rfl hl.1 rfl (lv_room (Nat.le_of_ble_eq_true rfl)) d_F_ratio_125 ⟨Nat.zero_le _, Nat.zero_le _⟩) (fun v125 e125 => ?_)
          try dsimp only at e125
          refine lv_if_ne (tgt := 141) hx hb d_F_ratio_128 (by decide) (fun c128 => ?_) (fun c128 => ?_)
          · skip
            have hfit : q < 9223372036854775808 ∨ (q = 9223372036854775808 ∧ sp_neg a.toInt b.toInt d.toInt ∧ rm = 0) := Classical.byContradiction (fun z => by
              rw [if_neg (fun y => z ((ra_fitx hw e99 e117).mp y))] at e125
              exact c128 e125)
            refine lv_lload hx hb d_F_ratio_141 (lv_at hl 2 rfl) ?_
            refine lv_iload hx hb d_F_ratio_143 (lv_at hl 1 rfl) ?_
            refine lv_iload hx hb d_F_ratio_145 (lv_at hl 0 rfl) ?_
            refine vp_callSl (W.runS (As := [.long v78, .int v99, .int v117]) (rest := []) ⟨hx, hb, hml, hown, hts⟩ (c_F_signedDown l v78 v99 v117 ) (cwS 3 hts g_F_56 rfl rfl rfl (by decide +kernel) ⟨Nat.le_of_ble_eq_true rfl, Nat.le_of_ble_eq_true rfl⟩) preEq rfl rfl hl.1 rfl (lv_room (Nat.le_of_ble_eq_true rfl)) d_F_ratio_147 ⟨Nat.zero_le _, Nat.zero_le _⟩) (fun v147 e147 => ?_)
            try dsimp only at e147
            refine W.widen (k := 1) (n := 6) (Nat.zero_le _) (Nat.zero_le _) ?_
            refine th_ret ?_
            refine W.lret (v := v147) hx hb hr (fun t ht hW => Or.inl ⟨_, rfl, ?_, ht⟩) (fun _ h => by cases h) d_F_ratio_150
            show sp_rok a.toInt b.toInt d.toInt v147.toInt
            exact ra_fit hd0 hq hrm (ra_down hw (e99.trans (by rw [hrm])) e117 e147 hfit)
          · skip
            have hunf : ¬ (q < 9223372036854775808 ∨ (q = 9223372036854775808 ∧ sp_neg a.toInt b.toInt d.toInt ∧ rm = 0)) := fun z => by
              rw [if_pos ((ra_fitx hw e99 e117).mpr z)] at e125
              rw [e125] at c128
              exact absurd c128 (by decide)
            obtain ⟨q9, hq9⟩ := hZ.2.2.2 (46, "a long can't hold the ratio") (by decide)
            exact th_W (own := R_F) (cls := "java/lang/ArithmeticException") (names := thN) hx hb htr hown (by decide +kernel) (by decide +kernel) (th_at_32 hZ) hlocks (hl.1.trans hml.symm) (hts (.classLink R_F 28 "java/lang/ArithmeticException") (List.mem_cons_of_mem _ (tm (by decide +kernel) rfl))) (hts (.initialized "java/lang/ArithmeticException") (List.mem_cons_of_mem _ (tm (by decide +kernel) rfl))) hq9 (covers_of_empty hno _) (Nat.le_of_ble_eq_true rfl) (Nat.le_of_ble_eq_true rfl) (Nat.le_of_ble_eq_true rfl) (Nat.le_of_ble_eq_true rfl) d_F_ratio_131 d_F_ratio_134 d_F_ratio_135 d_F_ratio_137 d_F_ratio_140 (fun t a9 ce k1 k2 k3 k4 => Or.inr ⟨a9, ce, rfl, (ra_unfit hd0 hq hrm hunf), k1, k3, k2⟩)
        · skip
          refine lv_if_ge (tgt := 116) hx hb d_F_ratio_109 (by decide) (fun c109 => ?_) (fun c109 => ?_)
          · skip
            have c109 := (lg_cmp_ge _ _).mp c109
            refine lv_iconst (v := 0) hx hb d_F_ratio_116 (by decide) ?_
            exact K117 _ (by first | (rw [if_neg ((ra_neg e103 e106).mp c109)]) | (rw [if_pos (Classical.byContradiction (fun q => c109 ((ra_neg e103 e106).mpr q)))]))
          · skip
            have c109 := (not_congr (lg_cmp_ge _ _)).mp c109
            refine lv_iconst (v := 1) hx hb d_F_ratio_112 (by decide) ?_
            refine lv_goto (tgt := 117) hx hb d_F_ratio_113 (by decide) ?_
            exact K117 _ (by first | (rw [if_neg ((ra_neg e103 e106).mp c109)]) | (rw [if_pos (Classical.byContradiction (fun q => c109 ((ra_neg e103 e106).mpr q)))]))
      · skip
        refine lv_if_eq (tgt := 98) hx hb d_F_ratio_91 (by decide) (fun c91 => ?_) (fun c91 => ?_)
        · skip
          have c91 := (lg_cmp_eq _ _).mp c91
          refine lv_iconst (v := 0) hx hb d_F_ratio_98 (by decide) ?_
          exact K99 _ (by first | (rw [if_pos (hrest.mp c91)]) | (rw [if_neg (fun q => c91 (hrest.mpr q))]))
        · skip
          have c91 := (not_congr (lg_cmp_eq _ _)).mp c91
          refine lv_iconst (v := 1) hx hb d_F_ratio_94 (by decide) ?_
          refine lv_goto (tgt := 99) hx hb d_F_ratio_95 (by decide) ?_
          exact K99 _ (by first | (rw [if_pos (hrest.mp c91)]) | (rw [if_neg (fun q => c91 (hrest.mpr q))]))
    · skip
      have hbig : d.toInt.natAbs ≤ a.toInt.natAbs * b.toInt.natAbs / 18446744073709551616 := by
        rw [← e18, ← e24, ← e31, ← e40]
        exact Nat.le_of_not_lt (fun q => by rw [if_pos q] at e56; rw [e56] at c59; exact absurd c59 (by decide))
      obtain ⟨q9, hq9⟩ := hZ.2.2.2 (46, "a long can't hold the ratio") (by decide)
      exact th_W (own := R_F) (cls := "java/lang/ArithmeticException") (names := thN) hx hb htr hown (by decide +kernel) (by decide +kernel) (th_at_32 hZ) hlocks (hl.1.trans hml.symm) (hts (.classLink R_F 28 "java/lang/ArithmeticException") (List.mem_cons_of_mem _ (tm (by decide +kernel) rfl))) (hts (.initialized "java/lang/ArithmeticException") (List.mem_cons_of_mem _ (tm (by decide +kernel) rfl))) hq9 (covers_of_empty hno _) (Nat.le_of_ble_eq_true rfl) (Nat.le_of_ble_eq_true rfl) (Nat.le_of_ble_eq_true rfl) (Nat.le_of_ble_eq_true rfl) d_F_ratio_62 d_F_ratio_65 d_F_ratio_66 d_F_ratio_68 d_F_ratio_71 (fun t a9 ce k1 k2 k3 k4 => Or.inr ⟨a9, ce, rfl, (ra_big (q := 0) hd0 rfl hbig), k1, k3, k2⟩)
  · skip
    have c4 := (lg_cmp_eq _ _).mp c4
    obtain ⟨q9, hq9⟩ := hZ.2.2.2 (30, "the divisor is 0") (by decide)
    exact th_W (own := R_F) (cls := "java/lang/ArithmeticException") (names := thN) hx hb htr hown (by decide +kernel) (by decide +kernel) (th_at_32 hZ) hlocks (hl.1.trans hml.symm) (hts (.classLink R_F 28 "java/lang/ArithmeticException") (List.mem_cons_of_mem _ (tm (by decide +kernel) rfl))) (hts (.initialized "java/lang/ArithmeticException") (List.mem_cons_of_mem _ (tm (by decide +kernel) rfl))) hq9 (covers_of_empty hno _) (Nat.le_of_ble_eq_true rfl) (Nat.le_of_ble_eq_true rfl) (Nat.le_of_ble_eq_true rfl) (Nat.le_of_ble_eq_true rfl) d_F_ratio_7 d_F_ratio_10 d_F_ratio_11 d_F_ratio_13 d_F_ratio_16 (fun t a9 ce k1 k2 k3 k4 => Or.inr ⟨a9, ce, rfl, Or.inl (by rw [c4]; decide), k1, k3, k2⟩)
set_option maxHeartbeats 4000000 in
set_option maxRecDepth 100000 in
theorem c_F_between (l : Launch) (hfl : l.flags = flags0) (sz : Nat) (h0 : Nat) (a b : Int32) (n d : Int64)  : MetT l y_F_between w_F_between ({ frames := 6, cells := 1, slots := 6, locals := 90 }) (fun v U => v = [.ref h0, .int a, .int b, .long n, .long d].toArray ∧ th_Z sz U) (th_Qi "java/lang/IllegalArgumentException" (fun r => (0 < d.toInt ∧ 0 ≤ n.toInt ∧ n.toInt ≤ d.toInt) ∧ r.toInt = sp_betw a.toInt b.toInt n.toInt d.toInt) (sp_bno n.toInt d.toInt)) 1 6 := by
  refine MetT.ofW (cc := b_F_between) (maxL := 15) (ret := some .int) (by decide) rfl ?_
  intro p e s m args below meth c s₁ B hml hv
  obtain ⟨hv, hZ⟩ := hv
  subst hv
  have hx := B.exec
  have hb := B.bytes
  have hr := B.returns
  have hts := atoms_spec (ws := w_F_between) B.pre
  have hown : s.vm.findClass R_F = some m.cls := findClass_of_methodNamed B.named
  have hlocks := B.notSynchronized
  have htr : e.platform.stackTraces = false := th_off hfl (Stand.of_body B).admits
  have hno := B.noHandlers (hts _ List.mem_cons_self)
  have hl := lv_entry ([.ref h0, .int a, .int b, .long n, .long d]) (n := 15) (Nat.le_of_ble_eq_true rfl)
  rw [lg_entry_eq]
  generalize (lg_sl ([.ref h0, .int a, .int b, .long n, .long d]) ++ List.replicate (15 - (lg_sl ([.ref h0, .int a, .int b, .long n, .long d])).length) Slot.unset).toArray = ls at hl ⊢
  have hl : lv_has ls 15 [(0, .ref h0), (1, .int a), (2, .int b), (3, .long n), (5, .long d)] := hl
  refine lv_lload hx hb d_F_between_0 (lv_at hl 4 rfl) ?_
  refine lv_lconst (v := 0) hx hb d_F_between_2 (by decide) ?_
  refine W.lcmp hx hb d_F_between_3 ?_
  refine lv_if_gt (tgt := 17) hx hb d_F_between_4 (by decide) (fun c4 => ?_) (fun c4 => ?_)
  · skip
    have c4 := (lg_cmp_gt _ _).mp c4
    refine lv_lload_n hx hb d_F_between_17 rfl (lv_at hl 3 rfl) ?_
    refine lv_lconst (v := 0) hx hb d_F_between_18 (by decide) ?_
    refine W.lcmp hx hb d_F_between_19 ?_
    refine lv_if_lt (tgt := 30) hx hb d_F_between_20 (by decide) (fun c20 => ?_) (fun c20 => ?_)
    · skip
      have c20 := (lg_cmp_lt _ _).mp c20
      obtain ⟨q9, hq9⟩ := hZ.2.2.2 (65, "n is not 0 .. d") (by decide)
      exact th_W (own := R_F) (cls := "java/lang/IllegalArgumentException") (names := thN) hx hb htr hown (by decide +kernel) (by decide +kernel) (th_at_64 hZ) hlocks (hl.1.trans hml.symm) (hts (.classLink R_F 60 "java/lang/IllegalArgumentException") (List.mem_cons_of_mem _ (tm (by decide +kernel) rfl))) (hts (.initialized "java/lang/IllegalArgumentException") (List.mem_cons_of_mem _ (tm (by decide +kernel) rfl))) hq9 (covers_of_empty hno _) (Nat.le_of_ble_eq_true rfl) (Nat.le_of_ble_eq_true rfl) (Nat.le_of_ble_eq_true rfl) (Nat.le_of_ble_eq_true rfl) d_F_between_30 d_F_between_33 d_F_between_34 d_F_between_36 d_F_between_39 (fun t a9 ce k1 k2 k3 k4 => Or.inr ⟨a9, ce, rfl, (by first | exact Or.inr (Or.inl (be_c2 c20)) | exact Or.inr (Or.inr (be_c3 c27))), k1, k3, k2⟩)
    · skip
      have c20 := (not_congr (lg_cmp_lt _ _)).mp c20
      refine lv_lload_n hx hb d_F_between_23 rfl (lv_at hl 3 rfl) ?_
      refine lv_lload hx hb d_F_between_24 (lv_at hl 4 rfl) ?_
      refine W.lcmp hx hb d_F_between_26 ?_
      refine lv_if_le (tgt := 40) hx hb d_F_between_27 (by decide) (fun c27 => ?_) (fun c27 => ?_)
      · skip
        have c27 := (lg_cmp_le _ _).mp c27
        have hdp : 0 < d.toInt := be_d1 c4
        have hn0 : 0 ≤ n.toInt := be_d2 c20
        have hnd : n.toInt ≤ d.toInt := be_d3 c27
        have hup : 0 < uN d := by have := be_pos d (by omega); omega
        have hu2 : uN d ≤ 9223372036854775808 := by have := be_pos d (by omega); have := fx_i64 d; omega
        have hun : uN n ≤ uN d := by have := be_pos d (by omega); have := be_pos n hn0; omega
        refine lv_iload_n hx hb d_F_between_40 rfl (lv_at hl 2 rfl) ?_
        refine lv_i2l hx hb d_F_between_41 rfl ?_
        refine lv_topl (fun v41 e41 => ?_)
        refine lv_iload_n hx hb d_F_between_42 rfl (lv_at hl 1 rfl) ?_
        refine lv_i2l hx hb d_F_between_43 rfl ?_
        refine lv_topl (fun v43 e43 => ?_)
        refine lv_lsub hx hb d_F_between_44 ?_
        refine lv_topl (fun v44 e44 => ?_)
        have hspan := be_span a b v41 v43 v44 e41 e43 e44
        refine lv_lstore (lv' := [(7, .long v44), (0, .ref h0), (1, .int a), (2, .int b), (3, .long n), (5, .long d)]) hx hb d_F_between_45 hl (by decide) rfl (fun ls hl => ?_)
        refine lv_lload hx hb d_F_between_47 (lv_at hl 0 rfl) ?_
        refine vp_callSl (W.runS (As := [.long v44]) (rest := []) ⟨hx, hb, hml, hown, hts⟩ (c_F_magnitude l v44 ) (cwS 1 hts g_F_35 rfl rfl rfl (by decide +kernel) ⟨Nat.le_of_ble_eq_true rfl, Nat.le_of_ble_eq_true rfl⟩) preEq rfl rfl hl.1 rfl (lv_room (Nat.le_of_ble_eq_true rfl)) d_F_between_49 ⟨Nat.zero_le _, Nat.zero_le _⟩) (fun v49 e49 => ?_)
        try dsimp only at e49
        have hsz : uN v49 < 4294967296 := by rw [e49, hspan]; have := fx_i32 a; have := fx_i32 b; omega
        refine lv_lstore (lv' := [(9, .long v49), (7, .long v44), (0, .ref h0), (1, .int a), (2, .int b), (3, .long n), (5, .long d)]) hx hb d_F_between_52 hl (by decide) rfl (fun ls hl => ?_)
        refine lv_lload hx hb d_F_between_54 (lv_at hl 0 rfl) ?_
        refine lv_lload_n hx hb d_F_between_56 rfl (lv_at hl 5 rfl) ?_
        refine lv_lmul hx hb d_F_between_57 ?_
        refine lv_topl (fun v57 e57 => ?_)
        refine lv_lstore (lv' := [(11, .long v57), (9, .long v49), (7, .long v44), (0, .ref h0), (1, .int a), (2, .int b), (3, .long n), (5, .long d)]) hx hb d_F_between_58 hl (by decide) rfl (fun ls hl => ?_)
        refine lv_lload hx hb d_F_between_60 (lv_at hl 1 rfl) ?_
        refine lv_lload_n hx hb d_F_between_62 rfl (lv_at hl 6 rfl) ?_
        refine vp_callSl (W.runS (As := [.long v49, .long n]) (rest := []) ⟨hx, hb, hml, hown, hts⟩ (c_F_highProduct l v49 n ) (cwS 2 hts g_F_39 rfl rfl rfl (by decide +kernel) ⟨Nat.le_of_ble_eq_true rfl, Nat.le_of_ble_eq_true rfl⟩) preEq rfl rfl hl.1 rfl (lv_room (Nat.le_of_ble_eq_true rfl)) d_F_between_63 ⟨Nat.zero_le _, Nat.zero_le _⟩) (fun v63 e63 => ?_)
        try dsimp only at e63
        have hlt := be_hi hsz hun hup e63
        refine lv_lload hx hb d_F_between_66 (lv_at hl 0 rfl) ?_
        refine lv_lload hx hb d_F_between_68 (lv_at hl 7 rfl) ?_
        refine vp_callSl (W.runS (As := [.long v63, .long v57, .long d]) (rest := []) ⟨hx, hb, hml, hown, hts⟩ (c_F_wholeQuotient l v63 v57 d hup hu2 hlt) (cwS 3 hts g_F_48 rfl rfl rfl (by decide +kernel) ⟨Nat.le_of_ble_eq_true rfl, Nat.le_of_ble_eq_true rfl⟩) preEq rfl rfl hl.1 rfl (lv_room (Nat.le_of_ble_eq_true rfl)) d_F_between_70 ⟨Nat.zero_le _, Nat.zero_le _⟩) (fun v70 e70 => ?_)
        try dsimp only at e70
        obtain ⟨q, hq⟩ : ∃ q, q = v44.toInt.natAbs * n.toInt.natAbs / d.toInt.natAbs := ⟨_, rfl⟩
        obtain ⟨rm, hrm⟩ : ∃ q, q = v44.toInt.natAbs * n.toInt.natAbs % d.toInt.natAbs := ⟨_, rfl⟩
        have hnN : uN n = n.toInt.natAbs := by have := be_pos n hn0; omega
        have hdN : uN d = d.toInt.natAbs := by have := be_pos d (by omega); omega
        have hw : uN v70 = q := by rw [e70, ra_P e63 e57, e49, hnN, hdN, hq]
        have hqb : q < 4294967296 := be_q hsz hun hup (by rw [hq, e49, hnN, hdN])
        refine lv_lstore (lv' := [(13, .long v70), (11, .long v57), (9, .long v49), (7, .long v44), (0, .ref h0), (1, .int a), (2, .int b), (3, .long n), (5, .long d)]) hx hb d_F_between_73 hl (by decide) rfl (fun ls hl => ?_)
        refine lv_iload_n hx hb d_F_between_75 rfl (lv_at hl 5 rfl) ?_
        refine lv_i2l hx hb d_F_between_76 rfl ?_
        refine lv_topl (fun v76 e76 => ?_)
        refine lv_lload hx hb d_F_between_77 (lv_at hl 0 rfl) ?_
        refine lv_lload hx hb d_F_between_79 (lv_at hl 0 rfl) ?_
        refine lv_lload hx hb d_F_between_81 (lv_at hl 8 rfl) ?_
        refine lv_lmul hx hb d_F_between_83 ?_
        refine lv_topl (fun v83 e83 => ?_)
        have hrest : v83 = v57 ↔ rm = 0 := by
          rw [ra_rest (P := uN v49 * uN n) hup hu2 (ra_low e57) (by rw [e70, ra_P e63 e57]) e83, e49, hnN, hdN, ← hrm]
        refine lv_lload hx hb d_F_between_84 (lv_at hl 1 rfl) ?_
        refine W.lcmp hx hb d_F_between_86 ?_
        refine jn_i (J := 95) (rest := [.long v70, .long v76]) (fun v => v = if rm = 0 then 0 else 1) (fun v95 e95 => ?_) (fun K95 => ?_)
        · skip
          refine lv_lload hx hb d_F_between_95 (lv_at hl 3 rfl) ?_
          refine lv_lconst (v := 0) hx hb d_F_between_97 (by decide) ?_
          refine W.lcmp hx hb d_F_between_98 ?_
          refine jn_i (J := 107) (rest := [.int v95, .long v70, .long v76]) (fun v => v = if v44.toInt < 0 then 1 else 0) (fun v107 e107 => ?_) (fun K107 => ?_)
          · skip
            have e107x := e107
            refine vp_callSl (W.runS (As := [.long v70, .int v95, .int v107]) (rest := [.long v76]) ⟨hx, hb, hml, hown, hts⟩ (c_F_signedDown l v70 v95 v107 ) (cwS 3 hts g_F_56 rfl rfl rfl (by decide +kernel) ⟨Nat.le_of_ble_eq_true rfl, Nat.le_of_ble_eq_true rfl⟩) preEq rfl rfl hl.1 rfl (lv_room (Nat.le_of_ble_eq_true rfl)) d_F_between_107 ⟨Nat.zero_le _, Nat.zero_le _⟩) (fun v107 e107 => ?_)
            try dsimp only at e107
            refine lv_ladd hx hb d_F_between_110 ?_
            refine lv_topl (fun v110 e110 => ?_)
            refine lv_l2i hx hb d_F_between_111 rfl ?_
            refine lv_topi (fun v111 e111 => ?_)
            refine W.widen (k := 1) (n := 6) (Nat.zero_le _) (Nat.zero_le _) ?_
            refine th_ret ?_
            refine W.iret (v := v111) hx hb hr (fun t ht hW => Or.inl ⟨_, rfl, ?_, ht⟩) (fun _ h => by cases h) d_F_between_112
            show (0 < d.toInt ∧ 0 ≤ n.toInt ∧ n.toInt ≤ d.toInt) ∧ v111.toInt = sp_betw a.toInt b.toInt n.toInt d.toInt
            exact ⟨⟨hdp, hn0, hnd⟩, be_fin a b n d v44 v107 v110 v111 hspan hn0 hdp hq hrm hqb (ra_down hw (e95.trans (by rw [hrm])) e107x e107 (Or.inl (by omega))) (by rw [e110, e76]) e111⟩
          · skip
            refine lv_if_ge (tgt := 106) hx hb d_F_between_99 (by decide) (fun c99 => ?_) (fun c99 => ?_)
            · skip
              have c99 := (lg_cmp_ge _ _).mp c99
              refine lv_iconst (v := 0) hx hb d_F_between_106 (by decide) ?_
              exact K107 _ (by first | exact be_s0 c99 | exact be_s1 c99)
            · skip
              have c99 := (not_congr (lg_cmp_ge _ _)).mp c99
              refine lv_iconst (v := 1) hx hb d_F_between_102 (by decide) ?_
              refine lv_goto (tgt := 107) hx hb d_F_between_103 (by decide) ?_
              exact K107 _ (by first | exact be_s0 c99 | exact be_s1 c99)
        · skip
          refine lv_if_eq (tgt := 94) hx hb d_F_between_87 (by decide) (fun c87 => ?_) (fun c87 => ?_)
          · skip
            have c87 := (lg_cmp_eq _ _).mp c87
            refine lv_iconst (v := 0) hx hb d_F_between_94 (by decide) ?_
            exact K95 _ (by first | (rw [if_pos (hrest.mp c87)]) | (rw [if_neg (fun q => c87 (hrest.mpr q))]))
          · skip
            have c87 := (not_congr (lg_cmp_eq _ _)).mp c87
            refine lv_iconst (v := 1) hx hb d_F_between_90 (by decide) ?_
            refine lv_goto (tgt := 95) hx hb d_F_between_91 (by decide) ?_
            exact K95 _ (by first | (rw [if_pos (hrest.mp c87)]) | (rw [if_neg (fun q => c87 (hrest.mpr q))]))
      · skip
        have c27 := (not_congr (lg_cmp_le _ _)).mp c27
        obtain ⟨q9, hq9⟩ := hZ.2.2.2 (65, "n is not 0 .. d") (by decide)
        exact th_W (own := R_F) (cls := "java/lang/IllegalArgumentException") (names := thN) hx hb htr hown (by decide +kernel) (by decide +kernel) (th_at_64 hZ) hlocks (hl.1.trans hml.symm) (hts (.classLink R_F 60 "java/lang/IllegalArgumentException") (List.mem_cons_of_mem _ (tm (by decide +kernel) rfl))) (hts (.initialized "java/lang/IllegalArgumentException") (List.mem_cons_of_mem _ (tm (by decide +kernel) rfl))) hq9 (covers_of_empty hno _) (Nat.le_of_ble_eq_true rfl) (Nat.le_of_ble_eq_true rfl) (Nat.le_of_ble_eq_true rfl) (Nat.le_of_ble_eq_true rfl) d_F_between_30 d_F_between_33 d_F_between_34 d_F_between_36 d_F_between_39 (fun t a9 ce k1 k2 k3 k4 => Or.inr ⟨a9, ce, rfl, (by first | exact Or.inr (Or.inl (be_c2 c20)) | exact Or.inr (Or.inr (be_c3 c27))), k1, k3, k2⟩)
  · skip
    have c4 := (not_congr (lg_cmp_gt _ _)).mp c4
    obtain ⟨q9, hq9⟩ := hZ.2.2.2 (62, "d is not above 0") (by decide)
    exact th_W (own := R_F) (cls := "java/lang/IllegalArgumentException") (names := thN) hx hb htr hown (by decide +kernel) (by decide +kernel) (th_at_64 hZ) hlocks (hl.1.trans hml.symm) (hts (.classLink R_F 60 "java/lang/IllegalArgumentException") (List.mem_cons_of_mem _ (tm (by decide +kernel) rfl))) (hts (.initialized "java/lang/IllegalArgumentException") (List.mem_cons_of_mem _ (tm (by decide +kernel) rfl))) hq9 (covers_of_empty hno _) (Nat.le_of_ble_eq_true rfl) (Nat.le_of_ble_eq_true rfl) (Nat.le_of_ble_eq_true rfl) (Nat.le_of_ble_eq_true rfl) d_F_between_7 d_F_between_10 d_F_between_11 d_F_between_13 d_F_between_16 (fun t a9 ce k1 k2 k3 k4 => Or.inr ⟨a9, ce, rfl, Or.inl (be_c1 c4), k1, k3, k2⟩)
end
section
/-! the numbers of the reference -/
theorem nI_ofInt (n : Nat) : nI n = Int32.ofInt (n : Int) := by
  apply Int32.toBitVec_inj.mp
  show BitVec.ofNat 32 n = BitVec.ofInt 32 (n : Int)
  exact (BitVec.ofInt_natCast 32 n).symm
theorem of_toInt (x : Int32) : Int32.ofInt x.toInt = x := Int32.toInt_inj.mp (by rw [Int32.toInt_ofInt]; exact Int32.toInt_bmod x)
theorem sh_16 (x : Int32) : x <<< ((16 : Int32) &&& 31) = x * 65536 := by
  apply Int32.toBitVec_inj.mp
  apply BitVec.eq_of_toNat_eq
  rw [pk_shl x _ 16 (by decide), Int32.toBitVec_mul, BitVec.toNat_mul]
  rfl
theorem lo_16 (a : Int32) : a &&& 65535 = nI (a.toBitVec.toNat % 65536) := pk_and a 16 (by decide)
theorem hi_16 (a v : Int32) (e : v = a >>> ((16 : Int32) &&& 31)) : v.toInt = a.toInt / 65536 := by
  rw [e, pk_shr a _ 16 (by decide), Int.shiftRight_eq_div_pow]
  rfl
theorem mp_all (a b v8 v13 v19 v25 v31 v34 v38 v39 v44 v45 v50 v53 v54 : Int32) (e8 : v8 = a >>> ((16 : Int32) &&& 31)) (e13 : v13 = a &&& 65535) (e19 : v19 = b >>> ((16 : Int32) &&& 31)) (e25 : v25 = b &&& 65535) (e31 : v31 = v8 * v19) (e34 : v34 = v31 <<< ((16 : Int32) &&& 31)) (e38 : v38 = v8 * v25) (e39 : v39 = v34 + v38) (e44 : v44 = v13 * v19) (e45 : v45 = v39 + v44) (e50 : v50 = v13 * v25)
    (e53 : v53 = (v50.toUInt32 >>> ((16 : Int32).toUInt32 &&& Int32.toUInt32 31)).toInt32) (e54 : v54 = v45 + v53) : v54.toInt = (a.toInt * b.toInt / 65536).bmod (2 ^ 32) := by
  have hA := hi_16 a v8 e8
  have hB := hi_16 b v19 e19
  have ta := fx_tn a
  have tb := fx_tn b
  obtain ⟨AL, hAL⟩ : ∃ n, n = a.toBitVec.toNat % 65536 := ⟨_, rfl⟩
  obtain ⟨BL, hBL⟩ : ∃ n, n = b.toBitVec.toNat % 65536 := ⟨_, rfl⟩
  have f13 : v13 = nI AL := by rw [e13, lo_16, hAL]
  have f25 : v25 = nI BL := by rw [e25, lo_16, hBL]
  have bA : AL < 65536 := by omega
  have bB : BL < 65536 := by omega
  have ea : a.toInt = v8.toInt * 65536 + AL := by omega
  have eb : b.toInt = v19.toInt * 65536 + BL := by omega
  have hm := Nat.mul_le_mul (show AL ≤ 65535 by omega) (show BL ≤ 65535 by omega)
  have f53 : v53 = nI (AL * BL / 65536) := by
    rw [e53, e50, f13, f25, pk_mul]
    exact pk_ushrN (by omega) _ 16 (by decide)
  have hr : v54 = Int32.ofInt (v8.toInt * v19.toInt * 65536 + v8.toInt * BL + AL * v19.toInt + ((AL * BL / 65536 : Nat) : Int)) := by
    rw [Int32.ofInt_add, Int32.ofInt_add, Int32.ofInt_add, Int32.ofInt_mul, Int32.ofInt_mul, Int32.ofInt_mul, Int32.ofInt_mul, of_toInt, of_toInt, ← nI_ofInt, ← nI_ofInt, ← nI_ofInt, ← f13, ← f25, ← f53, e54, e45, e39, e34, sh_16, e31, e38, e44]
    rfl
  have ep : a.toInt * b.toInt / 65536 = v8.toInt * v19.toInt * 65536 + v8.toInt * BL + AL * v19.toInt + ((AL * BL / 65536 : Nat) : Int) := by
    have e1 : a.toInt * b.toInt = (v8.toInt * v19.toInt * 65536 + v8.toInt * BL + AL * v19.toInt) * 65536 + (AL : Int) * BL := by
      rw [ea, eb, Int.add_mul, Int.mul_add, Int.mul_add]
      have g1 : v8.toInt * 65536 * (v19.toInt * 65536) = v8.toInt * v19.toInt * 65536 * 65536 := by
        rw [Int.mul_assoc, Int.mul_left_comm 65536, ← Int.mul_assoc, ← Int.mul_assoc]
      have g2 : v8.toInt * 65536 * (BL : Int) = v8.toInt * BL * 65536 := Int.mul_right_comm ..
      have g3 : (AL : Int) * (v19.toInt * 65536) = AL * v19.toInt * 65536 := (Int.mul_assoc ..).symm
      rw [g1, g2, g3]
      omega
    have e2 : (AL : Int) * BL = ((AL * BL : Nat) : Int) := by rw [Int.natCast_mul]
    rw [e1, e2]
    generalize AL * BL = Z
    omega
  rw [hr, ep, Int32.toInt_ofInt]
/-- nearest -/
theorem nr_nz {y : Int32} {b : Nat} (hy : y = nI b) (h0 : 0 < b) (hb : b < 1073741824) : ¬ y = 0 := by rw [hy]; exact nI_ne0 h0 (by omega)
theorem nr_v {x y v2 v7 v8 : Int32} {a b : Nat} (hx : x = nI a) (hy : y = nI b) (ha : a < 1073741824) (h0 : 0 < b) (hb : b < 1073741824) (e2 : v2 = x / y) (e7 : v7 = x - x / y * y) (e8 : v8 = 2 * v7) : v2 = nI (a / b) ∧ v8 = nI (2 * (a % b)) := by
  have f7 : v7 = nI (a % b) := by rw [e7, hx, hy]; exact pk_rem (by omega) h0 (by omega)
  refine ⟨by rw [e2, hx, hy]; exact pk_div (by omega) h0 (by omega), ?_⟩
  rw [e8, f7]
  exact pk_mul 2 (a % b)
theorem nr_yes {x y v2 v7 v8 r : Int32} {a b : Nat} (hx : x = nI a) (hy : y = nI b) (ha : a < 1073741824) (h0 : 0 < b) (hb : b < 1073741824) (e2 : v2 = x / y) (e7 : v7 = x - x / y * y) (e8 : v8 = 2 * v7) (h : y ≤ v8) (er : r = v2 + 1) : r = nI (a / b + (if b ≤ 2 * (a % b) then 1 else 0)) := by
  obtain ⟨f2, f8⟩ := nr_v hx hy ha h0 hb e2 e7 e8
  have hm := Nat.mod_lt a h0
  rw [hy, f8, nI_leI (by omega) (by omega)] at h
  rw [er, f2, if_pos h]
  exact nI_1 _
theorem nr_no {x y v2 v7 v8 : Int32} {a b : Nat} (hx : x = nI a) (hy : y = nI b) (ha : a < 1073741824) (h0 : 0 < b) (hb : b < 1073741824) (e2 : v2 = x / y) (e7 : v7 = x - x / y * y) (e8 : v8 = 2 * v7) (h : v8 < y) : v2 = nI (a / b + (if b ≤ 2 * (a % b) then 1 else 0)) := by
  obtain ⟨f2, f8⟩ := nr_v hx hy ha h0 hb e2 e7 e8
  have hm := Nat.mod_lt a h0
  rw [hy, f8, nI_ltI (by omega) (by omega)] at h
  rw [f2, if_neg (by omega), Nat.add_zero]
/-- scaled -/
def sp_sc (n : Nat) : Nat := if n / 1024 % 32 = 0 then n % 1024 else (1024 + n % 1024) * 2 ^ (n / 1024 % 32 - 1)
theorem sc_0 {h v6 v12 : Int32} {w : Int64} (f4 : v6 = nI (h.toBitVec.toNat / 1024 % 32)) (f12 : v12 = nI (h.toBitVec.toNat % 1024)) (c : v6 = 0) (e : w = v12.toInt64) : w = lN (sp_sc h.toBitVec.toNat) := by
  rw [e, f12, nI_l (by omega), sp_sc, if_pos ((fh_00 f4).mp c)]
theorem sc_1 {h v6 v12 v30 : Int32} {w v27 v31 : Int64} (f4 : v6 = nI (h.toBitVec.toNat / 1024 % 32)) (f12 : v12 = nI (h.toBitVec.toNat % 1024)) (c : ¬ v6 = 0) (e : w = v12.toInt64) (e27 : v27 = 1024 + w) (e30 : v30 = v6 - 1) (e31 : v31 = v27 <<< (v30.toInt64 &&& 63)) : v31 = lN (sp_sc h.toBitVec.toNat) := by
  have hne : ¬ h.toBitVec.toNat / 1024 % 32 = 0 := fun z => c ((fh_00 f4).mpr z)
  have g27 : v27 = lN (1024 + h.toBitVec.toNat % 1024) := by
    rw [e27, e, f12, nI_l (by omega), ← lN_add]
    rfl
  have g30 : v30 = nI (h.toBitVec.toNat / 1024 % 32 - 1) := by rw [e30, f4]; exact pk_sub (b := 1) (by omega)
  rw [e31, g27, g30, wb_shl _ (by omega), sp_sc, if_neg hne]
/-- channel -/
theorem mc_0 (a : Int32) (h : a < 0) : (0 : Int32).toInt = sp_chan a.toInt := by
  have z : (0 : Int32).toInt = 0 := by decide
  rw [Int32.lt_iff_toInt_lt, z] at h
  rw [z, sp_chan]
  omega
theorem mc_1 (a : Int32) (h : 65536 < a) : (255 : Int32).toInt = sp_chan a.toInt := by
  have z : (65536 : Int32).toInt = 65536 := by decide
  rw [Int32.lt_iff_toInt_lt, z] at h
  rw [show (255 : Int32).toInt = 255 from by decide, sp_chan]
  omega
theorem mc_r (a : Int32) (h0 : 0 ≤ a) (h1 : a ≤ 65536) : 0 ≤ a.toInt ∧ a.toInt ≤ 65536 := by
  have z : (65536 : Int32).toInt = 65536 := by decide
  rw [Int32.le_iff_toInt_le, z] at h1
  exact ⟨fx_ge a h0, h1⟩
theorem mc_x (a v : Int32) (h0 : 0 ≤ a) (h1 : a ≤ 65536) (e : v = 255 * a) : v = nI (255 * a.toInt.toNat) := by
  obtain ⟨k0, k1⟩ := mc_r a h0 h1
  apply Int32.toInt_inj.mp
  rw [nI_toInt (by omega), e, Int32.toInt_mul, show (255 : Int32).toInt = 255 from by decide, fx_bm32 (by omega) (by omega)]
  omega
theorem mc_b (a : Int32) (h0 : 0 ≤ a) (h1 : a ≤ 65536) : 255 * a.toInt.toNat < 1073741824 := by
  obtain ⟨k0, k1⟩ := mc_r a h0 h1
  omega
theorem mc_2 (a r : Int32) (h0 : 0 ≤ a) (h1 : a ≤ 65536) (e : r = nI (255 * a.toInt.toNat / 65536 + (if 65536 ≤ 2 * (255 * a.toInt.toNat % 65536) then 1 else 0))) : r.toInt = sp_chan a.toInt := by
  obtain ⟨k0, k1⟩ := mc_r a h0 h1
  obtain ⟨n, hn⟩ : ∃ n : Nat, a.toInt = (n : Int) := ⟨a.toInt.toNat, by omega⟩
  rw [hn] at e ⊢
  have e1 : ((n : Int)).toNat = n := by omega
  rw [e1] at e
  rw [e, nI_toInt (by split <;> omega), sp_chan]
  split <;> omega
/-- bytes -/
theorem mb_1 {a : Int32} (h : a < 0 ∨ 255 < a) : (1 : Int32) = if sp_byte a.toInt then 0 else 1 := by
  have z : (0 : Int32).toInt = 0 := by decide
  have z2 : (255 : Int32).toInt = 255 := by decide
  rw [Int32.lt_iff_toInt_lt, z, Int32.lt_iff_toInt_lt, z2] at h
  rw [if_neg (by unfold sp_byte; omega)]
theorem mb_by {a : Int32} (h1 : ¬ a < 0) (h2 : a ≤ 255) : sp_byte a.toInt := by
  have z : (0 : Int32).toInt = 0 := by decide
  have z2 : (255 : Int32).toInt = 255 := by decide
  rw [Int32.lt_iff_toInt_lt, z] at h1
  rw [Int32.le_iff_toInt_le, z2] at h2
  exact ⟨by omega, h2⟩
theorem mb_0 {a : Int32} (h1 : ¬ a < 0) (h2 : a ≤ 255) : (0 : Int32) = if sp_byte a.toInt then 0 else 1 := by
  rw [if_pos (mb_by h1 h2)]
theorem mb_no {a : Int32} (h : a < 0 ∨ 255 < a) : ¬ sp_byte a.toInt := by
  have z : (0 : Int32).toInt = 0 := by decide
  have z2 : (255 : Int32).toInt = 255 := by decide
  rw [Int32.lt_iff_toInt_lt, z, Int32.lt_iff_toInt_lt, z2] at h
  unfold sp_byte
  omega
theorem mb_2 {a b : Int32} (h : (a < 0 ∨ 255 < a) ∨ (b < 0 ∨ 255 < b)) : (1 : Int32) = if sp_byte a.toInt ∧ sp_byte b.toInt then 0 else 1 := by
  rw [if_neg]
  rintro ⟨k1, k2⟩
  rcases h with h | h
  · exact mb_no h k1
  · exact mb_no h k2
theorem mb_3 {a b : Int32} (h1 : ¬ a < 0) (h2 : ¬ 255 < a) (h3 : ¬ b < 0) (h4 : b ≤ 255) : (0 : Int32) = if sp_byte a.toInt ∧ sp_byte b.toInt then 0 else 1 := by
  rw [if_pos ⟨mb_by h1 (Int32.not_lt.mp h2), mb_by h3 h4⟩]
theorem mb_t {P : Prop} [Decidable P] {v : Int32} (e : v = if P then 0 else 1) : (¬ v ≤ 0 → v = 1) ∧ (¬ v ≤ 0 → ¬ P) ∧ (v ≤ 0 → v = 0) ∧ (v ≤ 0 → P) := by
  by_cases h : P
  · rw [if_pos h] at e
    subst e
    exact ⟨fun z => absurd (by decide) z, fun z => absurd (by decide) z, fun _ => rfl, fun _ => h⟩
  · rw [if_neg h] at e
    subst e
    exact ⟨fun _ => rfl, fun _ => h, fun z => absurd z (by decide), fun z => absurd z (by decide)⟩
theorem mf_n {a : Int32} (h : sp_byte a.toInt) : ∃ n : Nat, n ≤ 255 ∧ a.toInt = (n : Int) ∧ a.toInt.toNat = n := by
  obtain ⟨h1, h2⟩ := h
  exact ⟨a.toInt.toNat, by omega, by omega, rfl⟩
theorem mf_x {a v : Int32} (h : sp_byte a.toInt) (e : v = 65536 * a) : v = nI (65536 * a.toInt.toNat) := by
  obtain ⟨n, hn, e1, e2⟩ := mf_n h
  apply Int32.toInt_inj.mp
  rw [fx_fix h e, nI_toInt (by omega)]
  omega
theorem mf_b {a : Int32} (h : sp_byte a.toInt) : 65536 * a.toInt.toNat < 1073741824 := by
  obtain ⟨n, hn, e1, e2⟩ := mf_n h
  omega
theorem nr_255 {Z : Nat} (h : Z ≤ 16711680) {r : Int32} (e : r = nI (Z / 255 + (if 255 ≤ 2 * (Z % 255) then 1 else 0))) : r.toInt = (2 * (Z : Int) + 255) / 510 := by
  rw [e, nI_toInt (by split <;> omega)]
  split <;> omega
theorem mf_1 {a r : Int32} (h : sp_byte a.toInt) (e : r = nI (65536 * a.toInt.toNat / 255 + (if 255 ≤ 2 * (65536 * a.toInt.toNat % 255) then 1 else 0))) : r.toInt = (2 * (65536 * a.toInt) + 255) / 510 := by
  obtain ⟨n, hn, e1, e2⟩ := mf_n h
  rw [e2] at e
  have := nr_255 (Z := 65536 * n) (by omega) e
  rw [this, e1]
  omega
theorem ms_m {a b : Int32} (h : sp_byte a.toInt) (k : sp_byte b.toInt) : a.toInt.toNat * b.toInt.toNat ≤ 65025 ∧ a.toInt * b.toInt = ((a.toInt.toNat * b.toInt.toNat : Nat) : Int) := by
  obtain ⟨n, hn, e1, e2⟩ := mf_n h
  obtain ⟨o, ho, g1, g2⟩ := mf_n k
  rw [e2, g2, e1, g1, Int.natCast_mul]
  exact ⟨Nat.mul_le_mul hn ho, rfl⟩
theorem ms_x {a b v : Int32} (h : sp_byte a.toInt) (k : sp_byte b.toInt) (e : v = a * b) : v = nI (a.toInt.toNat * b.toInt.toNat) := by
  obtain ⟨m1, m2⟩ := ms_m h k
  apply Int32.toInt_inj.mp
  rw [(fx_sha h k e).1, nI_toInt (by omega), m2]
theorem ms_b {a b : Int32} (h : sp_byte a.toInt) (k : sp_byte b.toInt) : a.toInt.toNat * b.toInt.toNat < 1073741824 := by
  have := (ms_m h k).1
  omega
theorem ms_1 {a b r : Int32} (h : sp_byte a.toInt) (k : sp_byte b.toInt) (e : r = nI (a.toInt.toNat * b.toInt.toNat / 255 + (if 255 ≤ 2 * (a.toInt.toNat * b.toInt.toNat % 255) then 1 else 0))) : r.toInt = (2 * (a.toInt * b.toInt) + 255) / 510 := by
  obtain ⟨m1, m2⟩ := ms_m h k
  rw [nr_255 (by omega) e, m2]
end
section
theorem d_M_init_0 : decode b_M_init 0 = .ok (.aload_n 0, 1) := by decide +kernel
theorem d_M_init_1 : decode b_M_init 1 = .ok (.invokespecial 1, 3) := by decide +kernel
theorem d_M_init_4 : decode b_M_init 4 = .ok (.return_, 1) := by decide +kernel
theorem d_M_thrown_0 : decode b_M_thrown 0 = .ok (.aload_n 0, 1) := by decide +kernel
theorem d_M_thrown_1 : decode b_M_thrown 1 = .ok (.getfield 7, 3) := by decide +kernel
theorem d_M_thrown_4 : decode b_M_thrown 4 = .ok (.ireturn, 1) := by decide +kernel
theorem d_M_product_0 : decode b_M_product 0 = .ok (.aload_n 0, 1) := by decide +kernel
theorem d_M_product_1 : decode b_M_product 1 = .ok (.iconst 0, 1) := by decide +kernel
theorem d_M_product_2 : decode b_M_product 2 = .ok (.putfield 7, 3) := by decide +kernel
theorem d_M_product_5 : decode b_M_product 5 = .ok (.iload_n 1, 1) := by decide +kernel
theorem d_M_product_6 : decode b_M_product 6 = .ok (.bipush 16, 2) := by decide +kernel
theorem d_M_product_8 : decode b_M_product 8 = .ok (.ishr, 1) := by decide +kernel
theorem d_M_product_9 : decode b_M_product 9 = .ok (.istore_n 3, 1) := by decide +kernel
theorem d_M_product_10 : decode b_M_product 10 = .ok (.iload_n 1, 1) := by decide +kernel
theorem d_M_product_11 : decode b_M_product 11 = .ok (.ldc 13, 2) := by decide +kernel
theorem d_M_product_13 : decode b_M_product 13 = .ok (.iand, 1) := by decide +kernel
theorem d_M_product_14 : decode b_M_product 14 = .ok (.istore 4, 2) := by decide +kernel
theorem d_M_product_16 : decode b_M_product 16 = .ok (.iload_n 2, 1) := by decide +kernel
theorem d_M_product_17 : decode b_M_product 17 = .ok (.bipush 16, 2) := by decide +kernel
theorem d_M_product_19 : decode b_M_product 19 = .ok (.ishr, 1) := by decide +kernel
theorem d_M_product_20 : decode b_M_product 20 = .ok (.istore 5, 2) := by decide +kernel
theorem d_M_product_22 : decode b_M_product 22 = .ok (.iload_n 2, 1) := by decide +kernel
theorem d_M_product_23 : decode b_M_product 23 = .ok (.ldc 13, 2) := by decide +kernel
theorem d_M_product_25 : decode b_M_product 25 = .ok (.iand, 1) := by decide +kernel
theorem d_M_product_26 : decode b_M_product 26 = .ok (.istore 6, 2) := by decide +kernel
theorem d_M_product_28 : decode b_M_product 28 = .ok (.iload_n 3, 1) := by decide +kernel
theorem d_M_product_29 : decode b_M_product 29 = .ok (.iload 5, 2) := by decide +kernel
theorem d_M_product_31 : decode b_M_product 31 = .ok (.imul, 1) := by decide +kernel
theorem d_M_product_32 : decode b_M_product 32 = .ok (.bipush 16, 2) := by decide +kernel
theorem d_M_product_34 : decode b_M_product 34 = .ok (.ishl, 1) := by decide +kernel
theorem d_M_product_35 : decode b_M_product 35 = .ok (.iload_n 3, 1) := by decide +kernel
theorem d_M_product_36 : decode b_M_product 36 = .ok (.iload 6, 2) := by decide +kernel
theorem d_M_product_38 : decode b_M_product 38 = .ok (.imul, 1) := by decide +kernel
theorem d_M_product_39 : decode b_M_product 39 = .ok (.iadd, 1) := by decide +kernel
theorem d_M_product_40 : decode b_M_product 40 = .ok (.iload 4, 2) := by decide +kernel
theorem d_M_product_42 : decode b_M_product 42 = .ok (.iload 5, 2) := by decide +kernel
theorem d_M_product_44 : decode b_M_product 44 = .ok (.imul, 1) := by decide +kernel
theorem d_M_product_45 : decode b_M_product 45 = .ok (.iadd, 1) := by decide +kernel
theorem d_M_product_46 : decode b_M_product 46 = .ok (.iload 4, 2) := by decide +kernel
theorem d_M_product_48 : decode b_M_product 48 = .ok (.iload 6, 2) := by decide +kernel
theorem d_M_product_50 : decode b_M_product 50 = .ok (.imul, 1) := by decide +kernel
theorem d_M_product_51 : decode b_M_product 51 = .ok (.bipush 16, 2) := by decide +kernel
theorem d_M_product_53 : decode b_M_product 53 = .ok (.iushr, 1) := by decide +kernel
theorem d_M_product_54 : decode b_M_product 54 = .ok (.iadd, 1) := by decide +kernel
theorem d_M_product_55 : decode b_M_product 55 = .ok (.ireturn, 1) := by decide +kernel
theorem d_M_quotient_0 : decode b_M_quotient 0 = .ok (.aload_n 0, 1) := by decide +kernel
theorem d_M_quotient_1 : decode b_M_quotient 1 = .ok (.iconst 0, 1) := by decide +kernel
theorem d_M_quotient_2 : decode b_M_quotient 2 = .ok (.putfield 7, 3) := by decide +kernel
theorem d_M_quotient_5 : decode b_M_quotient 5 = .ok (.iload_n 2, 1) := by decide +kernel
theorem d_M_quotient_6 : decode b_M_quotient 6 = .ok (.ifCond .ne 23, 3) := by decide +kernel
theorem d_M_quotient_9 : decode b_M_quotient 9 = .ok (.iload_n 1, 1) := by decide +kernel
theorem d_M_quotient_10 : decode b_M_quotient 10 = .ok (.ifCond .le 8, 3) := by decide +kernel
theorem d_M_quotient_13 : decode b_M_quotient 13 = .ok (.ldc 42, 2) := by decide +kernel
theorem d_M_quotient_15 : decode b_M_quotient 15 = .ok (.goto 13, 3) := by decide +kernel
theorem d_M_quotient_18 : decode b_M_quotient 18 = .ok (.iload_n 1, 1) := by decide +kernel
theorem d_M_quotient_19 : decode b_M_quotient 19 = .ok (.ifCond .ge 8, 3) := by decide +kernel
theorem d_M_quotient_22 : decode b_M_quotient 22 = .ok (.ldc 43, 2) := by decide +kernel
theorem d_M_quotient_24 : decode b_M_quotient 24 = .ok (.goto 4, 3) := by decide +kernel
theorem d_M_quotient_27 : decode b_M_quotient 27 = .ok (.iconst 0, 1) := by decide +kernel
theorem d_M_quotient_28 : decode b_M_quotient 28 = .ok (.ireturn, 1) := by decide +kernel
theorem d_M_quotient_29 : decode b_M_quotient 29 = .ok (.iload_n 1, 1) := by decide +kernel
theorem d_M_quotient_30 : decode b_M_quotient 30 = .ok (.i2l, 1) := by decide +kernel
theorem d_M_quotient_31 : decode b_M_quotient 31 = .ok (.invokestatic 30, 3) := by decide +kernel
theorem d_M_quotient_34 : decode b_M_quotient 34 = .ok (.lstore_n 3, 1) := by decide +kernel
theorem d_M_quotient_35 : decode b_M_quotient 35 = .ok (.iload_n 2, 1) := by decide +kernel
theorem d_M_quotient_36 : decode b_M_quotient 36 = .ok (.i2l, 1) := by decide +kernel
theorem d_M_quotient_37 : decode b_M_quotient 37 = .ok (.invokestatic 30, 3) := by decide +kernel
theorem d_M_quotient_40 : decode b_M_quotient 40 = .ok (.lstore 5, 2) := by decide +kernel
theorem d_M_quotient_42 : decode b_M_quotient 42 = .ok (.lconst 0, 1) := by decide +kernel
theorem d_M_quotient_43 : decode b_M_quotient 43 = .ok (.lstore 7, 2) := by decide +kernel
theorem d_M_quotient_45 : decode b_M_quotient 45 = .ok (.lconst 0, 1) := by decide +kernel
theorem d_M_quotient_46 : decode b_M_quotient 46 = .ok (.lstore 9, 2) := by decide +kernel
theorem d_M_quotient_48 : decode b_M_quotient 48 = .ok (.bipush 47, 2) := by decide +kernel
theorem d_M_quotient_50 : decode b_M_quotient 50 = .ok (.istore 11, 2) := by decide +kernel
theorem d_M_quotient_52 : decode b_M_quotient 52 = .ok (.iload 11, 2) := by decide +kernel
theorem d_M_quotient_54 : decode b_M_quotient 54 = .ok (.ifCond .lt 63, 3) := by decide +kernel
theorem d_M_quotient_57 : decode b_M_quotient 57 = .ok (.lload 9, 2) := by decide +kernel
theorem d_M_quotient_59 : decode b_M_quotient 59 = .ok (.iconst 1, 1) := by decide +kernel
theorem d_M_quotient_60 : decode b_M_quotient 60 = .ok (.lshl, 1) := by decide +kernel
theorem d_M_quotient_61 : decode b_M_quotient 61 = .ok (.iload 11, 2) := by decide +kernel
theorem d_M_quotient_63 : decode b_M_quotient 63 = .ok (.bipush 15, 2) := by decide +kernel
theorem d_M_quotient_65 : decode b_M_quotient 65 = .ok (.if_icmp .le 15, 3) := by decide +kernel
theorem d_M_quotient_68 : decode b_M_quotient 68 = .ok (.lload_n 3, 1) := by decide +kernel
theorem d_M_quotient_69 : decode b_M_quotient 69 = .ok (.iload 11, 2) := by decide +kernel
theorem d_M_quotient_71 : decode b_M_quotient 71 = .ok (.bipush 16, 2) := by decide +kernel
theorem d_M_quotient_73 : decode b_M_quotient 73 = .ok (.isub, 1) := by decide +kernel
theorem d_M_quotient_74 : decode b_M_quotient 74 = .ok (.lshr, 1) := by decide +kernel
theorem d_M_quotient_75 : decode b_M_quotient 75 = .ok (.lconst 1, 1) := by decide +kernel
theorem d_M_quotient_76 : decode b_M_quotient 76 = .ok (.land, 1) := by decide +kernel
theorem d_M_quotient_77 : decode b_M_quotient 77 = .ok (.goto 4, 3) := by decide +kernel
theorem d_M_quotient_80 : decode b_M_quotient 80 = .ok (.lconst 0, 1) := by decide +kernel
theorem d_M_quotient_81 : decode b_M_quotient 81 = .ok (.lor, 1) := by decide +kernel
theorem d_M_quotient_82 : decode b_M_quotient 82 = .ok (.lstore 9, 2) := by decide +kernel
theorem d_M_quotient_84 : decode b_M_quotient 84 = .ok (.lload 7, 2) := by decide +kernel
theorem d_M_quotient_86 : decode b_M_quotient 86 = .ok (.iconst 1, 1) := by decide +kernel
theorem d_M_quotient_87 : decode b_M_quotient 87 = .ok (.lshl, 1) := by decide +kernel
theorem d_M_quotient_88 : decode b_M_quotient 88 = .ok (.lstore 7, 2) := by decide +kernel
theorem d_M_quotient_90 : decode b_M_quotient 90 = .ok (.lload 9, 2) := by decide +kernel
theorem d_M_quotient_92 : decode b_M_quotient 92 = .ok (.lload 5, 2) := by decide +kernel
theorem d_M_quotient_94 : decode b_M_quotient 94 = .ok (.lcmp, 1) := by decide +kernel
theorem d_M_quotient_95 : decode b_M_quotient 95 = .ok (.ifCond .lt 16, 3) := by decide +kernel
theorem d_M_quotient_98 : decode b_M_quotient 98 = .ok (.lload 9, 2) := by decide +kernel
theorem d_M_quotient_100 : decode b_M_quotient 100 = .ok (.lload 5, 2) := by decide +kernel
theorem d_M_quotient_102 : decode b_M_quotient 102 = .ok (.lsub, 1) := by decide +kernel
theorem d_M_quotient_103 : decode b_M_quotient 103 = .ok (.lstore 9, 2) := by decide +kernel
theorem d_M_quotient_105 : decode b_M_quotient 105 = .ok (.lload 7, 2) := by decide +kernel
theorem d_M_quotient_107 : decode b_M_quotient 107 = .ok (.lconst 1, 1) := by decide +kernel
theorem d_M_quotient_108 : decode b_M_quotient 108 = .ok (.lor, 1) := by decide +kernel
theorem d_M_quotient_109 : decode b_M_quotient 109 = .ok (.lstore 7, 2) := by decide +kernel
theorem d_M_quotient_111 : decode b_M_quotient 111 = .ok (.iinc 11 (-1), 3) := by decide +kernel
theorem d_M_quotient_114 : decode b_M_quotient 114 = .ok (.goto (-62), 3) := by decide +kernel
theorem d_M_quotient_117 : decode b_M_quotient 117 = .ok (.iload_n 1, 1) := by decide +kernel
theorem d_M_quotient_118 : decode b_M_quotient 118 = .ok (.ifCond .ge 7, 3) := by decide +kernel
theorem d_M_quotient_121 : decode b_M_quotient 121 = .ok (.iconst 1, 1) := by decide +kernel
theorem d_M_quotient_122 : decode b_M_quotient 122 = .ok (.goto 4, 3) := by decide +kernel
theorem d_M_quotient_125 : decode b_M_quotient 125 = .ok (.iconst 0, 1) := by decide +kernel
theorem d_M_quotient_126 : decode b_M_quotient 126 = .ok (.iload_n 2, 1) := by decide +kernel
theorem d_M_quotient_127 : decode b_M_quotient 127 = .ok (.ifCond .ge 7, 3) := by decide +kernel
theorem d_M_quotient_130 : decode b_M_quotient 130 = .ok (.iconst 1, 1) := by decide +kernel
theorem d_M_quotient_131 : decode b_M_quotient 131 = .ok (.goto 4, 3) := by decide +kernel
theorem d_M_quotient_134 : decode b_M_quotient 134 = .ok (.iconst 0, 1) := by decide +kernel
theorem d_M_quotient_135 : decode b_M_quotient 135 = .ok (.if_icmp .eq 27, 3) := by decide +kernel
theorem d_M_quotient_138 : decode b_M_quotient 138 = .ok (.iload_n 1, 1) := by decide +kernel
theorem d_M_quotient_139 : decode b_M_quotient 139 = .ok (.ifCond .eq 23, 3) := by decide +kernel
theorem d_M_quotient_142 : decode b_M_quotient 142 = .ok (.lload 9, 2) := by decide +kernel
theorem d_M_quotient_144 : decode b_M_quotient 144 = .ok (.lconst 0, 1) := by decide +kernel
theorem d_M_quotient_145 : decode b_M_quotient 145 = .ok (.lcmp, 1) := by decide +kernel
theorem d_M_quotient_146 : decode b_M_quotient 146 = .ok (.ifCond .le 11, 3) := by decide +kernel
theorem d_M_quotient_149 : decode b_M_quotient 149 = .ok (.lload 7, 2) := by decide +kernel
theorem d_M_quotient_151 : decode b_M_quotient 151 = .ok (.lneg, 1) := by decide +kernel
theorem d_M_quotient_152 : decode b_M_quotient 152 = .ok (.lconst 1, 1) := by decide +kernel
theorem d_M_quotient_153 : decode b_M_quotient 153 = .ok (.lsub, 1) := by decide +kernel
theorem d_M_quotient_154 : decode b_M_quotient 154 = .ok (.goto 6, 3) := by decide +kernel
theorem d_M_quotient_157 : decode b_M_quotient 157 = .ok (.lload 7, 2) := by decide +kernel
theorem d_M_quotient_159 : decode b_M_quotient 159 = .ok (.lneg, 1) := by decide +kernel
theorem d_M_quotient_160 : decode b_M_quotient 160 = .ok (.lstore 7, 2) := by decide +kernel
theorem d_M_quotient_162 : decode b_M_quotient 162 = .ok (.lload 7, 2) := by decide +kernel
theorem d_M_quotient_164 : decode b_M_quotient 164 = .ok (.ldc2_w 44, 3) := by decide +kernel
theorem d_M_quotient_167 : decode b_M_quotient 167 = .ok (.lcmp, 1) := by decide +kernel
theorem d_M_quotient_168 : decode b_M_quotient 168 = .ok (.ifCond .le 8, 3) := by decide +kernel
theorem d_M_quotient_171 : decode b_M_quotient 171 = .ok (.ldc 42, 2) := by decide +kernel
theorem d_M_quotient_173 : decode b_M_quotient 173 = .ok (.goto 20, 3) := by decide +kernel
theorem d_M_quotient_176 : decode b_M_quotient 176 = .ok (.lload 7, 2) := by decide +kernel
theorem d_M_quotient_178 : decode b_M_quotient 178 = .ok (.ldc2_w 46, 3) := by decide +kernel
theorem d_M_quotient_181 : decode b_M_quotient 181 = .ok (.lcmp, 1) := by decide +kernel
theorem d_M_quotient_182 : decode b_M_quotient 182 = .ok (.ifCond .ge 8, 3) := by decide +kernel
theorem d_M_quotient_185 : decode b_M_quotient 185 = .ok (.ldc 43, 2) := by decide +kernel
theorem d_M_quotient_187 : decode b_M_quotient 187 = .ok (.goto 6, 3) := by decide +kernel
theorem d_M_quotient_190 : decode b_M_quotient 190 = .ok (.lload 7, 2) := by decide +kernel
theorem d_M_quotient_192 : decode b_M_quotient 192 = .ok (.l2i, 1) := by decide +kernel
theorem d_M_quotient_193 : decode b_M_quotient 193 = .ok (.ireturn, 1) := by decide +kernel
theorem d_M_size_0 : decode b_M_size 0 = .ok (.lload_n 0, 1) := by decide +kernel
theorem d_M_size_1 : decode b_M_size 1 = .ok (.lconst 0, 1) := by decide +kernel
theorem d_M_size_2 : decode b_M_size 2 = .ok (.lcmp, 1) := by decide +kernel
theorem d_M_size_3 : decode b_M_size 3 = .ok (.ifCond .ge 8, 3) := by decide +kernel
theorem d_M_size_6 : decode b_M_size 6 = .ok (.lload_n 0, 1) := by decide +kernel
theorem d_M_size_7 : decode b_M_size 7 = .ok (.lneg, 1) := by decide +kernel
theorem d_M_size_8 : decode b_M_size 8 = .ok (.goto 4, 3) := by decide +kernel
theorem d_M_size_11 : decode b_M_size 11 = .ok (.lload_n 0, 1) := by decide +kernel
theorem d_M_size_12 : decode b_M_size 12 = .ok (.lreturn, 1) := by decide +kernel
theorem d_M_root_0 : decode b_M_root 0 = .ok (.aload_n 0, 1) := by decide +kernel
theorem d_M_root_1 : decode b_M_root 1 = .ok (.iconst 0, 1) := by decide +kernel
theorem d_M_root_2 : decode b_M_root 2 = .ok (.putfield 7, 3) := by decide +kernel
theorem d_M_root_5 : decode b_M_root 5 = .ok (.iload_n 1, 1) := by decide +kernel
theorem d_M_root_6 : decode b_M_root 6 = .ok (.ifCond .ge 7, 3) := by decide +kernel
theorem d_M_root_9 : decode b_M_root 9 = .ok (.lconst 0, 1) := by decide +kernel
theorem d_M_root_10 : decode b_M_root 10 = .ok (.goto 9, 3) := by decide +kernel
theorem d_M_root_13 : decode b_M_root 13 = .ok (.ldc2_w 48, 3) := by decide +kernel
theorem d_M_root_16 : decode b_M_root 16 = .ok (.iload_n 1, 1) := by decide +kernel
theorem d_M_root_17 : decode b_M_root 17 = .ok (.i2l, 1) := by decide +kernel
theorem d_M_root_18 : decode b_M_root 18 = .ok (.lmul, 1) := by decide +kernel
theorem d_M_root_19 : decode b_M_root 19 = .ok (.lstore_n 2, 1) := by decide +kernel
theorem d_M_root_20 : decode b_M_root 20 = .ok (.lconst 0, 1) := by decide +kernel
theorem d_M_root_21 : decode b_M_root 21 = .ok (.lstore 4, 2) := by decide +kernel
theorem d_M_root_23 : decode b_M_root 23 = .ok (.ldc2_w 50, 3) := by decide +kernel
theorem d_M_root_26 : decode b_M_root 26 = .ok (.lstore 6, 2) := by decide +kernel
theorem d_M_root_28 : decode b_M_root 28 = .ok (.lload 6, 2) := by decide +kernel
theorem d_M_root_30 : decode b_M_root 30 = .ok (.lconst 0, 1) := by decide +kernel
theorem d_M_root_31 : decode b_M_root 31 = .ok (.lcmp, 1) := by decide +kernel
theorem d_M_root_32 : decode b_M_root 32 = .ok (.ifCond .le 40, 3) := by decide +kernel
theorem d_M_root_35 : decode b_M_root 35 = .ok (.lload 4, 2) := by decide +kernel
theorem d_M_root_37 : decode b_M_root 37 = .ok (.lload 6, 2) := by decide +kernel
theorem d_M_root_39 : decode b_M_root 39 = .ok (.ladd, 1) := by decide +kernel
theorem d_M_root_40 : decode b_M_root 40 = .ok (.lload 4, 2) := by decide +kernel
theorem d_M_root_42 : decode b_M_root 42 = .ok (.lload 6, 2) := by decide +kernel
theorem d_M_root_44 : decode b_M_root 44 = .ok (.ladd, 1) := by decide +kernel
theorem d_M_root_45 : decode b_M_root 45 = .ok (.lmul, 1) := by decide +kernel
theorem d_M_root_46 : decode b_M_root 46 = .ok (.lload_n 2, 1) := by decide +kernel
theorem d_M_root_47 : decode b_M_root 47 = .ok (.lcmp, 1) := by decide +kernel
theorem d_M_root_48 : decode b_M_root 48 = .ok (.ifCond .gt 11, 3) := by decide +kernel
theorem d_M_root_51 : decode b_M_root 51 = .ok (.lload 4, 2) := by decide +kernel
theorem d_M_root_53 : decode b_M_root 53 = .ok (.lload 6, 2) := by decide +kernel
theorem d_M_root_55 : decode b_M_root 55 = .ok (.ladd, 1) := by decide +kernel
theorem d_M_root_56 : decode b_M_root 56 = .ok (.goto 5, 3) := by decide +kernel
theorem d_M_root_59 : decode b_M_root 59 = .ok (.lload 4, 2) := by decide +kernel
theorem d_M_root_61 : decode b_M_root 61 = .ok (.lstore 4, 2) := by decide +kernel
theorem d_M_root_63 : decode b_M_root 63 = .ok (.lload 6, 2) := by decide +kernel
theorem d_M_root_65 : decode b_M_root 65 = .ok (.iconst 1, 1) := by decide +kernel
theorem d_M_root_66 : decode b_M_root 66 = .ok (.lshr, 1) := by decide +kernel
theorem d_M_root_67 : decode b_M_root 67 = .ok (.lstore 6, 2) := by decide +kernel
theorem d_M_root_69 : decode b_M_root 69 = .ok (.goto (-41), 3) := by decide +kernel
theorem d_M_root_72 : decode b_M_root 72 = .ok (.lload 4, 2) := by decide +kernel
theorem d_M_root_74 : decode b_M_root 74 = .ok (.l2i, 1) := by decide +kernel
theorem d_M_root_75 : decode b_M_root 75 = .ok (.ireturn, 1) := by decide +kernel
theorem d_M_oneByRoot_0 : decode b_M_oneByRoot 0 = .ok (.aload_n 0, 1) := by decide +kernel
theorem d_M_oneByRoot_1 : decode b_M_oneByRoot 1 = .ok (.iconst 0, 1) := by decide +kernel
theorem d_M_oneByRoot_2 : decode b_M_oneByRoot 2 = .ok (.putfield 7, 3) := by decide +kernel
theorem d_M_oneByRoot_5 : decode b_M_oneByRoot 5 = .ok (.iload_n 1, 1) := by decide +kernel
theorem d_M_oneByRoot_6 : decode b_M_oneByRoot 6 = .ok (.ifCond .gt 6, 3) := by decide +kernel
theorem d_M_oneByRoot_9 : decode b_M_oneByRoot 9 = .ok (.ldc 42, 2) := by decide +kernel
theorem d_M_oneByRoot_11 : decode b_M_oneByRoot 11 = .ok (.ireturn, 1) := by decide +kernel
theorem d_M_oneByRoot_12 : decode b_M_oneByRoot 12 = .ok (.ldc2_w 52, 3) := by decide +kernel
theorem d_M_oneByRoot_15 : decode b_M_oneByRoot 15 = .ok (.iload_n 1, 1) := by decide +kernel
theorem d_M_oneByRoot_16 : decode b_M_oneByRoot 16 = .ok (.i2l, 1) := by decide +kernel
theorem d_M_oneByRoot_17 : decode b_M_oneByRoot 17 = .ok (.ldiv, 1) := by decide +kernel
theorem d_M_oneByRoot_18 : decode b_M_oneByRoot 18 = .ok (.lstore_n 2, 1) := by decide +kernel
theorem d_M_oneByRoot_19 : decode b_M_oneByRoot 19 = .ok (.lconst 0, 1) := by decide +kernel
theorem d_M_oneByRoot_20 : decode b_M_oneByRoot 20 = .ok (.lstore 4, 2) := by decide +kernel
theorem d_M_oneByRoot_22 : decode b_M_oneByRoot 22 = .ok (.ldc2_w 50, 3) := by decide +kernel
theorem d_M_oneByRoot_25 : decode b_M_oneByRoot 25 = .ok (.lstore 6, 2) := by decide +kernel
theorem d_M_oneByRoot_27 : decode b_M_oneByRoot 27 = .ok (.lload 6, 2) := by decide +kernel
theorem d_M_oneByRoot_29 : decode b_M_oneByRoot 29 = .ok (.lconst 0, 1) := by decide +kernel
theorem d_M_oneByRoot_30 : decode b_M_oneByRoot 30 = .ok (.lcmp, 1) := by decide +kernel
theorem d_M_oneByRoot_31 : decode b_M_oneByRoot 31 = .ok (.ifCond .le 40, 3) := by decide +kernel
theorem d_M_oneByRoot_34 : decode b_M_oneByRoot 34 = .ok (.lload 4, 2) := by decide +kernel
theorem d_M_oneByRoot_36 : decode b_M_oneByRoot 36 = .ok (.lload 6, 2) := by decide +kernel
theorem d_M_oneByRoot_38 : decode b_M_oneByRoot 38 = .ok (.ladd, 1) := by decide +kernel
theorem d_M_oneByRoot_39 : decode b_M_oneByRoot 39 = .ok (.lload 4, 2) := by decide +kernel
theorem d_M_oneByRoot_41 : decode b_M_oneByRoot 41 = .ok (.lload 6, 2) := by decide +kernel
theorem d_M_oneByRoot_43 : decode b_M_oneByRoot 43 = .ok (.ladd, 1) := by decide +kernel
theorem d_M_oneByRoot_44 : decode b_M_oneByRoot 44 = .ok (.lmul, 1) := by decide +kernel
theorem d_M_oneByRoot_45 : decode b_M_oneByRoot 45 = .ok (.lload_n 2, 1) := by decide +kernel
theorem d_M_oneByRoot_46 : decode b_M_oneByRoot 46 = .ok (.lcmp, 1) := by decide +kernel
theorem d_M_oneByRoot_47 : decode b_M_oneByRoot 47 = .ok (.ifCond .gt 11, 3) := by decide +kernel
theorem d_M_oneByRoot_50 : decode b_M_oneByRoot 50 = .ok (.lload 4, 2) := by decide +kernel
theorem d_M_oneByRoot_52 : decode b_M_oneByRoot 52 = .ok (.lload 6, 2) := by decide +kernel
theorem d_M_oneByRoot_54 : decode b_M_oneByRoot 54 = .ok (.ladd, 1) := by decide +kernel
theorem d_M_oneByRoot_55 : decode b_M_oneByRoot 55 = .ok (.goto 5, 3) := by decide +kernel
theorem d_M_oneByRoot_58 : decode b_M_oneByRoot 58 = .ok (.lload 4, 2) := by decide +kernel
theorem d_M_oneByRoot_60 : decode b_M_oneByRoot 60 = .ok (.lstore 4, 2) := by decide +kernel
theorem d_M_oneByRoot_62 : decode b_M_oneByRoot 62 = .ok (.lload 6, 2) := by decide +kernel
theorem d_M_oneByRoot_64 : decode b_M_oneByRoot 64 = .ok (.iconst 1, 1) := by decide +kernel
theorem d_M_oneByRoot_65 : decode b_M_oneByRoot 65 = .ok (.lshr, 1) := by decide +kernel
theorem d_M_oneByRoot_66 : decode b_M_oneByRoot 66 = .ok (.lstore 6, 2) := by decide +kernel
theorem d_M_oneByRoot_68 : decode b_M_oneByRoot 68 = .ok (.goto (-41), 3) := by decide +kernel
theorem d_M_oneByRoot_71 : decode b_M_oneByRoot 71 = .ok (.lload 4, 2) := by decide +kernel
theorem d_M_oneByRoot_73 : decode b_M_oneByRoot 73 = .ok (.l2i, 1) := by decide +kernel
theorem d_M_oneByRoot_74 : decode b_M_oneByRoot 74 = .ok (.ireturn, 1) := by decide +kernel
theorem d_M_ratio_0 : decode b_M_ratio 0 = .ok (.aload_n 0, 1) := by decide +kernel
theorem d_M_ratio_1 : decode b_M_ratio 1 = .ok (.iconst 1, 1) := by decide +kernel
theorem d_M_ratio_2 : decode b_M_ratio 2 = .ok (.putfield 7, 3) := by decide +kernel
theorem d_M_ratio_5 : decode b_M_ratio 5 = .ok (.lload 5, 2) := by decide +kernel
theorem d_M_ratio_7 : decode b_M_ratio 7 = .ok (.lconst 0, 1) := by decide +kernel
theorem d_M_ratio_8 : decode b_M_ratio 8 = .ok (.lcmp, 1) := by decide +kernel
theorem d_M_ratio_9 : decode b_M_ratio 9 = .ok (.ifCond .ne 5, 3) := by decide +kernel
theorem d_M_ratio_12 : decode b_M_ratio 12 = .ok (.lconst 0, 1) := by decide +kernel
theorem d_M_ratio_13 : decode b_M_ratio 13 = .ok (.lreturn, 1) := by decide +kernel
theorem d_M_ratio_14 : decode b_M_ratio 14 = .ok (.aload_n 0, 1) := by decide +kernel
theorem d_M_ratio_15 : decode b_M_ratio 15 = .ok (.lload_n 1, 1) := by decide +kernel
theorem d_M_ratio_16 : decode b_M_ratio 16 = .ok (.lload_n 3, 1) := by decide +kernel
theorem d_M_ratio_17 : decode b_M_ratio 17 = .ok (.lload 5, 2) := by decide +kernel
theorem d_M_ratio_19 : decode b_M_ratio 19 = .ok (.invokevirtual 54, 3) := by decide +kernel
theorem d_M_ratio_22 : decode b_M_ratio 22 = .ok (.lstore 7, 2) := by decide +kernel
theorem d_M_ratio_24 : decode b_M_ratio 24 = .ok (.aload_n 0, 1) := by decide +kernel
theorem d_M_ratio_25 : decode b_M_ratio 25 = .ok (.aload_n 0, 1) := by decide +kernel
theorem d_M_ratio_26 : decode b_M_ratio 26 = .ok (.getfield 27, 3) := by decide +kernel
theorem d_M_ratio_29 : decode b_M_ratio 29 = .ok (.lconst 0, 1) := by decide +kernel
theorem d_M_ratio_30 : decode b_M_ratio 30 = .ok (.lcmp, 1) := by decide +kernel
theorem d_M_ratio_31 : decode b_M_ratio 31 = .ok (.ifCond .ne 7, 3) := by decide +kernel
theorem d_M_ratio_34 : decode b_M_ratio 34 = .ok (.iconst 0, 1) := by decide +kernel
theorem d_M_ratio_35 : decode b_M_ratio 35 = .ok (.goto 4, 3) := by decide +kernel
theorem d_M_ratio_38 : decode b_M_ratio 38 = .ok (.iconst 1, 1) := by decide +kernel
theorem d_M_ratio_39 : decode b_M_ratio 39 = .ok (.putfield 7, 3) := by decide +kernel
theorem d_M_ratio_42 : decode b_M_ratio 42 = .ok (.aload_n 0, 1) := by decide +kernel
theorem d_M_ratio_43 : decode b_M_ratio 43 = .ok (.getfield 27, 3) := by decide +kernel
theorem d_M_ratio_46 : decode b_M_ratio 46 = .ok (.lconst 0, 1) := by decide +kernel
theorem d_M_ratio_47 : decode b_M_ratio 47 = .ok (.lcmp, 1) := by decide +kernel
theorem d_M_ratio_48 : decode b_M_ratio 48 = .ok (.ifCond .ne 8, 3) := by decide +kernel
theorem d_M_ratio_51 : decode b_M_ratio 51 = .ok (.lload 7, 2) := by decide +kernel
theorem d_M_ratio_53 : decode b_M_ratio 53 = .ok (.goto 4, 3) := by decide +kernel
theorem d_M_ratio_56 : decode b_M_ratio 56 = .ok (.lconst 0, 1) := by decide +kernel
theorem d_M_ratio_57 : decode b_M_ratio 57 = .ok (.lreturn, 1) := by decide +kernel
theorem d_M_exact_0 : decode b_M_exact 0 = .ok (.aload_n 0, 1) := by decide +kernel
theorem d_M_exact_1 : decode b_M_exact 1 = .ok (.lload_n 1, 1) := by decide +kernel
theorem d_M_exact_2 : decode b_M_exact 2 = .ok (.invokestatic 30, 3) := by decide +kernel
theorem d_M_exact_5 : decode b_M_exact 5 = .ok (.lload_n 3, 1) := by decide +kernel
theorem d_M_exact_6 : decode b_M_exact 6 = .ok (.invokestatic 30, 3) := by decide +kernel
theorem d_M_exact_9 : decode b_M_exact 9 = .ok (.invokevirtual 34, 3) := by decide +kernel
theorem d_M_exact_12 : decode b_M_exact 12 = .ok (.aload_n 0, 1) := by decide +kernel
theorem d_M_exact_13 : decode b_M_exact 13 = .ok (.lload 5, 2) := by decide +kernel
theorem d_M_exact_15 : decode b_M_exact 15 = .ok (.invokestatic 30, 3) := by decide +kernel
theorem d_M_exact_18 : decode b_M_exact 18 = .ok (.invokevirtual 38, 3) := by decide +kernel
theorem d_M_exact_21 : decode b_M_exact 21 = .ok (.lload_n 1, 1) := by decide +kernel
theorem d_M_exact_22 : decode b_M_exact 22 = .ok (.lconst 0, 1) := by decide +kernel
theorem d_M_exact_23 : decode b_M_exact 23 = .ok (.lcmp, 1) := by decide +kernel
theorem d_M_exact_24 : decode b_M_exact 24 = .ok (.ifCond .ge 7, 3) := by decide +kernel
theorem d_M_exact_27 : decode b_M_exact 27 = .ok (.iconst 1, 1) := by decide +kernel
theorem d_M_exact_28 : decode b_M_exact 28 = .ok (.goto 4, 3) := by decide +kernel
theorem d_M_exact_31 : decode b_M_exact 31 = .ok (.iconst 0, 1) := by decide +kernel
theorem d_M_exact_32 : decode b_M_exact 32 = .ok (.lload_n 3, 1) := by decide +kernel
theorem d_M_exact_33 : decode b_M_exact 33 = .ok (.lconst 0, 1) := by decide +kernel
theorem d_M_exact_34 : decode b_M_exact 34 = .ok (.lcmp, 1) := by decide +kernel
theorem d_M_exact_35 : decode b_M_exact 35 = .ok (.ifCond .ge 7, 3) := by decide +kernel
theorem d_M_exact_38 : decode b_M_exact 38 = .ok (.iconst 1, 1) := by decide +kernel
theorem d_M_exact_39 : decode b_M_exact 39 = .ok (.goto 4, 3) := by decide +kernel
theorem d_M_exact_42 : decode b_M_exact 42 = .ok (.iconst 0, 1) := by decide +kernel
theorem d_M_exact_43 : decode b_M_exact 43 = .ok (.if_icmp .eq 7, 3) := by decide +kernel
theorem d_M_exact_46 : decode b_M_exact 46 = .ok (.iconst 1, 1) := by decide +kernel
theorem d_M_exact_47 : decode b_M_exact 47 = .ok (.goto 4, 3) := by decide +kernel
theorem d_M_exact_50 : decode b_M_exact 50 = .ok (.iconst 0, 1) := by decide +kernel
theorem d_M_exact_51 : decode b_M_exact 51 = .ok (.lload 5, 2) := by decide +kernel
theorem d_M_exact_53 : decode b_M_exact 53 = .ok (.lconst 0, 1) := by decide +kernel
theorem d_M_exact_54 : decode b_M_exact 54 = .ok (.lcmp, 1) := by decide +kernel
theorem d_M_exact_55 : decode b_M_exact 55 = .ok (.ifCond .ge 7, 3) := by decide +kernel
theorem d_M_exact_58 : decode b_M_exact 58 = .ok (.iconst 1, 1) := by decide +kernel
theorem d_M_exact_59 : decode b_M_exact 59 = .ok (.goto 4, 3) := by decide +kernel
theorem d_M_exact_62 : decode b_M_exact 62 = .ok (.iconst 0, 1) := by decide +kernel
theorem d_M_exact_63 : decode b_M_exact 63 = .ok (.if_icmp .eq 34, 3) := by decide +kernel
theorem d_M_exact_66 : decode b_M_exact 66 = .ok (.aload_n 0, 1) := by decide +kernel
theorem d_M_exact_67 : decode b_M_exact 67 = .ok (.getfield 16, 3) := by decide +kernel
theorem d_M_exact_70 : decode b_M_exact 70 = .ok (.lconst 0, 1) := by decide +kernel
theorem d_M_exact_71 : decode b_M_exact 71 = .ok (.lcmp, 1) := by decide +kernel
theorem d_M_exact_72 : decode b_M_exact 72 = .ok (.ifCond .ne 21, 3) := by decide +kernel
theorem d_M_exact_75 : decode b_M_exact 75 = .ok (.aload_n 0, 1) := by decide +kernel
theorem d_M_exact_76 : decode b_M_exact 76 = .ok (.getfield 20, 3) := by decide +kernel
theorem d_M_exact_79 : decode b_M_exact 79 = .ok (.lconst 0, 1) := by decide +kernel
theorem d_M_exact_80 : decode b_M_exact 80 = .ok (.lcmp, 1) := by decide +kernel
theorem d_M_exact_81 : decode b_M_exact 81 = .ok (.ifCond .ne 12, 3) := by decide +kernel
theorem d_M_exact_84 : decode b_M_exact 84 = .ok (.aload_n 0, 1) := by decide +kernel
theorem d_M_exact_85 : decode b_M_exact 85 = .ok (.getfield 27, 3) := by decide +kernel
theorem d_M_exact_88 : decode b_M_exact 88 = .ok (.lconst 0, 1) := by decide +kernel
theorem d_M_exact_89 : decode b_M_exact 89 = .ok (.lcmp, 1) := by decide +kernel
theorem d_M_exact_90 : decode b_M_exact 90 = .ok (.ifCond .eq 7, 3) := by decide +kernel
theorem d_M_exact_93 : decode b_M_exact 93 = .ok (.iconst 1, 1) := by decide +kernel
theorem d_M_exact_94 : decode b_M_exact 94 = .ok (.goto 4, 3) := by decide +kernel
theorem d_M_exact_97 : decode b_M_exact 97 = .ok (.iconst 0, 1) := by decide +kernel
theorem d_M_exact_98 : decode b_M_exact 98 = .ok (.istore 7, 2) := by decide +kernel
theorem d_M_exact_100 : decode b_M_exact 100 = .ok (.iload 7, 2) := by decide +kernel
theorem d_M_exact_102 : decode b_M_exact 102 = .ok (.ifCond .eq 48, 3) := by decide +kernel
theorem d_M_exact_105 : decode b_M_exact 105 = .ok (.aload_n 0, 1) := by decide +kernel
theorem d_M_exact_106 : decode b_M_exact 106 = .ok (.getfield 27, 3) := by decide +kernel
theorem d_M_exact_109 : decode b_M_exact 109 = .ok (.lconst 0, 1) := by decide +kernel
theorem d_M_exact_110 : decode b_M_exact 110 = .ok (.lcmp, 1) := by decide +kernel
theorem d_M_exact_111 : decode b_M_exact 111 = .ok (.ifCond .eq 39, 3) := by decide +kernel
theorem d_M_exact_114 : decode b_M_exact 114 = .ok (.aload_n 0, 1) := by decide +kernel
theorem d_M_exact_115 : decode b_M_exact 115 = .ok (.aload_n 0, 1) := by decide +kernel
theorem d_M_exact_116 : decode b_M_exact 116 = .ok (.getfield 20, 3) := by decide +kernel
theorem d_M_exact_119 : decode b_M_exact 119 = .ok (.lconst 1, 1) := by decide +kernel
theorem d_M_exact_120 : decode b_M_exact 120 = .ok (.ladd, 1) := by decide +kernel
theorem d_M_exact_121 : decode b_M_exact 121 = .ok (.putfield 20, 3) := by decide +kernel
theorem d_M_exact_124 : decode b_M_exact 124 = .ok (.aload_n 0, 1) := by decide +kernel
theorem d_M_exact_125 : decode b_M_exact 125 = .ok (.aload_n 0, 1) := by decide +kernel
theorem d_M_exact_126 : decode b_M_exact 126 = .ok (.getfield 20, 3) := by decide +kernel
theorem d_M_exact_129 : decode b_M_exact 129 = .ok (.lconst 0, 1) := by decide +kernel
theorem d_M_exact_130 : decode b_M_exact 130 = .ok (.lcmp, 1) := by decide +kernel
theorem d_M_exact_131 : decode b_M_exact 131 = .ok (.ifCond .ne 12, 3) := by decide +kernel
theorem d_M_exact_134 : decode b_M_exact 134 = .ok (.aload_n 0, 1) := by decide +kernel
theorem d_M_exact_135 : decode b_M_exact 135 = .ok (.getfield 16, 3) := by decide +kernel
theorem d_M_exact_138 : decode b_M_exact 138 = .ok (.lconst 1, 1) := by decide +kernel
theorem d_M_exact_139 : decode b_M_exact 139 = .ok (.ladd, 1) := by decide +kernel
theorem d_M_exact_140 : decode b_M_exact 140 = .ok (.goto 7, 3) := by decide +kernel
theorem d_M_exact_143 : decode b_M_exact 143 = .ok (.aload_n 0, 1) := by decide +kernel
theorem d_M_exact_144 : decode b_M_exact 144 = .ok (.getfield 16, 3) := by decide +kernel
theorem d_M_exact_147 : decode b_M_exact 147 = .ok (.putfield 16, 3) := by decide +kernel
theorem d_M_exact_150 : decode b_M_exact 150 = .ok (.aload_n 0, 1) := by decide +kernel
theorem d_M_exact_151 : decode b_M_exact 151 = .ok (.getfield 16, 3) := by decide +kernel
theorem d_M_exact_154 : decode b_M_exact 154 = .ok (.lconst 0, 1) := by decide +kernel
theorem d_M_exact_155 : decode b_M_exact 155 = .ok (.lcmp, 1) := by decide +kernel
theorem d_M_exact_156 : decode b_M_exact 156 = .ok (.ifCond .ne 32, 3) := by decide +kernel
theorem d_M_exact_159 : decode b_M_exact 159 = .ok (.aload_n 0, 1) := by decide +kernel
theorem d_M_exact_160 : decode b_M_exact 160 = .ok (.getfield 20, 3) := by decide +kernel
theorem d_M_exact_163 : decode b_M_exact 163 = .ok (.lconst 0, 1) := by decide +kernel
theorem d_M_exact_164 : decode b_M_exact 164 = .ok (.lcmp, 1) := by decide +kernel
theorem d_M_exact_165 : decode b_M_exact 165 = .ok (.ifCond .ge 19, 3) := by decide +kernel
theorem d_M_exact_168 : decode b_M_exact 168 = .ok (.iload 7, 2) := by decide +kernel
theorem d_M_exact_170 : decode b_M_exact 170 = .ok (.ifCond .eq 18, 3) := by decide +kernel
theorem d_M_exact_173 : decode b_M_exact 173 = .ok (.aload_n 0, 1) := by decide +kernel
theorem d_M_exact_174 : decode b_M_exact 174 = .ok (.getfield 20, 3) := by decide +kernel
theorem d_M_exact_177 : decode b_M_exact 177 = .ok (.ldc2_w 14, 3) := by decide +kernel
theorem d_M_exact_180 : decode b_M_exact 180 = .ok (.lcmp, 1) := by decide +kernel
theorem d_M_exact_181 : decode b_M_exact 181 = .ok (.ifCond .ne 7, 3) := by decide +kernel
theorem d_M_exact_184 : decode b_M_exact 184 = .ok (.iconst 1, 1) := by decide +kernel
theorem d_M_exact_185 : decode b_M_exact 185 = .ok (.goto 4, 3) := by decide +kernel
theorem d_M_exact_188 : decode b_M_exact 188 = .ok (.iconst 0, 1) := by decide +kernel
theorem d_M_exact_189 : decode b_M_exact 189 = .ok (.istore 8, 2) := by decide +kernel
theorem d_M_exact_191 : decode b_M_exact 191 = .ok (.aload_n 0, 1) := by decide +kernel
theorem d_M_exact_192 : decode b_M_exact 192 = .ok (.iload 8, 2) := by decide +kernel
theorem d_M_exact_194 : decode b_M_exact 194 = .ok (.ifCond .eq 7, 3) := by decide +kernel
theorem d_M_exact_197 : decode b_M_exact 197 = .ok (.lconst 0, 1) := by decide +kernel
theorem d_M_exact_198 : decode b_M_exact 198 = .ok (.goto 4, 3) := by decide +kernel
theorem d_M_exact_201 : decode b_M_exact 201 = .ok (.lconst 1, 1) := by decide +kernel
theorem d_M_exact_202 : decode b_M_exact 202 = .ok (.putfield 27, 3) := by decide +kernel
theorem d_M_exact_205 : decode b_M_exact 205 = .ok (.iload 7, 2) := by decide +kernel
theorem d_M_exact_207 : decode b_M_exact 207 = .ok (.ifCond .eq 11, 3) := by decide +kernel
theorem d_M_exact_210 : decode b_M_exact 210 = .ok (.aload_n 0, 1) := by decide +kernel
theorem d_M_exact_211 : decode b_M_exact 211 = .ok (.getfield 20, 3) := by decide +kernel
theorem d_M_exact_214 : decode b_M_exact 214 = .ok (.lneg, 1) := by decide +kernel
theorem d_M_exact_215 : decode b_M_exact 215 = .ok (.goto 7, 3) := by decide +kernel
theorem d_M_exact_218 : decode b_M_exact 218 = .ok (.aload_n 0, 1) := by decide +kernel
theorem d_M_exact_219 : decode b_M_exact 219 = .ok (.getfield 20, 3) := by decide +kernel
theorem d_M_exact_222 : decode b_M_exact 222 = .ok (.lreturn, 1) := by decide +kernel
theorem d_M_multiply_0 : decode b_M_multiply 0 = .ok (.aload_n 0, 1) := by decide +kernel
theorem d_M_multiply_1 : decode b_M_multiply 1 = .ok (.lconst 0, 1) := by decide +kernel
theorem d_M_multiply_2 : decode b_M_multiply 2 = .ok (.putfield 16, 3) := by decide +kernel
theorem d_M_multiply_5 : decode b_M_multiply 5 = .ok (.aload_n 0, 1) := by decide +kernel
theorem d_M_multiply_6 : decode b_M_multiply 6 = .ok (.lconst 0, 1) := by decide +kernel
theorem d_M_multiply_7 : decode b_M_multiply 7 = .ok (.putfield 20, 3) := by decide +kernel
theorem d_M_multiply_10 : decode b_M_multiply 10 = .ok (.bipush 63, 2) := by decide +kernel
theorem d_M_multiply_12 : decode b_M_multiply 12 = .ok (.istore 5, 2) := by decide +kernel
theorem d_M_multiply_14 : decode b_M_multiply 14 = .ok (.iload 5, 2) := by decide +kernel
theorem d_M_multiply_16 : decode b_M_multiply 16 = .ok (.ifCond .lt 91, 3) := by decide +kernel
theorem d_M_multiply_19 : decode b_M_multiply 19 = .ok (.aload_n 0, 1) := by decide +kernel
theorem d_M_multiply_20 : decode b_M_multiply 20 = .ok (.aload_n 0, 1) := by decide +kernel
theorem d_M_multiply_21 : decode b_M_multiply 21 = .ok (.getfield 16, 3) := by decide +kernel
theorem d_M_multiply_24 : decode b_M_multiply 24 = .ok (.iconst 1, 1) := by decide +kernel
theorem d_M_multiply_25 : decode b_M_multiply 25 = .ok (.lshl, 1) := by decide +kernel
theorem d_M_multiply_26 : decode b_M_multiply 26 = .ok (.aload_n 0, 1) := by decide +kernel
theorem d_M_multiply_27 : decode b_M_multiply 27 = .ok (.getfield 20, 3) := by decide +kernel
theorem d_M_multiply_30 : decode b_M_multiply 30 = .ok (.bipush 63, 2) := by decide +kernel
theorem d_M_multiply_32 : decode b_M_multiply 32 = .ok (.lushr, 1) := by decide +kernel
theorem d_M_multiply_33 : decode b_M_multiply 33 = .ok (.lor, 1) := by decide +kernel
theorem d_M_multiply_34 : decode b_M_multiply 34 = .ok (.putfield 16, 3) := by decide +kernel
theorem d_M_multiply_37 : decode b_M_multiply 37 = .ok (.aload_n 0, 1) := by decide +kernel
theorem d_M_multiply_38 : decode b_M_multiply 38 = .ok (.aload_n 0, 1) := by decide +kernel
theorem d_M_multiply_39 : decode b_M_multiply 39 = .ok (.getfield 20, 3) := by decide +kernel
theorem d_M_multiply_42 : decode b_M_multiply 42 = .ok (.iconst 1, 1) := by decide +kernel
theorem d_M_multiply_43 : decode b_M_multiply 43 = .ok (.lshl, 1) := by decide +kernel
theorem d_M_multiply_44 : decode b_M_multiply 44 = .ok (.putfield 20, 3) := by decide +kernel
theorem d_M_multiply_47 : decode b_M_multiply 47 = .ok (.lload_n 3, 1) := by decide +kernel
theorem d_M_multiply_48 : decode b_M_multiply 48 = .ok (.iload 5, 2) := by decide +kernel
theorem d_M_multiply_50 : decode b_M_multiply 50 = .ok (.lushr, 1) := by decide +kernel
theorem d_M_multiply_51 : decode b_M_multiply 51 = .ok (.lconst 1, 1) := by decide +kernel
theorem d_M_multiply_52 : decode b_M_multiply 52 = .ok (.land, 1) := by decide +kernel
theorem d_M_multiply_53 : decode b_M_multiply 53 = .ok (.lconst 1, 1) := by decide +kernel
theorem d_M_multiply_54 : decode b_M_multiply 54 = .ok (.lcmp, 1) := by decide +kernel
theorem d_M_multiply_55 : decode b_M_multiply 55 = .ok (.ifCond .ne 46, 3) := by decide +kernel
theorem d_M_multiply_58 : decode b_M_multiply 58 = .ok (.aload_n 0, 1) := by decide +kernel
theorem d_M_multiply_59 : decode b_M_multiply 59 = .ok (.getfield 20, 3) := by decide +kernel
theorem d_M_multiply_62 : decode b_M_multiply 62 = .ok (.lload_n 1, 1) := by decide +kernel
theorem d_M_multiply_63 : decode b_M_multiply 63 = .ok (.ladd, 1) := by decide +kernel
theorem d_M_multiply_64 : decode b_M_multiply 64 = .ok (.lstore 6, 2) := by decide +kernel
theorem d_M_multiply_66 : decode b_M_multiply 66 = .ok (.aload_n 0, 1) := by decide +kernel
theorem d_M_multiply_67 : decode b_M_multiply 67 = .ok (.lload 6, 2) := by decide +kernel
theorem d_M_multiply_69 : decode b_M_multiply 69 = .ok (.aload_n 0, 1) := by decide +kernel
theorem d_M_multiply_70 : decode b_M_multiply 70 = .ok (.getfield 20, 3) := by decide +kernel
theorem d_M_multiply_73 : decode b_M_multiply 73 = .ok (.invokestatic 23, 3) := by decide +kernel
theorem d_M_multiply_76 : decode b_M_multiply 76 = .ok (.ifCond .eq 12, 3) := by decide +kernel
theorem d_M_multiply_79 : decode b_M_multiply 79 = .ok (.aload_n 0, 1) := by decide +kernel
theorem d_M_multiply_80 : decode b_M_multiply 80 = .ok (.getfield 16, 3) := by decide +kernel
theorem d_M_multiply_83 : decode b_M_multiply 83 = .ok (.lconst 1, 1) := by decide +kernel
theorem d_M_multiply_84 : decode b_M_multiply 84 = .ok (.ladd, 1) := by decide +kernel
theorem d_M_multiply_85 : decode b_M_multiply 85 = .ok (.goto 7, 3) := by decide +kernel
theorem d_M_multiply_88 : decode b_M_multiply 88 = .ok (.aload_n 0, 1) := by decide +kernel
theorem d_M_multiply_89 : decode b_M_multiply 89 = .ok (.getfield 16, 3) := by decide +kernel
theorem d_M_multiply_92 : decode b_M_multiply 92 = .ok (.putfield 16, 3) := by decide +kernel
theorem d_M_multiply_95 : decode b_M_multiply 95 = .ok (.aload_n 0, 1) := by decide +kernel
theorem d_M_multiply_96 : decode b_M_multiply 96 = .ok (.lload 6, 2) := by decide +kernel
theorem d_M_multiply_98 : decode b_M_multiply 98 = .ok (.putfield 20, 3) := by decide +kernel
theorem d_M_multiply_101 : decode b_M_multiply 101 = .ok (.iinc 5 (-1), 3) := by decide +kernel
theorem d_M_multiply_104 : decode b_M_multiply 104 = .ok (.goto (-90), 3) := by decide +kernel
theorem d_M_multiply_107 : decode b_M_multiply 107 = .ok (.return_, 1) := by decide +kernel
theorem d_M_below_0 : decode b_M_below 0 = .ok (.lload_n 0, 1) := by decide +kernel
theorem d_M_below_1 : decode b_M_below 1 = .ok (.ldc2_w 14, 3) := by decide +kernel
theorem d_M_below_4 : decode b_M_below 4 = .ok (.lxor, 1) := by decide +kernel
theorem d_M_below_5 : decode b_M_below 5 = .ok (.lload_n 2, 1) := by decide +kernel
theorem d_M_below_6 : decode b_M_below 6 = .ok (.ldc2_w 14, 3) := by decide +kernel
theorem d_M_below_9 : decode b_M_below 9 = .ok (.lxor, 1) := by decide +kernel
theorem d_M_below_10 : decode b_M_below 10 = .ok (.lcmp, 1) := by decide +kernel
theorem d_M_below_11 : decode b_M_below 11 = .ok (.ifCond .ge 7, 3) := by decide +kernel
theorem d_M_below_14 : decode b_M_below 14 = .ok (.iconst 1, 1) := by decide +kernel
theorem d_M_below_15 : decode b_M_below 15 = .ok (.goto 4, 3) := by decide +kernel
theorem d_M_below_18 : decode b_M_below 18 = .ok (.iconst 0, 1) := by decide +kernel
theorem d_M_below_19 : decode b_M_below 19 = .ok (.ireturn, 1) := by decide +kernel
theorem d_M_divide_0 : decode b_M_divide 0 = .ok (.lconst 0, 1) := by decide +kernel
theorem d_M_divide_1 : decode b_M_divide 1 = .ok (.lstore_n 3, 1) := by decide +kernel
theorem d_M_divide_2 : decode b_M_divide 2 = .ok (.lconst 0, 1) := by decide +kernel
theorem d_M_divide_3 : decode b_M_divide 3 = .ok (.lstore 5, 2) := by decide +kernel
theorem d_M_divide_5 : decode b_M_divide 5 = .ok (.lconst 0, 1) := by decide +kernel
theorem d_M_divide_6 : decode b_M_divide 6 = .ok (.lstore 7, 2) := by decide +kernel
theorem d_M_divide_8 : decode b_M_divide 8 = .ok (.bipush 127, 2) := by decide +kernel
theorem d_M_divide_10 : decode b_M_divide 10 = .ok (.istore 9, 2) := by decide +kernel
theorem d_M_divide_12 : decode b_M_divide 12 = .ok (.iload 9, 2) := by decide +kernel
theorem d_M_divide_14 : decode b_M_divide 14 = .ok (.ifCond .lt 107, 3) := by decide +kernel
theorem d_M_divide_17 : decode b_M_divide 17 = .ok (.iload 9, 2) := by decide +kernel
theorem d_M_divide_19 : decode b_M_divide 19 = .ok (.bipush 63, 2) := by decide +kernel
theorem d_M_divide_21 : decode b_M_divide 21 = .ok (.if_icmp .le 18, 3) := by decide +kernel
theorem d_M_divide_24 : decode b_M_divide 24 = .ok (.aload_n 0, 1) := by decide +kernel
theorem d_M_divide_25 : decode b_M_divide 25 = .ok (.getfield 16, 3) := by decide +kernel
theorem d_M_divide_28 : decode b_M_divide 28 = .ok (.iload 9, 2) := by decide +kernel
theorem d_M_divide_30 : decode b_M_divide 30 = .ok (.bipush 64, 2) := by decide +kernel
theorem d_M_divide_32 : decode b_M_divide 32 = .ok (.isub, 1) := by decide +kernel
theorem d_M_divide_33 : decode b_M_divide 33 = .ok (.lushr, 1) := by decide +kernel
theorem d_M_divide_34 : decode b_M_divide 34 = .ok (.lconst 1, 1) := by decide +kernel
theorem d_M_divide_35 : decode b_M_divide 35 = .ok (.land, 1) := by decide +kernel
theorem d_M_divide_36 : decode b_M_divide 36 = .ok (.goto 12, 3) := by decide +kernel
theorem d_M_divide_39 : decode b_M_divide 39 = .ok (.aload_n 0, 1) := by decide +kernel
theorem d_M_divide_40 : decode b_M_divide 40 = .ok (.getfield 20, 3) := by decide +kernel
theorem d_M_divide_43 : decode b_M_divide 43 = .ok (.iload 9, 2) := by decide +kernel
theorem d_M_divide_45 : decode b_M_divide 45 = .ok (.lushr, 1) := by decide +kernel
theorem d_M_divide_46 : decode b_M_divide 46 = .ok (.lconst 1, 1) := by decide +kernel
theorem d_M_divide_47 : decode b_M_divide 47 = .ok (.land, 1) := by decide +kernel
theorem d_M_divide_48 : decode b_M_divide 48 = .ok (.lstore 10, 2) := by decide +kernel
theorem d_M_divide_50 : decode b_M_divide 50 = .ok (.lload 7, 2) := by decide +kernel
theorem d_M_divide_52 : decode b_M_divide 52 = .ok (.lconst 0, 1) := by decide +kernel
theorem d_M_divide_53 : decode b_M_divide 53 = .ok (.lcmp, 1) := by decide +kernel
theorem d_M_divide_54 : decode b_M_divide 54 = .ok (.ifCond .ge 7, 3) := by decide +kernel
theorem d_M_divide_57 : decode b_M_divide 57 = .ok (.iconst 1, 1) := by decide +kernel
theorem d_M_divide_58 : decode b_M_divide 58 = .ok (.goto 4, 3) := by decide +kernel
theorem d_M_divide_61 : decode b_M_divide 61 = .ok (.iconst 0, 1) := by decide +kernel
theorem d_M_divide_62 : decode b_M_divide 62 = .ok (.istore 12, 2) := by decide +kernel
theorem d_M_divide_64 : decode b_M_divide 64 = .ok (.lload 7, 2) := by decide +kernel
theorem d_M_divide_66 : decode b_M_divide 66 = .ok (.iconst 1, 1) := by decide +kernel
theorem d_M_divide_67 : decode b_M_divide 67 = .ok (.lshl, 1) := by decide +kernel
theorem d_M_divide_68 : decode b_M_divide 68 = .ok (.lload 10, 2) := by decide +kernel
theorem d_M_divide_70 : decode b_M_divide 70 = .ok (.lor, 1) := by decide +kernel
theorem d_M_divide_71 : decode b_M_divide 71 = .ok (.lstore 7, 2) := by decide +kernel
theorem d_M_divide_73 : decode b_M_divide 73 = .ok (.lload_n 3, 1) := by decide +kernel
theorem d_M_divide_74 : decode b_M_divide 74 = .ok (.iconst 1, 1) := by decide +kernel
theorem d_M_divide_75 : decode b_M_divide 75 = .ok (.lshl, 1) := by decide +kernel
theorem d_M_divide_76 : decode b_M_divide 76 = .ok (.lload 5, 2) := by decide +kernel
theorem d_M_divide_78 : decode b_M_divide 78 = .ok (.bipush 63, 2) := by decide +kernel
theorem d_M_divide_80 : decode b_M_divide 80 = .ok (.lushr, 1) := by decide +kernel
theorem d_M_divide_81 : decode b_M_divide 81 = .ok (.lor, 1) := by decide +kernel
theorem d_M_divide_82 : decode b_M_divide 82 = .ok (.lstore_n 3, 1) := by decide +kernel
theorem d_M_divide_83 : decode b_M_divide 83 = .ok (.lload 5, 2) := by decide +kernel
theorem d_M_divide_85 : decode b_M_divide 85 = .ok (.iconst 1, 1) := by decide +kernel
theorem d_M_divide_86 : decode b_M_divide 86 = .ok (.lshl, 1) := by decide +kernel
theorem d_M_divide_87 : decode b_M_divide 87 = .ok (.lstore 5, 2) := by decide +kernel
theorem d_M_divide_89 : decode b_M_divide 89 = .ok (.iload 12, 2) := by decide +kernel
theorem d_M_divide_91 : decode b_M_divide 91 = .ok (.ifCond .ne 12, 3) := by decide +kernel
theorem d_M_divide_94 : decode b_M_divide 94 = .ok (.lload 7, 2) := by decide +kernel
theorem d_M_divide_96 : decode b_M_divide 96 = .ok (.lload_n 1, 1) := by decide +kernel
theorem d_M_divide_97 : decode b_M_divide 97 = .ok (.invokestatic 23, 3) := by decide +kernel
theorem d_M_divide_100 : decode b_M_divide 100 = .ok (.ifCond .ne 15, 3) := by decide +kernel
theorem d_M_divide_103 : decode b_M_divide 103 = .ok (.lload 7, 2) := by decide +kernel
theorem d_M_divide_105 : decode b_M_divide 105 = .ok (.lload_n 1, 1) := by decide +kernel
theorem d_M_divide_106 : decode b_M_divide 106 = .ok (.lsub, 1) := by decide +kernel
theorem d_M_divide_107 : decode b_M_divide 107 = .ok (.lstore 7, 2) := by decide +kernel
theorem d_M_divide_109 : decode b_M_divide 109 = .ok (.lload 5, 2) := by decide +kernel
theorem d_M_divide_111 : decode b_M_divide 111 = .ok (.lconst 1, 1) := by decide +kernel
theorem d_M_divide_112 : decode b_M_divide 112 = .ok (.lor, 1) := by decide +kernel
theorem d_M_divide_113 : decode b_M_divide 113 = .ok (.lstore 5, 2) := by decide +kernel
theorem d_M_divide_115 : decode b_M_divide 115 = .ok (.iinc 9 (-1), 3) := by decide +kernel
theorem d_M_divide_118 : decode b_M_divide 118 = .ok (.goto (-106), 3) := by decide +kernel
theorem d_M_divide_121 : decode b_M_divide 121 = .ok (.aload_n 0, 1) := by decide +kernel
theorem d_M_divide_122 : decode b_M_divide 122 = .ok (.lload_n 3, 1) := by decide +kernel
theorem d_M_divide_123 : decode b_M_divide 123 = .ok (.putfield 16, 3) := by decide +kernel
theorem d_M_divide_126 : decode b_M_divide 126 = .ok (.aload_n 0, 1) := by decide +kernel
theorem d_M_divide_127 : decode b_M_divide 127 = .ok (.lload 5, 2) := by decide +kernel
theorem d_M_divide_129 : decode b_M_divide 129 = .ok (.putfield 20, 3) := by decide +kernel
theorem d_M_divide_132 : decode b_M_divide 132 = .ok (.aload_n 0, 1) := by decide +kernel
theorem d_M_divide_133 : decode b_M_divide 133 = .ok (.lload 7, 2) := by decide +kernel
theorem d_M_divide_135 : decode b_M_divide 135 = .ok (.putfield 27, 3) := by decide +kernel
theorem d_M_divide_138 : decode b_M_divide 138 = .ok (.return_, 1) := by decide +kernel
theorem d_M_between_0 : decode b_M_between 0 = .ok (.aload_n 0, 1) := by decide +kernel
theorem d_M_between_1 : decode b_M_between 1 = .ok (.lload 5, 2) := by decide +kernel
theorem d_M_between_3 : decode b_M_between 3 = .ok (.lconst 0, 1) := by decide +kernel
theorem d_M_between_4 : decode b_M_between 4 = .ok (.lcmp, 1) := by decide +kernel
theorem d_M_between_5 : decode b_M_between 5 = .ok (.ifCond .le 16, 3) := by decide +kernel
theorem d_M_between_8 : decode b_M_between 8 = .ok (.lload_n 3, 1) := by decide +kernel
theorem d_M_between_9 : decode b_M_between 9 = .ok (.lconst 0, 1) := by decide +kernel
theorem d_M_between_10 : decode b_M_between 10 = .ok (.lcmp, 1) := by decide +kernel
theorem d_M_between_11 : decode b_M_between 11 = .ok (.ifCond .lt 10, 3) := by decide +kernel
theorem d_M_between_14 : decode b_M_between 14 = .ok (.lload_n 3, 1) := by decide +kernel
theorem d_M_between_15 : decode b_M_between 15 = .ok (.lload 5, 2) := by decide +kernel
theorem d_M_between_17 : decode b_M_between 17 = .ok (.lcmp, 1) := by decide +kernel
theorem d_M_between_18 : decode b_M_between 18 = .ok (.ifCond .le 7, 3) := by decide +kernel
theorem d_M_between_21 : decode b_M_between 21 = .ok (.iconst 1, 1) := by decide +kernel
theorem d_M_between_22 : decode b_M_between 22 = .ok (.goto 4, 3) := by decide +kernel
theorem d_M_between_25 : decode b_M_between 25 = .ok (.iconst 0, 1) := by decide +kernel
theorem d_M_between_26 : decode b_M_between 26 = .ok (.putfield 7, 3) := by decide +kernel
theorem d_M_between_29 : decode b_M_between 29 = .ok (.aload_n 0, 1) := by decide +kernel
theorem d_M_between_30 : decode b_M_between 30 = .ok (.getfield 7, 3) := by decide +kernel
theorem d_M_between_33 : decode b_M_between 33 = .ok (.ifCond .le 5, 3) := by decide +kernel
theorem d_M_between_36 : decode b_M_between 36 = .ok (.iconst 0, 1) := by decide +kernel
theorem d_M_between_37 : decode b_M_between 37 = .ok (.ireturn, 1) := by decide +kernel
theorem d_M_between_38 : decode b_M_between 38 = .ok (.iload_n 1, 1) := by decide +kernel
theorem d_M_between_39 : decode b_M_between 39 = .ok (.i2l, 1) := by decide +kernel
theorem d_M_between_40 : decode b_M_between 40 = .ok (.aload_n 0, 1) := by decide +kernel
theorem d_M_between_41 : decode b_M_between 41 = .ok (.iload_n 2, 1) := by decide +kernel
theorem d_M_between_42 : decode b_M_between 42 = .ok (.i2l, 1) := by decide +kernel
theorem d_M_between_43 : decode b_M_between 43 = .ok (.iload_n 1, 1) := by decide +kernel
theorem d_M_between_44 : decode b_M_between 44 = .ok (.i2l, 1) := by decide +kernel
theorem d_M_between_45 : decode b_M_between 45 = .ok (.lsub, 1) := by decide +kernel
theorem d_M_between_46 : decode b_M_between 46 = .ok (.lload_n 3, 1) := by decide +kernel
theorem d_M_between_47 : decode b_M_between 47 = .ok (.lload 5, 2) := by decide +kernel
theorem d_M_between_49 : decode b_M_between 49 = .ok (.invokevirtual 54, 3) := by decide +kernel
theorem d_M_between_52 : decode b_M_between 52 = .ok (.ladd, 1) := by decide +kernel
theorem d_M_between_53 : decode b_M_between 53 = .ok (.l2i, 1) := by decide +kernel
theorem d_M_between_54 : decode b_M_between 54 = .ok (.ireturn, 1) := by decide +kernel
theorem d_M_channel_0 : decode b_M_channel 0 = .ok (.aload_n 0, 1) := by decide +kernel
theorem d_M_channel_1 : decode b_M_channel 1 = .ok (.iconst 0, 1) := by decide +kernel
theorem d_M_channel_2 : decode b_M_channel 2 = .ok (.putfield 7, 3) := by decide +kernel
theorem d_M_channel_5 : decode b_M_channel 5 = .ok (.iload_n 1, 1) := by decide +kernel
theorem d_M_channel_6 : decode b_M_channel 6 = .ok (.ifCond .ge 7, 3) := by decide +kernel
theorem d_M_channel_9 : decode b_M_channel 9 = .ok (.iconst 0, 1) := by decide +kernel
theorem d_M_channel_10 : decode b_M_channel 10 = .ok (.goto 25, 3) := by decide +kernel
theorem d_M_channel_13 : decode b_M_channel 13 = .ok (.iload_n 1, 1) := by decide +kernel
theorem d_M_channel_14 : decode b_M_channel 14 = .ok (.ldc 58, 2) := by decide +kernel
theorem d_M_channel_16 : decode b_M_channel 16 = .ok (.if_icmp .le 9, 3) := by decide +kernel
theorem d_M_channel_19 : decode b_M_channel 19 = .ok (.sipush 255, 3) := by decide +kernel
theorem d_M_channel_22 : decode b_M_channel 22 = .ok (.goto 13, 3) := by decide +kernel
theorem d_M_channel_25 : decode b_M_channel 25 = .ok (.sipush 255, 3) := by decide +kernel
theorem d_M_channel_28 : decode b_M_channel 28 = .ok (.iload_n 1, 1) := by decide +kernel
theorem d_M_channel_29 : decode b_M_channel 29 = .ok (.imul, 1) := by decide +kernel
theorem d_M_channel_30 : decode b_M_channel 30 = .ok (.ldc 58, 2) := by decide +kernel
theorem d_M_channel_32 : decode b_M_channel 32 = .ok (.invokestatic 59, 3) := by decide +kernel
theorem d_M_channel_35 : decode b_M_channel 35 = .ok (.ireturn, 1) := by decide +kernel
theorem d_M_nearest_0 : decode b_M_nearest 0 = .ok (.iload_n 0, 1) := by decide +kernel
theorem d_M_nearest_1 : decode b_M_nearest 1 = .ok (.iload_n 1, 1) := by decide +kernel
theorem d_M_nearest_2 : decode b_M_nearest 2 = .ok (.idiv, 1) := by decide +kernel
theorem d_M_nearest_3 : decode b_M_nearest 3 = .ok (.istore_n 2, 1) := by decide +kernel
theorem d_M_nearest_4 : decode b_M_nearest 4 = .ok (.iconst 2, 1) := by decide +kernel
theorem d_M_nearest_5 : decode b_M_nearest 5 = .ok (.iload_n 0, 1) := by decide +kernel
theorem d_M_nearest_6 : decode b_M_nearest 6 = .ok (.iload_n 1, 1) := by decide +kernel
theorem d_M_nearest_7 : decode b_M_nearest 7 = .ok (.irem, 1) := by decide +kernel
theorem d_M_nearest_8 : decode b_M_nearest 8 = .ok (.imul, 1) := by decide +kernel
theorem d_M_nearest_9 : decode b_M_nearest 9 = .ok (.iload_n 1, 1) := by decide +kernel
theorem d_M_nearest_10 : decode b_M_nearest 10 = .ok (.if_icmp .lt 9, 3) := by decide +kernel
theorem d_M_nearest_13 : decode b_M_nearest 13 = .ok (.iload_n 2, 1) := by decide +kernel
theorem d_M_nearest_14 : decode b_M_nearest 14 = .ok (.iconst 1, 1) := by decide +kernel
theorem d_M_nearest_15 : decode b_M_nearest 15 = .ok (.iadd, 1) := by decide +kernel
theorem d_M_nearest_16 : decode b_M_nearest 16 = .ok (.goto 4, 3) := by decide +kernel
theorem d_M_nearest_19 : decode b_M_nearest 19 = .ok (.iload_n 2, 1) := by decide +kernel
theorem d_M_nearest_20 : decode b_M_nearest 20 = .ok (.ireturn, 1) := by decide +kernel
theorem d_M_fixed_0 : decode b_M_fixed 0 = .ok (.aload_n 0, 1) := by decide +kernel
theorem d_M_fixed_1 : decode b_M_fixed 1 = .ok (.iload_n 1, 1) := by decide +kernel
theorem d_M_fixed_2 : decode b_M_fixed 2 = .ok (.ifCond .lt 10, 3) := by decide +kernel
theorem d_M_fixed_5 : decode b_M_fixed 5 = .ok (.iload_n 1, 1) := by decide +kernel
theorem d_M_fixed_6 : decode b_M_fixed 6 = .ok (.sipush 255, 3) := by decide +kernel
theorem d_M_fixed_9 : decode b_M_fixed 9 = .ok (.if_icmp .le 7, 3) := by decide +kernel
theorem d_M_fixed_12 : decode b_M_fixed 12 = .ok (.iconst 1, 1) := by decide +kernel
theorem d_M_fixed_13 : decode b_M_fixed 13 = .ok (.goto 4, 3) := by decide +kernel
theorem d_M_fixed_16 : decode b_M_fixed 16 = .ok (.iconst 0, 1) := by decide +kernel
theorem d_M_fixed_17 : decode b_M_fixed 17 = .ok (.putfield 7, 3) := by decide +kernel
theorem d_M_fixed_20 : decode b_M_fixed 20 = .ok (.aload_n 0, 1) := by decide +kernel
theorem d_M_fixed_21 : decode b_M_fixed 21 = .ok (.getfield 7, 3) := by decide +kernel
theorem d_M_fixed_24 : decode b_M_fixed 24 = .ok (.ifCond .le 7, 3) := by decide +kernel
theorem d_M_fixed_27 : decode b_M_fixed 27 = .ok (.iconst 0, 1) := by decide +kernel
theorem d_M_fixed_28 : decode b_M_fixed 28 = .ok (.goto 13, 3) := by decide +kernel
theorem d_M_fixed_31 : decode b_M_fixed 31 = .ok (.ldc 58, 2) := by decide +kernel
theorem d_M_fixed_33 : decode b_M_fixed 33 = .ok (.iload_n 1, 1) := by decide +kernel
theorem d_M_fixed_34 : decode b_M_fixed 34 = .ok (.imul, 1) := by decide +kernel
theorem d_M_fixed_35 : decode b_M_fixed 35 = .ok (.sipush 255, 3) := by decide +kernel
theorem d_M_fixed_38 : decode b_M_fixed 38 = .ok (.invokestatic 59, 3) := by decide +kernel
theorem d_M_fixed_41 : decode b_M_fixed 41 = .ok (.ireturn, 1) := by decide +kernel
theorem d_M_shade_0 : decode b_M_shade 0 = .ok (.aload_n 0, 1) := by decide +kernel
theorem d_M_shade_1 : decode b_M_shade 1 = .ok (.iload_n 1, 1) := by decide +kernel
theorem d_M_shade_2 : decode b_M_shade 2 = .ok (.ifCond .lt 21, 3) := by decide +kernel
theorem d_M_shade_5 : decode b_M_shade 5 = .ok (.iload_n 1, 1) := by decide +kernel
theorem d_M_shade_6 : decode b_M_shade 6 = .ok (.sipush 255, 3) := by decide +kernel
theorem d_M_shade_9 : decode b_M_shade 9 = .ok (.if_icmp .gt 14, 3) := by decide +kernel
theorem d_M_shade_12 : decode b_M_shade 12 = .ok (.iload_n 2, 1) := by decide +kernel
theorem d_M_shade_13 : decode b_M_shade 13 = .ok (.ifCond .lt 10, 3) := by decide +kernel
theorem d_M_shade_16 : decode b_M_shade 16 = .ok (.iload_n 2, 1) := by decide +kernel
theorem d_M_shade_17 : decode b_M_shade 17 = .ok (.sipush 255, 3) := by decide +kernel
theorem d_M_shade_20 : decode b_M_shade 20 = .ok (.if_icmp .le 7, 3) := by decide +kernel
theorem d_M_shade_23 : decode b_M_shade 23 = .ok (.iconst 1, 1) := by decide +kernel
theorem d_M_shade_24 : decode b_M_shade 24 = .ok (.goto 4, 3) := by decide +kernel
theorem d_M_shade_27 : decode b_M_shade 27 = .ok (.iconst 0, 1) := by decide +kernel
theorem d_M_shade_28 : decode b_M_shade 28 = .ok (.putfield 7, 3) := by decide +kernel
theorem d_M_shade_31 : decode b_M_shade 31 = .ok (.aload_n 0, 1) := by decide +kernel
theorem d_M_shade_32 : decode b_M_shade 32 = .ok (.getfield 7, 3) := by decide +kernel
theorem d_M_shade_35 : decode b_M_shade 35 = .ok (.ifCond .le 7, 3) := by decide +kernel
theorem d_M_shade_38 : decode b_M_shade 38 = .ok (.iconst 0, 1) := by decide +kernel
theorem d_M_shade_39 : decode b_M_shade 39 = .ok (.goto 12, 3) := by decide +kernel
theorem d_M_shade_42 : decode b_M_shade 42 = .ok (.iload_n 1, 1) := by decide +kernel
theorem d_M_shade_43 : decode b_M_shade 43 = .ok (.iload_n 2, 1) := by decide +kernel
theorem d_M_shade_44 : decode b_M_shade 44 = .ok (.imul, 1) := by decide +kernel
theorem d_M_shade_45 : decode b_M_shade 45 = .ok (.sipush 255, 3) := by decide +kernel
theorem d_M_shade_48 : decode b_M_shade 48 = .ok (.invokestatic 59, 3) := by decide +kernel
theorem d_M_shade_51 : decode b_M_shade 51 = .ok (.ireturn, 1) := by decide +kernel
theorem d_M_fromHalf_0 : decode b_M_fromHalf 0 = .ok (.aload_n 0, 1) := by decide +kernel
theorem d_M_fromHalf_1 : decode b_M_fromHalf 1 = .ok (.iconst 0, 1) := by decide +kernel
theorem d_M_fromHalf_2 : decode b_M_fromHalf 2 = .ok (.putfield 7, 3) := by decide +kernel
theorem d_M_fromHalf_5 : decode b_M_fromHalf 5 = .ok (.iload_n 1, 1) := by decide +kernel
theorem d_M_fromHalf_6 : decode b_M_fromHalf 6 = .ok (.bipush 15, 2) := by decide +kernel
theorem d_M_fromHalf_8 : decode b_M_fromHalf 8 = .ok (.ishr, 1) := by decide +kernel
theorem d_M_fromHalf_9 : decode b_M_fromHalf 9 = .ok (.iconst 1, 1) := by decide +kernel
theorem d_M_fromHalf_10 : decode b_M_fromHalf 10 = .ok (.iand, 1) := by decide +kernel
theorem d_M_fromHalf_11 : decode b_M_fromHalf 11 = .ok (.iconst 1, 1) := by decide +kernel
theorem d_M_fromHalf_12 : decode b_M_fromHalf 12 = .ok (.if_icmp .ne 7, 3) := by decide +kernel
theorem d_M_fromHalf_15 : decode b_M_fromHalf 15 = .ok (.iconst 1, 1) := by decide +kernel
theorem d_M_fromHalf_16 : decode b_M_fromHalf 16 = .ok (.goto 4, 3) := by decide +kernel
theorem d_M_fromHalf_19 : decode b_M_fromHalf 19 = .ok (.iconst 0, 1) := by decide +kernel
theorem d_M_fromHalf_20 : decode b_M_fromHalf 20 = .ok (.istore_n 2, 1) := by decide +kernel
theorem d_M_fromHalf_21 : decode b_M_fromHalf 21 = .ok (.iload_n 1, 1) := by decide +kernel
theorem d_M_fromHalf_22 : decode b_M_fromHalf 22 = .ok (.bipush 10, 2) := by decide +kernel
theorem d_M_fromHalf_24 : decode b_M_fromHalf 24 = .ok (.ishr, 1) := by decide +kernel
theorem d_M_fromHalf_25 : decode b_M_fromHalf 25 = .ok (.bipush 31, 2) := by decide +kernel
theorem d_M_fromHalf_27 : decode b_M_fromHalf 27 = .ok (.iand, 1) := by decide +kernel
theorem d_M_fromHalf_28 : decode b_M_fromHalf 28 = .ok (.bipush 31, 2) := by decide +kernel
theorem d_M_fromHalf_30 : decode b_M_fromHalf 30 = .ok (.if_icmp .ne 27, 3) := by decide +kernel
theorem d_M_fromHalf_33 : decode b_M_fromHalf 33 = .ok (.iload_n 1, 1) := by decide +kernel
theorem d_M_fromHalf_34 : decode b_M_fromHalf 34 = .ok (.sipush 1023, 3) := by decide +kernel
theorem d_M_fromHalf_37 : decode b_M_fromHalf 37 = .ok (.iand, 1) := by decide +kernel
theorem d_M_fromHalf_38 : decode b_M_fromHalf 38 = .ok (.ifCond .le 7, 3) := by decide +kernel
theorem d_M_fromHalf_41 : decode b_M_fromHalf 41 = .ok (.iconst 0, 1) := by decide +kernel
theorem d_M_fromHalf_42 : decode b_M_fromHalf 42 = .ok (.goto 14, 3) := by decide +kernel
theorem d_M_fromHalf_45 : decode b_M_fromHalf 45 = .ok (.iload_n 2, 1) := by decide +kernel
theorem d_M_fromHalf_46 : decode b_M_fromHalf 46 = .ok (.ifCond .eq 8, 3) := by decide +kernel
theorem d_M_fromHalf_49 : decode b_M_fromHalf 49 = .ok (.ldc 43, 2) := by decide +kernel
theorem d_M_fromHalf_51 : decode b_M_fromHalf 51 = .ok (.goto 5, 3) := by decide +kernel
theorem d_M_fromHalf_54 : decode b_M_fromHalf 54 = .ok (.ldc 42, 2) := by decide +kernel
theorem d_M_fromHalf_56 : decode b_M_fromHalf 56 = .ok (.ireturn, 1) := by decide +kernel
theorem d_M_fromHalf_57 : decode b_M_fromHalf 57 = .ok (.iload_n 2, 1) := by decide +kernel
theorem d_M_fromHalf_58 : decode b_M_fromHalf 58 = .ok (.ifCond .eq 11, 3) := by decide +kernel
theorem d_M_fromHalf_61 : decode b_M_fromHalf 61 = .ok (.iload_n 1, 1) := by decide +kernel
theorem d_M_fromHalf_62 : decode b_M_fromHalf 62 = .ok (.invokestatic 65, 3) := by decide +kernel
theorem d_M_fromHalf_65 : decode b_M_fromHalf 65 = .ok (.lneg, 1) := by decide +kernel
theorem d_M_fromHalf_66 : decode b_M_fromHalf 66 = .ok (.goto 7, 3) := by decide +kernel
theorem d_M_fromHalf_69 : decode b_M_fromHalf 69 = .ok (.iload_n 1, 1) := by decide +kernel
theorem d_M_fromHalf_70 : decode b_M_fromHalf 70 = .ok (.invokestatic 65, 3) := by decide +kernel
theorem d_M_fromHalf_73 : decode b_M_fromHalf 73 = .ok (.lstore_n 3, 1) := by decide +kernel
theorem d_M_fromHalf_74 : decode b_M_fromHalf 74 = .ok (.lload_n 3, 1) := by decide +kernel
theorem d_M_fromHalf_75 : decode b_M_fromHalf 75 = .ok (.bipush 8, 2) := by decide +kernel
theorem d_M_fromHalf_77 : decode b_M_fromHalf 77 = .ok (.lshr, 1) := by decide +kernel
theorem d_M_fromHalf_78 : decode b_M_fromHalf 78 = .ok (.lstore 5, 2) := by decide +kernel
theorem d_M_fromHalf_80 : decode b_M_fromHalf 80 = .ok (.lload 5, 2) := by decide +kernel
theorem d_M_fromHalf_82 : decode b_M_fromHalf 82 = .ok (.ldc2_w 44, 3) := by decide +kernel
theorem d_M_fromHalf_85 : decode b_M_fromHalf 85 = .ok (.lcmp, 1) := by decide +kernel
theorem d_M_fromHalf_86 : decode b_M_fromHalf 86 = .ok (.ifCond .le 8, 3) := by decide +kernel
theorem d_M_fromHalf_89 : decode b_M_fromHalf 89 = .ok (.ldc 42, 2) := by decide +kernel
theorem d_M_fromHalf_91 : decode b_M_fromHalf 91 = .ok (.goto 20, 3) := by decide +kernel
theorem d_M_fromHalf_94 : decode b_M_fromHalf 94 = .ok (.lload 5, 2) := by decide +kernel
theorem d_M_fromHalf_96 : decode b_M_fromHalf 96 = .ok (.ldc2_w 46, 3) := by decide +kernel
theorem d_M_fromHalf_99 : decode b_M_fromHalf 99 = .ok (.lcmp, 1) := by decide +kernel
theorem d_M_fromHalf_100 : decode b_M_fromHalf 100 = .ok (.ifCond .ge 8, 3) := by decide +kernel
theorem d_M_fromHalf_103 : decode b_M_fromHalf 103 = .ok (.ldc 43, 2) := by decide +kernel
theorem d_M_fromHalf_105 : decode b_M_fromHalf 105 = .ok (.goto 6, 3) := by decide +kernel
theorem d_M_fromHalf_108 : decode b_M_fromHalf 108 = .ok (.lload 5, 2) := by decide +kernel
theorem d_M_fromHalf_110 : decode b_M_fromHalf 110 = .ok (.l2i, 1) := by decide +kernel
theorem d_M_fromHalf_111 : decode b_M_fromHalf 111 = .ok (.ireturn, 1) := by decide +kernel
theorem d_M_scaled_0 : decode b_M_scaled 0 = .ok (.iload_n 0, 1) := by decide +kernel
theorem d_M_scaled_1 : decode b_M_scaled 1 = .ok (.bipush 10, 2) := by decide +kernel
theorem d_M_scaled_3 : decode b_M_scaled 3 = .ok (.ishr, 1) := by decide +kernel
theorem d_M_scaled_4 : decode b_M_scaled 4 = .ok (.bipush 31, 2) := by decide +kernel
theorem d_M_scaled_6 : decode b_M_scaled 6 = .ok (.iand, 1) := by decide +kernel
theorem d_M_scaled_7 : decode b_M_scaled 7 = .ok (.istore_n 1, 1) := by decide +kernel
theorem d_M_scaled_8 : decode b_M_scaled 8 = .ok (.iload_n 0, 1) := by decide +kernel
theorem d_M_scaled_9 : decode b_M_scaled 9 = .ok (.sipush 1023, 3) := by decide +kernel
theorem d_M_scaled_12 : decode b_M_scaled 12 = .ok (.iand, 1) := by decide +kernel
theorem d_M_scaled_13 : decode b_M_scaled 13 = .ok (.i2l, 1) := by decide +kernel
theorem d_M_scaled_14 : decode b_M_scaled 14 = .ok (.lstore_n 2, 1) := by decide +kernel
theorem d_M_scaled_15 : decode b_M_scaled 15 = .ok (.iload_n 1, 1) := by decide +kernel
theorem d_M_scaled_16 : decode b_M_scaled 16 = .ok (.ifCond .ne 7, 3) := by decide +kernel
theorem d_M_scaled_19 : decode b_M_scaled 19 = .ok (.lload_n 2, 1) := by decide +kernel
theorem d_M_scaled_20 : decode b_M_scaled 20 = .ok (.goto 12, 3) := by decide +kernel
theorem d_M_scaled_23 : decode b_M_scaled 23 = .ok (.ldc2_w 63, 3) := by decide +kernel
theorem d_M_scaled_26 : decode b_M_scaled 26 = .ok (.lload_n 2, 1) := by decide +kernel
theorem d_M_scaled_27 : decode b_M_scaled 27 = .ok (.ladd, 1) := by decide +kernel
theorem d_M_scaled_28 : decode b_M_scaled 28 = .ok (.iload_n 1, 1) := by decide +kernel
theorem d_M_scaled_29 : decode b_M_scaled 29 = .ok (.iconst 1, 1) := by decide +kernel
theorem d_M_scaled_30 : decode b_M_scaled 30 = .ok (.isub, 1) := by decide +kernel
theorem d_M_scaled_31 : decode b_M_scaled 31 = .ok (.lshl, 1) := by decide +kernel
theorem d_M_scaled_32 : decode b_M_scaled 32 = .ok (.lreturn, 1) := by decide +kernel
theorem d_M_toHalf_0 : decode b_M_toHalf 0 = .ok (.aload_n 0, 1) := by decide +kernel
theorem d_M_toHalf_1 : decode b_M_toHalf 1 = .ok (.iconst 0, 1) := by decide +kernel
theorem d_M_toHalf_2 : decode b_M_toHalf 2 = .ok (.putfield 7, 3) := by decide +kernel
theorem d_M_toHalf_5 : decode b_M_toHalf 5 = .ok (.iload_n 1, 1) := by decide +kernel
theorem d_M_toHalf_6 : decode b_M_toHalf 6 = .ok (.i2l, 1) := by decide +kernel
theorem d_M_toHalf_7 : decode b_M_toHalf 7 = .ok (.invokestatic 30, 3) := by decide +kernel
theorem d_M_toHalf_10 : decode b_M_toHalf 10 = .ok (.bipush 8, 2) := by decide +kernel
theorem d_M_toHalf_12 : decode b_M_toHalf 12 = .ok (.lshl, 1) := by decide +kernel
theorem d_M_toHalf_13 : decode b_M_toHalf 13 = .ok (.lstore_n 2, 1) := by decide +kernel
theorem d_M_toHalf_14 : decode b_M_toHalf 14 = .ok (.iconst 0, 1) := by decide +kernel
theorem d_M_toHalf_15 : decode b_M_toHalf 15 = .ok (.istore 4, 2) := by decide +kernel
theorem d_M_toHalf_17 : decode b_M_toHalf 17 = .ok (.sipush 31744, 3) := by decide +kernel
theorem d_M_toHalf_20 : decode b_M_toHalf 20 = .ok (.istore 5, 2) := by decide +kernel
theorem d_M_toHalf_22 : decode b_M_toHalf 22 = .ok (.iload 5, 2) := by decide +kernel
theorem d_M_toHalf_24 : decode b_M_toHalf 24 = .ok (.iload 4, 2) := by decide +kernel
theorem d_M_toHalf_26 : decode b_M_toHalf 26 = .ok (.isub, 1) := by decide +kernel
theorem d_M_toHalf_27 : decode b_M_toHalf 27 = .ok (.iconst 1, 1) := by decide +kernel
theorem d_M_toHalf_28 : decode b_M_toHalf 28 = .ok (.if_icmp .le 36, 3) := by decide +kernel
theorem d_M_toHalf_31 : decode b_M_toHalf 31 = .ok (.iload 4, 2) := by decide +kernel
theorem d_M_toHalf_33 : decode b_M_toHalf 33 = .ok (.iload 5, 2) := by decide +kernel
theorem d_M_toHalf_35 : decode b_M_toHalf 35 = .ok (.iadd, 1) := by decide +kernel
theorem d_M_toHalf_36 : decode b_M_toHalf 36 = .ok (.iconst 1, 1) := by decide +kernel
theorem d_M_toHalf_37 : decode b_M_toHalf 37 = .ok (.ishr, 1) := by decide +kernel
theorem d_M_toHalf_38 : decode b_M_toHalf 38 = .ok (.istore 6, 2) := by decide +kernel
theorem d_M_toHalf_40 : decode b_M_toHalf 40 = .ok (.iload 6, 2) := by decide +kernel
theorem d_M_toHalf_42 : decode b_M_toHalf 42 = .ok (.invokestatic 65, 3) := by decide +kernel
theorem d_M_toHalf_45 : decode b_M_toHalf 45 = .ok (.lload_n 2, 1) := by decide +kernel
theorem d_M_toHalf_46 : decode b_M_toHalf 46 = .ok (.lcmp, 1) := by decide +kernel
theorem d_M_toHalf_47 : decode b_M_toHalf 47 = .ok (.ifCond .gt 10, 3) := by decide +kernel
theorem d_M_toHalf_50 : decode b_M_toHalf 50 = .ok (.iload 6, 2) := by decide +kernel
theorem d_M_toHalf_52 : decode b_M_toHalf 52 = .ok (.istore 4, 2) := by decide +kernel
theorem d_M_toHalf_54 : decode b_M_toHalf 54 = .ok (.goto 7, 3) := by decide +kernel
theorem d_M_toHalf_57 : decode b_M_toHalf 57 = .ok (.iload 6, 2) := by decide +kernel
theorem d_M_toHalf_59 : decode b_M_toHalf 59 = .ok (.istore 5, 2) := by decide +kernel
theorem d_M_toHalf_61 : decode b_M_toHalf 61 = .ok (.goto (-39), 3) := by decide +kernel
theorem d_M_toHalf_64 : decode b_M_toHalf 64 = .ok (.lload_n 2, 1) := by decide +kernel
theorem d_M_toHalf_65 : decode b_M_toHalf 65 = .ok (.iload 4, 2) := by decide +kernel
theorem d_M_toHalf_67 : decode b_M_toHalf 67 = .ok (.invokestatic 65, 3) := by decide +kernel
theorem d_M_toHalf_70 : decode b_M_toHalf 70 = .ok (.lsub, 1) := by decide +kernel
theorem d_M_toHalf_71 : decode b_M_toHalf 71 = .ok (.lstore 6, 2) := by decide +kernel
theorem d_M_toHalf_73 : decode b_M_toHalf 73 = .ok (.iload 4, 2) := by decide +kernel
theorem d_M_toHalf_75 : decode b_M_toHalf 75 = .ok (.iconst 1, 1) := by decide +kernel
theorem d_M_toHalf_76 : decode b_M_toHalf 76 = .ok (.iadd, 1) := by decide +kernel
theorem d_M_toHalf_77 : decode b_M_toHalf 77 = .ok (.invokestatic 65, 3) := by decide +kernel
theorem d_M_toHalf_80 : decode b_M_toHalf 80 = .ok (.lload_n 2, 1) := by decide +kernel
theorem d_M_toHalf_81 : decode b_M_toHalf 81 = .ok (.lsub, 1) := by decide +kernel
theorem d_M_toHalf_82 : decode b_M_toHalf 82 = .ok (.lstore 8, 2) := by decide +kernel
theorem d_M_toHalf_84 : decode b_M_toHalf 84 = .ok (.lload 6, 2) := by decide +kernel
theorem d_M_toHalf_86 : decode b_M_toHalf 86 = .ok (.lload 8, 2) := by decide +kernel
theorem d_M_toHalf_88 : decode b_M_toHalf 88 = .ok (.lcmp, 1) := by decide +kernel
theorem d_M_toHalf_89 : decode b_M_toHalf 89 = .ok (.ifCond .lt 18, 3) := by decide +kernel
theorem d_M_toHalf_92 : decode b_M_toHalf 92 = .ok (.lload 6, 2) := by decide +kernel
theorem d_M_toHalf_94 : decode b_M_toHalf 94 = .ok (.lload 8, 2) := by decide +kernel
theorem d_M_toHalf_96 : decode b_M_toHalf 96 = .ok (.lcmp, 1) := by decide +kernel
theorem d_M_toHalf_97 : decode b_M_toHalf 97 = .ok (.ifCond .ne 15, 3) := by decide +kernel
theorem d_M_toHalf_100 : decode b_M_toHalf 100 = .ok (.iload 4, 2) := by decide +kernel
theorem d_M_toHalf_102 : decode b_M_toHalf 102 = .ok (.iconst 2, 1) := by decide +kernel
theorem d_M_toHalf_103 : decode b_M_toHalf 103 = .ok (.irem, 1) := by decide +kernel
theorem d_M_toHalf_104 : decode b_M_toHalf 104 = .ok (.ifCond .ne 8, 3) := by decide +kernel
theorem d_M_toHalf_107 : decode b_M_toHalf 107 = .ok (.iload 4, 2) := by decide +kernel
theorem d_M_toHalf_109 : decode b_M_toHalf 109 = .ok (.goto 7, 3) := by decide +kernel
theorem d_M_toHalf_112 : decode b_M_toHalf 112 = .ok (.iload 4, 2) := by decide +kernel
theorem d_M_toHalf_114 : decode b_M_toHalf 114 = .ok (.iconst 1, 1) := by decide +kernel
theorem d_M_toHalf_115 : decode b_M_toHalf 115 = .ok (.iadd, 1) := by decide +kernel
theorem d_M_toHalf_116 : decode b_M_toHalf 116 = .ok (.istore 10, 2) := by decide +kernel
theorem d_M_toHalf_118 : decode b_M_toHalf 118 = .ok (.iload_n 1, 1) := by decide +kernel
theorem d_M_toHalf_119 : decode b_M_toHalf 119 = .ok (.ifCond .ge 16, 3) := by decide +kernel
theorem d_M_toHalf_122 : decode b_M_toHalf 122 = .ok (.iload 10, 2) := by decide +kernel
theorem d_M_toHalf_124 : decode b_M_toHalf 124 = .ok (.ifCond .le 11, 3) := by decide +kernel
theorem d_M_toHalf_127 : decode b_M_toHalf 127 = .ok (.iload 10, 2) := by decide +kernel
theorem d_M_toHalf_129 : decode b_M_toHalf 129 = .ok (.ldc 69, 2) := by decide +kernel
theorem d_M_toHalf_131 : decode b_M_toHalf 131 = .ok (.ior, 1) := by decide +kernel
theorem d_M_toHalf_132 : decode b_M_toHalf 132 = .ok (.goto 5, 3) := by decide +kernel
theorem d_M_toHalf_135 : decode b_M_toHalf 135 = .ok (.iload 10, 2) := by decide +kernel
theorem d_M_toHalf_137 : decode b_M_toHalf 137 = .ok (.ireturn, 1) := by decide +kernel
set_option maxRecDepth 20000 in
theorem g_M_30 {w0 : Cond} : GoodIn (w0 :: WS) (wsS R_M 30 y_M_size w_M_size) := ws_good (by decide +kernel) ic_M_size rfl
set_option maxRecDepth 20000 in
theorem g_M_54 {w0 : Cond} : GoodIn (w0 :: WS) (wsV R_M 54 R_M y_M_exact w_M_exact) := ws_good (by decide +kernel) ic_M_exact rfl
set_option maxRecDepth 20000 in
theorem g_M_34 {w0 : Cond} : GoodIn (w0 :: WS) (wsV R_M 34 R_M y_M_multiply w_M_multiply) := ws_good (by decide +kernel) ic_M_multiply rfl
set_option maxRecDepth 20000 in
theorem g_M_38 {w0 : Cond} : GoodIn (w0 :: WS) (wsV R_M 38 R_M y_M_divide w_M_divide) := ws_good (by decide +kernel) ic_M_divide rfl
set_option maxRecDepth 20000 in
theorem g_M_23 {w0 : Cond} : GoodIn (w0 :: WS) (wsS R_M 23 y_M_below w_M_below) := ws_good (by decide +kernel) ic_M_below rfl
set_option maxRecDepth 20000 in
theorem g_M_59 {w0 : Cond} : GoodIn (w0 :: WS) (wsS R_M 59 y_M_nearest w_M_nearest) := ws_good (by decide +kernel) ic_M_nearest rfl
set_option maxRecDepth 20000 in
theorem g_M_65 {w0 : Cond} : GoodIn (w0 :: WS) (wsS R_M 65 y_M_scaled w_M_scaled) := ws_good (by decide +kernel) ic_M_scaled rfl
end
section
/-! the reference's object: its fields, its cell -/
def F_F : u_T := fun k => match k with
  | _ => ("", "", "", false)
def t_F : Nat → FieldType := fun k => match k with
  | _ => .int
def F_M : u_T := fun k => match k with
  | 0 => ("FixedNumbersModel", "thrown", "I", false)
  | 1 => ("FixedNumbersModel", "upper", "J", false)
  | 2 => ("FixedNumbersModel", "lower", "J", false)
  | _ => ("FixedNumbersModel", "left", "J", false)
def t_M : Nat → FieldType := fun k => match k with
  | 0 => .int
  | _ => .long
theorem n_M : ∀ a, a < 4 → ∀ b, b < 4 → a ≠ b → (F_M a).2.1 ≠ (F_M b).2.1 := by decide +kernel
theorem t_M_ok : ∀ k, k < 4 → parseFieldDescriptor (F_M k).2.2.1 = some (t_M k) := by decide +kernel
theorem i_M0 : ∀ w ∈ u_ws R_M F_M 4, w ∈ lw_tbl := by decide +kernel
theorem i_M1 : ∀ w ∈ u_ws R_M F_M 4, goodWord w = true := by decide +kernel
theorem i_M : ∀ w ∈ u_ws R_M F_M 4, w ∈ WS := fun w h => tm (i_M0 w h) (i_M1 w h)
abbrev classes : List vw_C := [(R_F, F_F, 0), (R_M, F_M, 4)]
abbrev MS : Type := Int32 × Int64 × Int64 × Int64
abbrev at_M (dC : Nat → ClassId) (dI : Nat → Nat → Nat) (A : Nat → Prop) (h0 : Nat) (u : MS) (t : State) : Prop := va_P (dC, dI) classes [(h0, .inr (1, [.int u.1, .long u.2.1, .long u.2.2.1, .long u.2.2.2]))] t.heap ∧ va_K (dC, dI) classes [] t ∧ va_D A [(h0, .inr (1, [.int u.1, .long u.2.1, .long u.2.2.1, .long u.2.2.2]))]
section LPH
variable {p : Program} {l : Launch} {e : Env} {R : Room} {s : State} {m : MethodId} {args : Array Value} {below : List Frame} {meth : Method} {c : Code} {cells slots : Nat} {Q : State → Prop} {ls : Array Slot}
/-- a loop at J that writes: the heap rides along -/
theorem lp_H {σ : Type} {nL J : Nat} (F : σ → List (Nat × Value)) (I : Nat → σ → Heap → List Loc → Prop)
    (step : ∀ (n : Nat) (x : σ) (H : Heap) (locs : List Loc), I n x H locs → (∀ (n' : Nat) (x' : σ) (H' : Heap) (locs' : List Loc), n' < n → I n' x' H' locs' → ∀ ls : Array Slot, lv_has ls nL (F x') → W p l e R s m args below meth c H' locs' cells slots Q (F0 m J ls [])) → ∀ ls : Array Slot, lv_has ls nL (F x) → W p l e R s m args below meth c H locs cells slots Q (F0 m J ls []))
    (n : Nat) (x : σ) {H : Heap} {locs : List Loc} (h0 : I n x H locs) (hl : lv_has ls nL (F x)) : W p l e R s m args below meth c H locs cells slots Q (F0 m J ls []) := by
  induction n using Nat.strongRecOn generalizing x ls H locs with
  | ind n ih => exact step n x H locs h0 (fun n' x' H' locs' hn hI ls' hl' => ih n' hn x' hI hl') ls hl
end LPH
set_option maxHeartbeats 4000000 in
set_option maxRecDepth 100000 in
theorem c_M_below (l : Launch) (x y : Int64)  : Met l y_M_below w_M_below ({ frames := 0, cells := 0, slots := 0, locals := 0 }) (fun v _ => v = [.long x, .long y].toArray) (vp_Si (fun r => r = if uN x < uN y then 1 else 0)) 0 0 (fun _ => False) := by
  refine Met.ofW (cc := b_M_below) (maxL := 4) (ret := some .boolean) (by decide +kernel) rfl ?_
  intro p e s m args below meth c s₁ B hml hv
  subst hv
  have hx := B.exec
  have hb := B.bytes
  have hr := B.returns
  have hts := atoms_spec (ws := w_M_below) B.pre
  have hown : s.vm.findClass R_M = some m.cls := findClass_of_methodNamed B.named
  have hlocks := B.notSynchronized
  have hl := lv_entry ([.long x, .long y]) (n := 4) (Nat.le_of_ble_eq_true rfl)
  rw [lg_entry_eq]
  generalize (lg_sl ([.long x, .long y]) ++ List.replicate (4 - (lg_sl ([.long x, .long y])).length) Slot.unset).toArray = ls at hl ⊢
  have hl : lv_has ls 4 [(0, .long x), (2, .long y)] := hl
  refine lv_lload_n hx hb d_M_below_0 rfl (lv_at hl 0 rfl) ?_
  refine lv_ldc2 (v := (-9223372036854775808)) hx hb hown (hts (.constantLong R_M 14 (-9223372036854775808)) (List.mem_cons_of_mem _ (tm (by decide +kernel) rfl))) d_M_below_1 ?_
  refine lv_lxor hx hb d_M_below_4 ?_
  refine lv_topl (fun v4 e4 => ?_)
  refine lv_lload_n hx hb d_M_below_5 rfl (lv_at hl 1 rfl) ?_
  refine lv_ldc2 (v := (-9223372036854775808)) hx hb hown (hts (.constantLong R_M 14 (-9223372036854775808)) (List.mem_cons_of_mem _ (tm (by decide +kernel) rfl))) d_M_below_6 ?_
  refine lv_lxor hx hb d_M_below_9 ?_
  refine lv_topl (fun v9 e9 => ?_)
  refine W.lcmp hx hb d_M_below_10 ?_
  refine lv_if_ge (tgt := 18) hx hb d_M_below_11 (by decide) (fun c11 => ?_) (fun c11 => ?_)
  · skip
    have c11 := (lg_cmp_ge _ _).mp c11
    refine lv_iconst (v := 0) hx hb d_M_below_18 (by decide) ?_
    refine W.zret (v := 0) hx hb hr (by first | rfl | decide) (fun t ht hW => ⟨_, rfl, ?_, ht⟩) (fun _ h => by cases h) d_M_below_19
    show (0 : Int32) = if uN x < uN y then 1 else 0
    exact fx_below0 x y v4 v9 e4 e9 c11
  · skip
    have c11 := (not_congr (lg_cmp_ge _ _)).mp c11
    refine lv_iconst (v := 1) hx hb d_M_below_14 (by decide) ?_
    refine lv_goto (tgt := 19) hx hb d_M_below_15 (by decide) ?_
    refine W.zret (v := 1) hx hb hr (by first | rfl | decide) (fun t ht hW => ⟨_, rfl, ?_, ht⟩) (fun _ h => by cases h) d_M_below_19
    show (1 : Int32) = if uN x < uN y then 1 else 0
    exact fx_below1 x y v4 v9 e4 e9 c11
set_option maxHeartbeats 4000000 in
set_option maxRecDepth 100000 in
theorem c_M_size (l : Launch) (x : Int64)  : Met l y_M_size w_M_size ({ frames := 0, cells := 0, slots := 0, locals := 0 }) (fun v _ => v = [.long x].toArray) (vp_Sl (fun r => uN r = x.toInt.natAbs)) 0 0 (fun _ => False) := by
  refine Met.ofW (cc := b_M_size) (maxL := 2) (ret := some .long) (by decide +kernel) rfl ?_
  intro p e s m args below meth c s₁ B hml hv
  subst hv
  have hx := B.exec
  have hb := B.bytes
  have hr := B.returns
  have hts := atoms_spec (ws := w_M_size) B.pre
  have hown : s.vm.findClass R_M = some m.cls := findClass_of_methodNamed B.named
  have hlocks := B.notSynchronized
  have hl := lv_entry ([.long x]) (n := 2) (Nat.le_of_ble_eq_true rfl)
  rw [lg_entry_eq]
  generalize (lg_sl ([.long x]) ++ List.replicate (2 - (lg_sl ([.long x])).length) Slot.unset).toArray = ls at hl ⊢
  have hl : lv_has ls 2 [(0, .long x)] := hl
  refine lv_lload_n hx hb d_M_size_0 rfl (lv_at hl 0 rfl) ?_
  refine lv_lconst (v := 0) hx hb d_M_size_1 (by decide) ?_
  refine W.lcmp hx hb d_M_size_2 ?_
  refine lv_if_ge (tgt := 11) hx hb d_M_size_3 (by decide) (fun c3 => ?_) (fun c3 => ?_)
  · skip
    have c3 := (lg_cmp_ge _ _).mp c3
    refine lv_lload_n hx hb d_M_size_11 rfl (lv_at hl 0 rfl) ?_
    refine W.lret (v := x) hx hb hr (fun t ht hW => ⟨_, rfl, ?_, ht⟩) (fun _ h => by cases h) d_M_size_12
    show uN x = x.toInt.natAbs
    exact fx_abs2 x (Int64.not_lt.mpr c3)
  · skip
    have c3 := (not_congr (lg_cmp_ge _ _)).mp c3
    refine lv_lload_n hx hb d_M_size_6 rfl (lv_at hl 0 rfl) ?_
    refine lv_lneg hx hb d_M_size_7 ?_
    refine lv_topl (fun v7 e7 => ?_)
    refine lv_goto (tgt := 12) hx hb d_M_size_8 (by decide) ?_
    refine W.lret (v := v7) hx hb hr (fun t ht hW => ⟨_, rfl, ?_, ht⟩) (fun _ h => by cases h) d_M_size_12
    show uN v7 = x.toInt.natAbs
    exact fx_abs1 x v7 (Int64.not_le.mp c3) e7
set_option maxHeartbeats 4000000 in
set_option maxRecDepth 100000 in
theorem c_M_nearest (l : Launch) (x y : Int32) (a b : Nat) (hx9 : x = nI a) (hy9 : y = nI b) (ha : a < 1073741824) (hb0 : 0 < b) (hb9 : b < 1073741824) : Met l y_M_nearest w_M_nearest ({ frames := 0, cells := 0, slots := 0, locals := 0 }) (fun v _ => v = [.int x, .int y].toArray) (vp_Si (fun r => r = nI (a / b + (if b ≤ 2 * (a % b) then 1 else 0)))) 0 0 (fun _ => False) := by
  refine Met.ofW (cc := b_M_nearest) (maxL := 3) (ret := some .int) (by decide +kernel) rfl ?_
  intro p e s m args below meth c s₁ B hml hv
  subst hv
  have hx := B.exec
  have hb := B.bytes
  have hr := B.returns
  have hts := atoms_spec (ws := w_M_nearest) B.pre
  have hown : s.vm.findClass R_M = some m.cls := findClass_of_methodNamed B.named
  have hlocks := B.notSynchronized
  have hl := lv_entry ([.int x, .int y]) (n := 3) (Nat.le_of_ble_eq_true rfl)
  rw [lg_entry_eq]
  generalize (lg_sl ([.int x, .int y]) ++ List.replicate (3 - (lg_sl ([.int x, .int y])).length) Slot.unset).toArray = ls at hl ⊢
  have hl : lv_has ls 3 [(0, .int x), (1, .int y)] := hl
  refine lv_iload_n hx hb d_M_nearest_0 rfl (lv_at hl 0 rfl) ?_
  refine lv_iload_n hx hb d_M_nearest_1 rfl (lv_at hl 1 rfl) ?_
  refine lv_idiv hx hb d_M_nearest_2 (nr_nz hy9 hb0 hb9) ?_
  refine lv_topi (fun v2 e2 => ?_)
  refine lv_istore_n (lv' := [(2, .int v2), (0, .int x), (1, .int y)]) hx hb d_M_nearest_3 rfl hl (by decide) rfl (fun ls hl => ?_)
  refine lv_iconst (v := 2) hx hb d_M_nearest_4 (by decide) ?_
  refine lv_iload_n hx hb d_M_nearest_5 rfl (lv_at hl 1 rfl) ?_
  refine lv_iload_n hx hb d_M_nearest_6 rfl (lv_at hl 2 rfl) ?_
  refine lv_irem hx hb d_M_nearest_7 (nr_nz hy9 hb0 hb9) ?_
  refine lv_topi (fun v7 e7 => ?_)
  refine lv_imul hx hb d_M_nearest_8 ?_
  refine lv_topi (fun v8 e8 => ?_)
  refine lv_iload_n hx hb d_M_nearest_9 rfl (lv_at hl 2 rfl) ?_
  refine lv_icmp_lt (tgt := 19) hx hb d_M_nearest_10 (by decide) (fun c10 => ?_) (fun c10 => ?_)
  · skip
    refine lv_iload_n hx hb d_M_nearest_19 rfl (lv_at hl 0 rfl) ?_
    refine W.iret (v := v2) hx hb hr (fun t ht hW => ⟨_, rfl, ?_, ht⟩) (fun _ h => by cases h) d_M_nearest_20
    show v2 = nI (a / b + (if b ≤ 2 * (a % b) then 1 else 0))
    exact nr_no hx9 hy9 ha hb0 hb9 e2 e7 e8 c10
  · skip
    refine lv_iload_n hx hb d_M_nearest_13 rfl (lv_at hl 0 rfl) ?_
    refine lv_iconst (v := 1) hx hb d_M_nearest_14 (by decide) ?_
    refine lv_iadd hx hb d_M_nearest_15 ?_
    refine lv_topi (fun v15 e15 => ?_)
    refine lv_goto (tgt := 20) hx hb d_M_nearest_16 (by decide) ?_
    refine W.iret (v := v15) hx hb hr (fun t ht hW => ⟨_, rfl, ?_, ht⟩) (fun _ h => by cases h) d_M_nearest_20
    show v15 = nI (a / b + (if b ≤ 2 * (a % b) then 1 else 0))
    exact nr_yes hx9 hy9 ha hb0 hb9 e2 e7 e8 (Int32.not_lt.mp c10) e15
set_option maxHeartbeats 4000000 in
set_option maxRecDepth 100000 in
theorem c_M_scaled (l : Launch) (h : Int32)  : Met l y_M_scaled w_M_scaled ({ frames := 0, cells := 0, slots := 0, locals := 0 }) (fun v _ => v = [.int h].toArray) (vp_Sl (fun r => r = lN (sp_sc h.toBitVec.toNat))) 0 0 (fun _ => False) := by
  refine Met.ofW (cc := b_M_scaled) (maxL := 4) (ret := some .long) (by decide +kernel) rfl ?_
  intro p e s m args below meth c s₁ B hml hv
  subst hv
  have hx := B.exec
  have hb := B.bytes
  have hr := B.returns
  have hts := atoms_spec (ws := w_M_scaled) B.pre
  have hown : s.vm.findClass R_M = some m.cls := findClass_of_methodNamed B.named
  have hlocks := B.notSynchronized
  have hl := lv_entry ([.int h]) (n := 4) (Nat.le_of_ble_eq_true rfl)
  rw [lg_entry_eq]
  generalize (lg_sl ([.int h]) ++ List.replicate (4 - (lg_sl ([.int h])).length) Slot.unset).toArray = ls at hl ⊢
  have hl : lv_has ls 4 [(0, .int h)] := hl
  refine lv_iload_n hx hb d_M_scaled_0 rfl (lv_at hl 0 rfl) ?_
  refine lv_bipush (v := 10) hx hb d_M_scaled_1 (by decide) ?_
  refine lv_ishr hx hb d_M_scaled_3 ?_
  refine lv_topi (fun v3 e3 => ?_)
  refine lv_bipush (v := 31) hx hb d_M_scaled_4 (by decide) ?_
  refine lv_iand hx hb d_M_scaled_6 ?_
  refine lv_topi (fun v6 e6 => ?_)
  have f4 := fh_e h v3 v6 e3 e6
  refine lv_istore_n (lv' := [(1, .int v6), (0, .int h)]) hx hb d_M_scaled_7 rfl hl (by decide) rfl (fun ls hl => ?_)
  refine lv_iload_n hx hb d_M_scaled_8 rfl (lv_at hl 1 rfl) ?_
  refine lv_sipush (v := 1023) hx hb d_M_scaled_9 (by decide) ?_
  refine lv_iand hx hb d_M_scaled_12 ?_
  refine lv_topi (fun v12 e12 => ?_)
  have f12 := fh_f h v12 e12
  refine lv_i2l hx hb d_M_scaled_13 rfl ?_
  refine lv_topl (fun v13 e13 => ?_)
  refine lv_lstore_n (lv' := [(2, .long v13), (1, .int v6), (0, .int h)]) hx hb d_M_scaled_14 rfl hl (by decide) rfl (fun ls hl => ?_)
  refine lv_iload_n hx hb d_M_scaled_15 rfl (lv_at hl 1 rfl) ?_
  refine lv_if_ne (tgt := 23) hx hb d_M_scaled_16 (by decide) (fun c16 => ?_) (fun c16 => ?_)
  · skip
    refine lv_ldc2 (v := 1024) hx hb hown (hts (.constantLong R_M 63 1024) (List.mem_cons_of_mem _ (tm (by decide +kernel) rfl))) d_M_scaled_23 ?_
    refine lv_lload_n hx hb d_M_scaled_26 rfl (lv_at hl 0 rfl) ?_
    refine lv_ladd hx hb d_M_scaled_27 ?_
    refine lv_topl (fun v27 e27 => ?_)
    refine lv_iload_n hx hb d_M_scaled_28 rfl (lv_at hl 1 rfl) ?_
    refine lv_iconst (v := 1) hx hb d_M_scaled_29 (by decide) ?_
    refine lv_isub hx hb d_M_scaled_30 ?_
    refine lv_topi (fun v30 e30 => ?_)
    refine lv_lshl hx hb d_M_scaled_31 rfl ?_
    refine lv_topl (fun v31 e31 => ?_)
    refine W.lret (v := v31) hx hb hr (fun t ht hW => ⟨_, rfl, ?_, ht⟩) (fun _ h => by cases h) d_M_scaled_32
    show v31 = lN (sp_sc h.toBitVec.toNat)
    exact sc_1 f4 f12 c16 e13 e27 e30 e31
  · skip
    refine lv_lload_n hx hb d_M_scaled_19 rfl (lv_at hl 0 rfl) ?_
    refine lv_goto (tgt := 32) hx hb d_M_scaled_20 (by decide) ?_
    refine W.lret (v := v13) hx hb hr (fun t ht hW => ⟨_, rfl, ?_, ht⟩) (fun _ h => by cases h) d_M_scaled_32
    show v13 = lN (sp_sc h.toBitVec.toNat)
    exact sc_0 f4 f12 c16 e13
set_option maxHeartbeats 4000000 in
set_option maxRecDepth 100000 in
theorem c_M_thrown (l : Launch) (dC : Nat → ClassId) (dI : Nat → Nat → Nat) (h0 sz : Nat) (th : Int32) (up lo le : Int64)   : Met l y_M_thrown w_M_thrown ({ frames := 0, cells := 0, slots := 0, locals := 0 }) (va_Pc [.ref h0] (fun U => U.heap.size = sz ∧ va_P (dC, dI) classes [(h0, .inr (1, [.int th, .long up, .long lo, .long le]))] U.heap ∧ va_K (dC, dI) classes [] U ∧ va_D (fun _ => True) [(h0, .inr (1, [.int th, .long up, .long lo, .long le]))])) (va_Qi (fun (r : Int32) (u : MS) => r = th ∧ u.1 = th) (at_M dC dI (va_A [(h0, .inr (1, [.int th, .long up, .long lo, .long le]))] sz) h0) (va_A [(h0, .inr (1, [.int th, .long up, .long lo, .long le]))] sz)) 0 0 (va_A [(h0, .inr (1, [.int th, .long up, .long lo, .long le]))] sz) := by
  refine Met.ofW (cc := b_M_thrown) (maxL := 1) (ret := some .int) (by decide) rfl ?_
  intro p e s m args below meth c s₁ B hml hv
  obtain ⟨rfl, hsz, hP, hK, hD0⟩ := hv
  have hx := B.exec
  have hb := B.bytes
  have hr := B.returns
  have hts := atoms_spec (ws := w_M_thrown) B.pre
  have hown : s.vm.findClass R_M = some m.cls := findClass_of_methodNamed B.named
  have hlocks := B.notSynchronized
  subst hsz
  have hD := hD0.self (sz := s.heap.size)
  generalize hAe : va_A [(h0, .inr (1, [.int th, .long up, .long lo, .long le]))] s.heap.size = A at hD ⊢
  have hA : ∀ q : Nat, s.heap.size ≤ q → A q := fun q h => by rw [← hAe]; exact Or.inr h
  have hS : va_S A s.heap s.heap [] := va_S.rf
  have hP : va_P (dC, dI) classes [(h0, .inr (1, [.int th, .long up, .long lo, .long le]))] s.heap := hP
  have hl := lv_entry ([.ref h0]) (n := 1) (Nat.le_of_ble_eq_true rfl)
  rw [lg_entry_eq]
  generalize (lg_sl ([.ref h0]) ++ List.replicate (1 - (lg_sl ([.ref h0])).length) Slot.unset).toArray = ls at hl ⊢
  have hl : lv_has ls 1 [(0, .ref h0)] := hl
  refine lv_aload_n hx hb d_M_thrown_0 rfl (lv_at hl 0 rfl) ?_
  refine va_get (D := (dC, dI)) (ci := 1) (v := .int th) (C := R_M) (T := F_M) (N := 4) hx hb hts (fun w h => List.mem_cons_of_mem _ (i_M w h)) hown hK hP 0 rfl rfl 0 (by decide) (hts (.fieldLink R_M 7 R_M "thrown" "I") (List.mem_cons_of_mem _ (tm (by decide +kernel) rfl))) (fun _ h9 => h9) rfl d_M_thrown_1 ?_
  refine W.iret (v := th) hx hb hr (fun t ht hW => ⟨⟨_, (th, up, lo, le), rfl, ?_, by rw [ht]; exact hP, va_K.moved hW.alike hK, hD⟩, hS.F ht⟩) hS.2.2 d_M_thrown_4
  show th = th ∧ th = th
  exact ⟨rfl, rfl⟩
set_option maxHeartbeats 4000000 in
set_option maxRecDepth 100000 in
theorem c_M_product (l : Launch) (dC : Nat → ClassId) (dI : Nat → Nat → Nat) (h0 sz : Nat) (th : Int32) (up lo le : Int64) (a b : Int32)  : Met l y_M_product w_M_product ({ frames := 0, cells := 0, slots := 0, locals := 0 }) (va_Pc [.ref h0, .int a, .int b] (fun U => U.heap.size = sz ∧ va_P (dC, dI) classes [(h0, .inr (1, [.int th, .long up, .long lo, .long le]))] U.heap ∧ va_K (dC, dI) classes [] U ∧ va_D (fun _ => True) [(h0, .inr (1, [.int th, .long up, .long lo, .long le]))])) (va_Qi (fun (r : Int32) (u : MS) => r.toInt = (a.toInt * b.toInt / 65536).bmod (2 ^ 32)) (at_M dC dI (va_A [(h0, .inr (1, [.int th, .long up, .long lo, .long le]))] sz) h0) (va_A [(h0, .inr (1, [.int th, .long up, .long lo, .long le]))] sz)) 0 0 (va_A [(h0, .inr (1, [.int th, .long up, .long lo, .long le]))] sz) := by
  refine Met.ofW (cc := b_M_product) (maxL := 7) (ret := some .int) (by decide) rfl ?_
  intro p e s m args below meth c s₁ B hml hv
  obtain ⟨rfl, hsz, hP, hK, hD0⟩ := hv
  have hx := B.exec
  have hb := B.bytes
  have hr := B.returns
  have hts := atoms_spec (ws := w_M_product) B.pre
  have hown : s.vm.findClass R_M = some m.cls := findClass_of_methodNamed B.named
  have hlocks := B.notSynchronized
  subst hsz
  have hD := hD0.self (sz := s.heap.size)
  generalize hAe : va_A [(h0, .inr (1, [.int th, .long up, .long lo, .long le]))] s.heap.size = A at hD ⊢
  have hA : ∀ q : Nat, s.heap.size ≤ q → A q := fun q h => by rw [← hAe]; exact Or.inr h
  have hS : va_S A s.heap s.heap [] := va_S.rf
  have hP : va_P (dC, dI) classes [(h0, .inr (1, [.int th, .long up, .long lo, .long le]))] s.heap := hP
  have hl := lv_entry ([.ref h0, .int a, .int b]) (n := 7) (Nat.le_of_ble_eq_true rfl)
  rw [lg_entry_eq]
  generalize (lg_sl ([.ref h0, .int a, .int b]) ++ List.replicate (7 - (lg_sl ([.ref h0, .int a, .int b])).length) Slot.unset).toArray = ls at hl ⊢
  have hl : lv_has ls 7 [(0, .ref h0), (1, .int a), (2, .int b)] := hl
  refine lv_aload_n hx hb d_M_product_0 rfl (lv_at hl 0 rfl) ?_
  refine lv_iconst (v := 0) hx hb d_M_product_1 (by decide) ?_
  refine va_put (D := (dC, dI)) (ci := 1) (v := .int 0) (ty := .int) (C := R_M) (T := F_M) (N := 4) hx hb hts (fun w h => List.mem_cons_of_mem _ (i_M w h)) t_M t_M_ok n_M hown hK hP hD hS 0 rfl rfl 0 (by decide) (hts (.fieldLink R_M 7 R_M "thrown" "I") (List.mem_cons_of_mem _ (tm (by decide +kernel) rfl))) (fun _ h9 => h9) rfl (by decide +kernel) rfl rfl (Nat.le_of_ble_eq_true rfl) d_M_product_2 (fun H locs hP hD hS => ?_)
  have hP : va_P (dC, dI) classes [(h0, .inr (1, [.int 0, .long up, .long lo, .long le]))] H := hP
  have hD : va_D A [(h0, .inr (1, [.int 0, .long up, .long lo, .long le]))] := hD
  refine lv_iload_n hx hb d_M_product_5 rfl (lv_at hl 1 rfl) ?_
  refine lv_bipush (v := 16) hx hb d_M_product_6 (by decide) ?_
  refine lv_ishr hx hb d_M_product_8 ?_
  refine lv_topi (fun v8 e8 => ?_)
  refine lv_istore_n (lv' := [(3, .int v8), (0, .ref h0), (1, .int a), (2, .int b)]) hx hb d_M_product_9 rfl hl (by decide) rfl (fun ls hl => ?_)
  refine lv_iload_n hx hb d_M_product_10 rfl (lv_at hl 2 rfl) ?_
  refine lv_ldc (v := 65535) hx hb hown (hts (.constant R_M 13 65535) (List.mem_cons_of_mem _ (tm (by decide +kernel) rfl))) d_M_product_11 ?_
  refine lv_iand hx hb d_M_product_13 ?_
  refine lv_topi (fun v13 e13 => ?_)
  refine lv_istore (lv' := [(4, .int v13), (3, .int v8), (0, .ref h0), (1, .int a), (2, .int b)]) hx hb d_M_product_14 hl (by decide) rfl (fun ls hl => ?_)
  refine lv_iload_n hx hb d_M_product_16 rfl (lv_at hl 4 rfl) ?_
  refine lv_bipush (v := 16) hx hb d_M_product_17 (by decide) ?_
  refine lv_ishr hx hb d_M_product_19 ?_
  refine lv_topi (fun v19 e19 => ?_)
  refine lv_istore (lv' := [(5, .int v19), (4, .int v13), (3, .int v8), (0, .ref h0), (1, .int a), (2, .int b)]) hx hb d_M_product_20 hl (by decide) rfl (fun ls hl => ?_)
  refine lv_iload_n hx hb d_M_product_22 rfl (lv_at hl 5 rfl) ?_
  refine lv_ldc (v := 65535) hx hb hown (hts (.constant R_M 13 65535) (List.mem_cons_of_mem _ (tm (by decide +kernel) rfl))) d_M_product_23 ?_
  refine lv_iand hx hb d_M_product_25 ?_
  refine lv_topi (fun v25 e25 => ?_)
  refine lv_istore (lv' := [(6, .int v25), (5, .int v19), (4, .int v13), (3, .int v8), (0, .ref h0), (1, .int a), (2, .int b)]) hx hb d_M_product_26 hl (by decide) rfl (fun ls hl => ?_)
  refine lv_iload_n hx hb d_M_product_28 rfl (lv_at hl 3 rfl) ?_
  refine lv_iload hx hb d_M_product_29 (lv_at hl 1 rfl) ?_
  refine lv_imul hx hb d_M_product_31 ?_
  refine lv_topi (fun v31 e31 => ?_)
  refine lv_bipush (v := 16) hx hb d_M_product_32 (by decide) ?_
  refine lv_ishl hx hb d_M_product_34 ?_
  refine lv_topi (fun v34 e34 => ?_)
  refine lv_iload_n hx hb d_M_product_35 rfl (lv_at hl 3 rfl) ?_
  refine lv_iload hx hb d_M_product_36 (lv_at hl 0 rfl) ?_
  refine lv_imul hx hb d_M_product_38 ?_
  refine lv_topi (fun v38 e38 => ?_)
  refine lv_iadd hx hb d_M_product_39 ?_
  refine lv_topi (fun v39 e39 => ?_)
  refine lv_iload hx hb d_M_product_40 (lv_at hl 2 rfl) ?_
  refine lv_iload hx hb d_M_product_42 (lv_at hl 1 rfl) ?_
  refine lv_imul hx hb d_M_product_44 ?_
  refine lv_topi (fun v44 e44 => ?_)
  refine lv_iadd hx hb d_M_product_45 ?_
  refine lv_topi (fun v45 e45 => ?_)
  refine lv_iload hx hb d_M_product_46 (lv_at hl 2 rfl) ?_
  refine lv_iload hx hb d_M_product_48 (lv_at hl 0 rfl) ?_
  refine lv_imul hx hb d_M_product_50 ?_
  refine lv_topi (fun v50 e50 => ?_)
  refine lv_bipush (v := 16) hx hb d_M_product_51 (by decide) ?_
  refine lv_iushr hx hb d_M_product_53 rfl ?_
  refine lv_topi (fun v53 e53 => ?_)
  refine lv_iadd hx hb d_M_product_54 ?_
  refine lv_topi (fun v54 e54 => ?_)
  refine W.iret (v := v54) hx hb hr (fun t ht hW => ⟨⟨_, (0, up, lo, le), rfl, ?_, by rw [ht]; exact hP, va_K.moved hW.alike hK, hD⟩, hS.F ht⟩) hS.2.2 d_M_product_55
  show v54.toInt = (a.toInt * b.toInt / 65536).bmod (2 ^ 32)
  exact mp_all a b v8 v13 v19 v25 v31 v34 v38 v39 v44 v45 v50 v53 v54 e8 e13 e19 e25 e31 e34 e38 e39 e44 e45 e50 e53 e54
set_option maxHeartbeats 4000000 in
set_option maxRecDepth 100000 in
theorem c_M_channel (l : Launch) (dC : Nat → ClassId) (dI : Nat → Nat → Nat) (h0 sz : Nat) (th : Int32) (up lo le : Int64) (a : Int32)  : Met l y_M_channel w_M_channel ({ frames := 1, cells := 0, slots := 0, locals := 30 }) (va_Pc [.ref h0, .int a] (fun U => U.heap.size = sz ∧ va_P (dC, dI) classes [(h0, .inr (1, [.int th, .long up, .long lo, .long le]))] U.heap ∧ va_K (dC, dI) classes [] U ∧ va_D (fun _ => True) [(h0, .inr (1, [.int th, .long up, .long lo, .long le]))])) (va_Qi (fun (r : Int32) (u : MS) => r.toInt = sp_chan a.toInt) (at_M dC dI (va_A [(h0, .inr (1, [.int th, .long up, .long lo, .long le]))] sz) h0) (va_A [(h0, .inr (1, [.int th, .long up, .long lo, .long le]))] sz)) 0 0 (va_A [(h0, .inr (1, [.int th, .long up, .long lo, .long le]))] sz) := by
  refine Met.ofW (cc := b_M_channel) (maxL := 2) (ret := some .int) (by decide) rfl ?_
  intro p e s m args below meth c s₁ B hml hv
  obtain ⟨rfl, hsz, hP, hK, hD0⟩ := hv
  have hx := B.exec
  have hb := B.bytes
  have hr := B.returns
  have hts := atoms_spec (ws := w_M_channel) B.pre
  have hown : s.vm.findClass R_M = some m.cls := findClass_of_methodNamed B.named
  have hlocks := B.notSynchronized
  subst hsz
  have hD := hD0.self (sz := s.heap.size)
  generalize hAe : va_A [(h0, .inr (1, [.int th, .long up, .long lo, .long le]))] s.heap.size = A at hD ⊢
  have hA : ∀ q : Nat, s.heap.size ≤ q → A q := fun q h => by rw [← hAe]; exact Or.inr h
  have hS : va_S A s.heap s.heap [] := va_S.rf
  have hP : va_P (dC, dI) classes [(h0, .inr (1, [.int th, .long up, .long lo, .long le]))] s.heap := hP
  have hl := lv_entry ([.ref h0, .int a]) (n := 2) (Nat.le_of_ble_eq_true rfl)
  rw [lg_entry_eq]
  generalize (lg_sl ([.ref h0, .int a]) ++ List.replicate (2 - (lg_sl ([.ref h0, .int a])).length) Slot.unset).toArray = ls at hl ⊢
  have hl : lv_has ls 2 [(0, .ref h0), (1, .int a)] := hl
  refine lv_aload_n hx hb d_M_channel_0 rfl (lv_at hl 0 rfl) ?_
  refine lv_iconst (v := 0) hx hb d_M_channel_1 (by decide) ?_
  refine va_put (D := (dC, dI)) (ci := 1) (v := .int 0) (ty := .int) (C := R_M) (T := F_M) (N := 4) hx hb hts (fun w h => List.mem_cons_of_mem _ (i_M w h)) t_M t_M_ok n_M hown hK hP hD hS 0 rfl rfl 0 (by decide) (hts (.fieldLink R_M 7 R_M "thrown" "I") (List.mem_cons_of_mem _ (tm (by decide +kernel) rfl))) (fun _ h9 => h9) rfl (by decide +kernel) rfl rfl (Nat.le_of_ble_eq_true rfl) d_M_channel_2 (fun H locs hP hD hS => ?_)
  have hP : va_P (dC, dI) classes [(h0, .inr (1, [.int 0, .long up, .long lo, .long le]))] H := hP
  have hD : va_D A [(h0, .inr (1, [.int 0, .long up, .long lo, .long le]))] := hD
  refine lv_iload_n hx hb d_M_channel_5 rfl (lv_at hl 1 rfl) ?_
  refine lv_if_ge (tgt := 13) hx hb d_M_channel_6 (by decide) (fun c6 => ?_) (fun c6 => ?_)
  · skip
    refine lv_iload_n hx hb d_M_channel_13 rfl (lv_at hl 1 rfl) ?_
    refine lv_ldc (v := 65536) hx hb hown (hts (.constant R_M 58 65536) (List.mem_cons_of_mem _ (tm (by decide +kernel) rfl))) d_M_channel_14 ?_
    refine lv_icmp_le (tgt := 25) hx hb d_M_channel_16 (by decide) (fun c16 => ?_) (fun c16 => ?_)
    · skip
      refine lv_sipush (v := 255) hx hb d_M_channel_25 (by decide) ?_
      refine lv_iload_n hx hb d_M_channel_28 rfl (lv_at hl 1 rfl) ?_
      refine lv_imul hx hb d_M_channel_29 ?_
      refine lv_topi (fun v29 e29 => ?_)
      refine lv_ldc (v := 65536) hx hb hown (hts (.constant R_M 58 65536) (List.mem_cons_of_mem _ (tm (by decide +kernel) rfl))) d_M_channel_30 ?_
      refine vp_callSi (W.runS (As := [.int v29, .int 65536]) (rest := []) ⟨hx, hb, hml, hown, hts⟩ (c_M_nearest l v29 65536 (255 * a.toInt.toNat) 65536 (mc_x a v29 c6 c16 e29) rfl (mc_b a c6 c16) (by decide) (by decide)) (cwS 2 hts g_M_59 rfl rfl rfl (by decide +kernel) ⟨Nat.le_of_ble_eq_true rfl, Nat.le_of_ble_eq_true rfl⟩) preEq rfl rfl hl.1 rfl (lv_room (Nat.le_of_ble_eq_true rfl)) d_M_channel_32 ⟨Nat.zero_le _, Nat.zero_le _⟩) (fun v32 e32 => ?_)
      try dsimp only at e32
      refine W.iret (v := v32) hx hb hr (fun t ht hW => ⟨⟨_, (0, up, lo, le), rfl, ?_, by rw [ht]; exact hP, va_K.moved hW.alike hK, hD⟩, hS.F ht⟩) hS.2.2 d_M_channel_35
      show v32.toInt = sp_chan a.toInt
      exact mc_2 a v32 c6 c16 e32
    · skip
      refine lv_sipush (v := 255) hx hb d_M_channel_19 (by decide) ?_
      refine lv_goto (tgt := 35) hx hb d_M_channel_22 (by decide) ?_
      refine W.iret (v := 255) hx hb hr (fun t ht hW => ⟨⟨_, (0, up, lo, le), rfl, ?_, by rw [ht]; exact hP, va_K.moved hW.alike hK, hD⟩, hS.F ht⟩) hS.2.2 d_M_channel_35
      show (255 : Int32).toInt = sp_chan a.toInt
      exact mc_1 a (Int32.not_le.mp c16)
  · skip
    refine lv_iconst (v := 0) hx hb d_M_channel_9 (by decide) ?_
    refine lv_goto (tgt := 35) hx hb d_M_channel_10 (by decide) ?_
    refine W.iret (v := 0) hx hb hr (fun t ht hW => ⟨⟨_, (0, up, lo, le), rfl, ?_, by rw [ht]; exact hP, va_K.moved hW.alike hK, hD⟩, hS.F ht⟩) hS.2.2 d_M_channel_35
    show (0 : Int32).toInt = sp_chan a.toInt
    exact mc_0 a (Int32.not_le.mp c6)
set_option maxHeartbeats 4000000 in
set_option maxRecDepth 100000 in
theorem c_M_fixed (l : Launch) (dC : Nat → ClassId) (dI : Nat → Nat → Nat) (h0 sz : Nat) (th : Int32) (up lo le : Int64) (a : Int32)  : Met l y_M_fixed w_M_fixed ({ frames := 1, cells := 0, slots := 0, locals := 30 }) (va_Pc [.ref h0, .int a] (fun U => U.heap.size = sz ∧ va_P (dC, dI) classes [(h0, .inr (1, [.int th, .long up, .long lo, .long le]))] U.heap ∧ va_K (dC, dI) classes [] U ∧ va_D (fun _ => True) [(h0, .inr (1, [.int th, .long up, .long lo, .long le]))])) (va_Qi (fun (r : Int32) (u : MS) => (u.1 = 0 ∧ sp_byte a.toInt ∧ r.toInt = (2 * (65536 * a.toInt) + 255) / 510) ∨ (u.1 = 1 ∧ ¬ sp_byte a.toInt)) (at_M dC dI (va_A [(h0, .inr (1, [.int th, .long up, .long lo, .long le]))] sz) h0) (va_A [(h0, .inr (1, [.int th, .long up, .long lo, .long le]))] sz)) 0 0 (va_A [(h0, .inr (1, [.int th, .long up, .long lo, .long le]))] sz) := by
  refine Met.ofW (cc := b_M_fixed) (maxL := 2) (ret := some .int) (by decide) rfl ?_
  intro p e s m args below meth c s₁ B hml hv
  obtain ⟨rfl, hsz, hP, hK, hD0⟩ := hv
  have hx := B.exec
  have hb := B.bytes
  have hr := B.returns
  have hts := atoms_spec (ws := w_M_fixed) B.pre
  have hown : s.vm.findClass R_M = some m.cls := findClass_of_methodNamed B.named
  have hlocks := B.notSynchronized
  subst hsz
  have hD := hD0.self (sz := s.heap.size)
  generalize hAe : va_A [(h0, .inr (1, [.int th, .long up, .long lo, .long le]))] s.heap.size = A at hD ⊢
  have hA : ∀ q : Nat, s.heap.size ≤ q → A q := fun q h => by rw [← hAe]; exact Or.inr h
  have hS : va_S A s.heap s.heap [] := va_S.rf
  have hP : va_P (dC, dI) classes [(h0, .inr (1, [.int th, .long up, .long lo, .long le]))] s.heap := hP
  have hl := lv_entry ([.ref h0, .int a]) (n := 2) (Nat.le_of_ble_eq_true rfl)
  rw [lg_entry_eq]
  generalize (lg_sl ([.ref h0, .int a]) ++ List.replicate (2 - (lg_sl ([.ref h0, .int a])).length) Slot.unset).toArray = ls at hl ⊢
  have hl : lv_has ls 2 [(0, .ref h0), (1, .int a)] := hl
  refine lv_aload_n hx hb d_M_fixed_0 rfl (lv_at hl 0 rfl) ?_
  refine lv_iload_n hx hb d_M_fixed_1 rfl (lv_at hl 1 rfl) ?_
  refine jn_i (J := 17) (rest := [.ref h0]) (fun v => v = if sp_byte a.toInt then 0 else 1) (fun v17 e17 => ?_) (fun K17 => ?_)
  · skip
    refine va_put (D := (dC, dI)) (ci := 1) (v := .int v17) (ty := .int) (C := R_M) (T := F_M) (N := 4) hx hb hts (fun w h => List.mem_cons_of_mem _ (i_M w h)) t_M t_M_ok n_M hown hK hP hD hS 0 rfl rfl 0 (by decide) (hts (.fieldLink R_M 7 R_M "thrown" "I") (List.mem_cons_of_mem _ (tm (by decide +kernel) rfl))) (fun _ h9 => h9) rfl (by decide +kernel) rfl rfl (Nat.le_of_ble_eq_true rfl) d_M_fixed_17 (fun H locs hP hD hS => ?_)
    have hP : va_P (dC, dI) classes [(h0, .inr (1, [.int v17, .long up, .long lo, .long le]))] H := hP
    have hD : va_D A [(h0, .inr (1, [.int v17, .long up, .long lo, .long le]))] := hD
    have hth := mb_t e17
    have ht1 : ¬ v17 ≤ 0 → v17 = 1 := hth.1
    have hby1 : ¬ v17 ≤ 0 → ¬ sp_byte a.toInt := hth.2.1
    have ht0 : v17 ≤ 0 → v17 = 0 := hth.2.2.1
    refine lv_aload_n hx hb d_M_fixed_20 rfl (lv_at hl 0 rfl) ?_
    refine va_get (D := (dC, dI)) (ci := 1) (v := .int v17) (C := R_M) (T := F_M) (N := 4) hx hb hts (fun w h => List.mem_cons_of_mem _ (i_M w h)) hown hK hP 0 rfl rfl 0 (by decide) (hts (.fieldLink R_M 7 R_M "thrown" "I") (List.mem_cons_of_mem _ (tm (by decide +kernel) rfl))) (fun _ h9 => h9) rfl d_M_fixed_21 ?_
    refine lv_if_le (tgt := 31) hx hb d_M_fixed_24 (by decide) (fun c24 => ?_) (fun c24 => ?_)
    · skip
      have hby : sp_byte a.toInt := hth.2.2.2 c24
      refine lv_ldc (v := 65536) hx hb hown (hts (.constant R_M 58 65536) (List.mem_cons_of_mem _ (tm (by decide +kernel) rfl))) d_M_fixed_31 ?_
      refine lv_iload_n hx hb d_M_fixed_33 rfl (lv_at hl 1 rfl) ?_
      refine lv_imul hx hb d_M_fixed_34 ?_
      refine lv_topi (fun v34 e34 => ?_)
      refine lv_sipush (v := 255) hx hb d_M_fixed_35 (by decide) ?_
      refine vp_callSi (W.runS (As := [.int v34, .int 255]) (rest := []) ⟨hx, hb, hml, hown, hts⟩ (c_M_nearest l v34 255 (65536 * a.toInt.toNat) 255 (mf_x hby e34) rfl (mf_b hby) (by decide) (by decide)) (cwS 2 hts g_M_59 rfl rfl rfl (by decide +kernel) ⟨Nat.le_of_ble_eq_true rfl, Nat.le_of_ble_eq_true rfl⟩) preEq rfl rfl hl.1 rfl (lv_room (Nat.le_of_ble_eq_true rfl)) d_M_fixed_38 ⟨Nat.zero_le _, Nat.zero_le _⟩) (fun v38 e38 => ?_)
      try dsimp only at e38
      refine W.iret (v := v38) hx hb hr (fun t ht hW => ⟨⟨_, (v17, up, lo, le), rfl, ?_, by rw [ht]; exact hP, va_K.moved hW.alike hK, hD⟩, hS.F ht⟩) hS.2.2 d_M_fixed_41
      show (v17 = 0 ∧ sp_byte a.toInt ∧ v38.toInt = (2 * (65536 * a.toInt) + 255) / 510) ∨ (v17 = 1 ∧ ¬ sp_byte a.toInt)
      exact Or.inl ⟨ht0 c24, hby, mf_1 hby e38⟩
    · skip
      refine lv_iconst (v := 0) hx hb d_M_fixed_27 (by decide) ?_
      refine lv_goto (tgt := 41) hx hb d_M_fixed_28 (by decide) ?_
      refine W.iret (v := 0) hx hb hr (fun t ht hW => ⟨⟨_, (v17, up, lo, le), rfl, ?_, by rw [ht]; exact hP, va_K.moved hW.alike hK, hD⟩, hS.F ht⟩) hS.2.2 d_M_fixed_41
      show (v17 = 0 ∧ sp_byte a.toInt ∧ (0 : Int32).toInt = (2 * (65536 * a.toInt) + 255) / 510) ∨ (v17 = 1 ∧ ¬ sp_byte a.toInt)
      exact Or.inr ⟨ht1 c24, hby1 c24⟩
  · skip
    refine lv_if_lt (tgt := 12) hx hb d_M_fixed_2 (by decide) (fun c2 => ?_) (fun c2 => ?_)
    · skip
      refine lv_iconst (v := 1) hx hb d_M_fixed_12 (by decide) ?_
      refine lv_goto (tgt := 17) hx hb d_M_fixed_13 (by decide) ?_
      exact K17 _ (by first | exact mb_1 (Or.inl c2) | exact mb_1 (Or.inr (Int32.not_le.mp c9)) | exact mb_0 c2 c9)
    · skip
      refine lv_iload_n hx hb d_M_fixed_5 rfl (lv_at hl 1 rfl) ?_
      refine lv_sipush (v := 255) hx hb d_M_fixed_6 (by decide) ?_
      refine lv_icmp_le (tgt := 16) hx hb d_M_fixed_9 (by decide) (fun c9 => ?_) (fun c9 => ?_)
      · skip
        refine lv_iconst (v := 0) hx hb d_M_fixed_16 (by decide) ?_
        exact K17 _ (by first | exact mb_1 (Or.inl c2) | exact mb_1 (Or.inr (Int32.not_le.mp c9)) | exact mb_0 c2 c9)
      · skip
        refine lv_iconst (v := 1) hx hb d_M_fixed_12 (by decide) ?_
        refine lv_goto (tgt := 17) hx hb d_M_fixed_13 (by decide) ?_
        exact K17 _ (by first | exact mb_1 (Or.inl c2) | exact mb_1 (Or.inr (Int32.not_le.mp c9)) | exact mb_0 c2 c9)
set_option maxHeartbeats 4000000 in
set_option maxRecDepth 100000 in
theorem c_M_shade (l : Launch) (dC : Nat → ClassId) (dI : Nat → Nat → Nat) (h0 sz : Nat) (th : Int32) (up lo le : Int64) (a b : Int32)  : Met l y_M_shade w_M_shade ({ frames := 1, cells := 0, slots := 0, locals := 30 }) (va_Pc [.ref h0, .int a, .int b] (fun U => U.heap.size = sz ∧ va_P (dC, dI) classes [(h0, .inr (1, [.int th, .long up, .long lo, .long le]))] U.heap ∧ va_K (dC, dI) classes [] U ∧ va_D (fun _ => True) [(h0, .inr (1, [.int th, .long up, .long lo, .long le]))])) (va_Qi (fun (r : Int32) (u : MS) => (u.1 = 0 ∧ sp_byte a.toInt ∧ sp_byte b.toInt ∧ r.toInt = (2 * (a.toInt * b.toInt) + 255) / 510) ∨ (u.1 = 1 ∧ (¬ sp_byte a.toInt ∨ ¬ sp_byte b.toInt))) (at_M dC dI (va_A [(h0, .inr (1, [.int th, .long up, .long lo, .long le]))] sz) h0) (va_A [(h0, .inr (1, [.int th, .long up, .long lo, .long le]))] sz)) 0 0 (va_A [(h0, .inr (1, [.int th, .long up, .long lo, .long le]))] sz) := by
  refine Met.ofW (cc := b_M_shade) (maxL := 3) (ret := some .int) (by decide) rfl ?_
  intro p e s m args below meth c s₁ B hml hv
  obtain ⟨rfl, hsz, hP, hK, hD0⟩ := hv
  have hx := B.exec
  have hb := B.bytes
  have hr := B.returns
  have hts := atoms_spec (ws := w_M_shade) B.pre
  have hown : s.vm.findClass R_M = some m.cls := findClass_of_methodNamed B.named
  have hlocks := B.notSynchronized
  subst hsz
  have hD := hD0.self (sz := s.heap.size)
  generalize hAe : va_A [(h0, .inr (1, [.int th, .long up, .long lo, .long le]))] s.heap.size = A at hD ⊢
  have hA : ∀ q : Nat, s.heap.size ≤ q → A q := fun q h => by rw [← hAe]; exact Or.inr h
  have hS : va_S A s.heap s.heap [] := va_S.rf
  have hP : va_P (dC, dI) classes [(h0, .inr (1, [.int th, .long up, .long lo, .long le]))] s.heap := hP
  have hl := lv_entry ([.ref h0, .int a, .int b]) (n := 3) (Nat.le_of_ble_eq_true rfl)
  rw [lg_entry_eq]
  generalize (lg_sl ([.ref h0, .int a, .int b]) ++ List.replicate (3 - (lg_sl ([.ref h0, .int a, .int b])).length) Slot.unset).toArray = ls at hl ⊢
  have hl : lv_has ls 3 [(0, .ref h0), (1, .int a), (2, .int b)] := hl
  refine lv_aload_n hx hb d_M_shade_0 rfl (lv_at hl 0 rfl) ?_
  refine lv_iload_n hx hb d_M_shade_1 rfl (lv_at hl 1 rfl) ?_
  refine jn_i (J := 28) (rest := [.ref h0]) (fun v => v = if sp_byte a.toInt ∧ sp_byte b.toInt then 0 else 1) (fun v28 e28 => ?_) (fun K28 => ?_)
  · skip
    refine va_put (D := (dC, dI)) (ci := 1) (v := .int v28) (ty := .int) (C := R_M) (T := F_M) (N := 4) hx hb hts (fun w h => List.mem_cons_of_mem _ (i_M w h)) t_M t_M_ok n_M hown hK hP hD hS 0 rfl rfl 0 (by decide) (hts (.fieldLink R_M 7 R_M "thrown" "I") (List.mem_cons_of_mem _ (tm (by decide +kernel) rfl))) (fun _ h9 => h9) rfl (by decide +kernel) rfl rfl (Nat.le_of_ble_eq_true rfl) d_M_shade_28 (fun H locs hP hD hS => ?_)
    have hP : va_P (dC, dI) classes [(h0, .inr (1, [.int v28, .long up, .long lo, .long le]))] H := hP
    have hD : va_D A [(h0, .inr (1, [.int v28, .long up, .long lo, .long le]))] := hD
    have hth := mb_t e28
    refine lv_aload_n hx hb d_M_shade_31 rfl (lv_at hl 0 rfl) ?_
    refine va_get (D := (dC, dI)) (ci := 1) (v := .int v28) (C := R_M) (T := F_M) (N := 4) hx hb hts (fun w h => List.mem_cons_of_mem _ (i_M w h)) hown hK hP 0 rfl rfl 0 (by decide) (hts (.fieldLink R_M 7 R_M "thrown" "I") (List.mem_cons_of_mem _ (tm (by decide +kernel) rfl))) (fun _ h9 => h9) rfl d_M_shade_32 ?_
    refine lv_if_le (tgt := 42) hx hb d_M_shade_35 (by decide) (fun c35 => ?_) (fun c35 => ?_)
    · skip
      have hby := hth.2.2.2 c35
      refine lv_iload_n hx hb d_M_shade_42 rfl (lv_at hl 1 rfl) ?_
      refine lv_iload_n hx hb d_M_shade_43 rfl (lv_at hl 2 rfl) ?_
      refine lv_imul hx hb d_M_shade_44 ?_
      refine lv_topi (fun v44 e44 => ?_)
      refine lv_sipush (v := 255) hx hb d_M_shade_45 (by decide) ?_
      refine vp_callSi (W.runS (As := [.int v44, .int 255]) (rest := []) ⟨hx, hb, hml, hown, hts⟩ (c_M_nearest l v44 255 (a.toInt.toNat * b.toInt.toNat) 255 (ms_x hby.1 hby.2 e44) rfl (ms_b hby.1 hby.2) (by decide) (by decide)) (cwS 2 hts g_M_59 rfl rfl rfl (by decide +kernel) ⟨Nat.le_of_ble_eq_true rfl, Nat.le_of_ble_eq_true rfl⟩) preEq rfl rfl hl.1 rfl (lv_room (Nat.le_of_ble_eq_true rfl)) d_M_shade_48 ⟨Nat.zero_le _, Nat.zero_le _⟩) (fun v48 e48 => ?_)
      try dsimp only at e48
      refine W.iret (v := v48) hx hb hr (fun t ht hW => ⟨⟨_, (v28, up, lo, le), rfl, ?_, by rw [ht]; exact hP, va_K.moved hW.alike hK, hD⟩, hS.F ht⟩) hS.2.2 d_M_shade_51
      show (v28 = 0 ∧ sp_byte a.toInt ∧ sp_byte b.toInt ∧ v48.toInt = (2 * (a.toInt * b.toInt) + 255) / 510) ∨ (v28 = 1 ∧ (¬ sp_byte a.toInt ∨ ¬ sp_byte b.toInt))
      exact Or.inl ⟨hth.2.2.1 c35, hby.1, hby.2, ms_1 hby.1 hby.2 e48⟩
    · skip
      refine lv_iconst (v := 0) hx hb d_M_shade_38 (by decide) ?_
      refine lv_goto (tgt := 51) hx hb d_M_shade_39 (by decide) ?_
      refine W.iret (v := 0) hx hb hr (fun t ht hW => ⟨⟨_, (v28, up, lo, le), rfl, ?_, by rw [ht]; exact hP, va_K.moved hW.alike hK, hD⟩, hS.F ht⟩) hS.2.2 d_M_shade_51
      show (v28 = 0 ∧ sp_byte a.toInt ∧ sp_byte b.toInt ∧ (0 : Int32).toInt = (2 * (a.toInt * b.toInt) + 255) / 510) ∨ (v28 = 1 ∧ (¬ sp_byte a.toInt ∨ ¬ sp_byte b.toInt))
      exact Or.inr ⟨hth.1 c35, Classical.not_and_iff_not_or_not.mp (hth.2.1 c35)⟩
  · skip
    refine lv_if_lt (tgt := 23) hx hb d_M_shade_2 (by decide) (fun c2 => ?_) (fun c2 => ?_)
    · skip
      refine lv_iconst (v := 1) hx hb d_M_shade_23 (by decide) ?_
      refine lv_goto (tgt := 28) hx hb d_M_shade_24 (by decide) ?_
      exact K28 _ (by first | exact mb_2 (Or.inl (Or.inl c2)) | exact mb_2 (Or.inl (Or.inr c9)) | exact mb_2 (Or.inr (Or.inl c13)) | exact mb_2 (Or.inr (Or.inr (Int32.not_le.mp c20))) | exact mb_3 c2 c9 c13 c20)
    · skip
      refine lv_iload_n hx hb d_M_shade_5 rfl (lv_at hl 1 rfl) ?_
      refine lv_sipush (v := 255) hx hb d_M_shade_6 (by decide) ?_
      refine lv_icmp_gt (tgt := 23) hx hb d_M_shade_9 (by decide) (fun c9 => ?_) (fun c9 => ?_)
      · skip
        refine lv_iconst (v := 1) hx hb d_M_shade_23 (by decide) ?_
        refine lv_goto (tgt := 28) hx hb d_M_shade_24 (by decide) ?_
        exact K28 _ (by first | exact mb_2 (Or.inl (Or.inl c2)) | exact mb_2 (Or.inl (Or.inr c9)) | exact mb_2 (Or.inr (Or.inl c13)) | exact mb_2 (Or.inr (Or.inr (Int32.not_le.mp c20))) | exact mb_3 c2 c9 c13 c20)
      · skip
        refine lv_iload_n hx hb d_M_shade_12 rfl (lv_at hl 2 rfl) ?_
        refine lv_if_lt (tgt := 23) hx hb d_M_shade_13 (by decide) (fun c13 => ?_) (fun c13 => ?_)
        · skip
          refine lv_iconst (v := 1) hx hb d_M_shade_23 (by decide) ?_
          refine lv_goto (tgt := 28) hx hb d_M_shade_24 (by decide) ?_
          exact K28 _ (by first | exact mb_2 (Or.inl (Or.inl c2)) | exact mb_2 (Or.inl (Or.inr c9)) | exact mb_2 (Or.inr (Or.inl c13)) | exact mb_2 (Or.inr (Or.inr (Int32.not_le.mp c20))) | exact mb_3 c2 c9 c13 c20)
        · skip
          refine lv_iload_n hx hb d_M_shade_16 rfl (lv_at hl 2 rfl) ?_
          refine lv_sipush (v := 255) hx hb d_M_shade_17 (by decide) ?_
          refine lv_icmp_le (tgt := 27) hx hb d_M_shade_20 (by decide) (fun c20 => ?_) (fun c20 => ?_)
          · skip
            refine lv_iconst (v := 0) hx hb d_M_shade_27 (by decide) ?_
            exact K28 _ (by first | exact mb_2 (Or.inl (Or.inl c2)) | exact mb_2 (Or.inl (Or.inr c9)) | exact mb_2 (Or.inr (Or.inl c13)) | exact mb_2 (Or.inr (Or.inr (Int32.not_le.mp c20))) | exact mb_3 c2 c9 c13 c20)
          · skip
            refine lv_iconst (v := 1) hx hb d_M_shade_23 (by decide) ?_
            refine lv_goto (tgt := 28) hx hb d_M_shade_24 (by decide) ?_
            exact K28 _ (by first | exact mb_2 (Or.inl (Or.inl c2)) | exact mb_2 (Or.inl (Or.inr c9)) | exact mb_2 (Or.inr (Or.inl c13)) | exact mb_2 (Or.inr (Or.inr (Int32.not_le.mp c20))) | exact mb_3 c2 c9 c13 c20)
end
section
/-! the reference's roots, quotient, fromHalf -/
def mr_I (S : Nat) (n : Nat) (z : Int64 × Int64) : Prop := n ≤ 25 ∧ z.2 = lN (2 ^ n / 2) ∧ ∃ f : Nat, z.1 = lN f ∧ f + 2 ^ n ≤ 33554432 ∧ f * f ≤ S ∧ S < (f + 2 ^ n) * (f + 2 ^ n)
theorem mr_0 {S : Nat} (hS : S ≤ 281474976710656) : mr_I S 25 (0, 16777216) := ⟨by decide, show (16777216 : Int64) = lN (2 ^ 25 / 2) by decide +kernel, 0, by decide, by decide, Nat.zero_le _, by show S < _; omega⟩
theorem mr_h (j : Nat) : 2 ^ (j + 1) / 2 = 2 ^ j := by rw [Nat.pow_succ]; omega
theorem mr_neg {n : Nat} {b : Int64} (hn : n ≤ 25) (hb : b = lN (2 ^ n / 2)) (h : b ≤ 0) : n = 0 := by
  cases n with
  | zero => rfl
  | succ j =>
    have h1 : 2 ^ j ≤ 2 ^ 24 := Nat.pow_le_pow_right (by decide) (by omega)
    have h2 := Nat.two_pow_pos j
    rw [hb, mr_h] at h
    have h3 := (pk_lLE (a := 2 ^ j) (b := 0) (by omega) (by decide)).mp h
    omega
theorem mr_nn {n : Nat} {b : Int64} (hn : n ≤ 25) (hb : b = lN (2 ^ n / 2)) (h : ¬ b ≤ 0) : ∃ j, n = j + 1 ∧ b = lN (2 ^ j) := by
  cases n with
  | zero => exact absurd (by rw [hb]; decide) h
  | succ j => exact ⟨j, rfl, by rw [hb, mr_h]⟩
theorem mr_try {x r b v39 v44 v45 : Int64} {j S f : Nat} (hx : x = lN S) (hS : S ≤ 281474976710656) (hj : j + 1 ≤ 25) (hb : b = lN (2 ^ j)) (hf : r = lN f) (hb1 : f + 2 ^ (j + 1) ≤ 33554432) (e39 : v39 = r + b) (e44 : v44 = r + b) (e45 : v45 = v39 * v44) : v39 = lN (f + 2 ^ j) ∧ (x < v45 ↔ S < (f + 2 ^ j) * (f + 2 ^ j)) := by
  have f39 : v39 = lN (f + 2 ^ j) := by rw [e39, hf, hb, lN_add]
  have f44 : v44 = lN (f + 2 ^ j) := by rw [e44, hf, hb, lN_add]
  have hp : 2 ^ (j + 1) = 2 ^ j + 2 ^ j := by rw [Nat.pow_succ]; omega
  have hq := Nat.two_pow_pos j
  have hm := Nat.mul_le_mul (show f + 2 ^ j ≤ 33554432 by omega) (show f + 2 ^ j ≤ 33554432 by omega)
  refine ⟨f39, ?_⟩
  rw [hx, e45, f39, f44, lN_mul, pk_lLT (by omega) (by omega)]
theorem mr_sh {b v : Int64} {j : Nat} (hj : j + 1 ≤ 25) (hb : b = lN (2 ^ j)) (e : v = b >>> ((1 : Int32).toInt64 &&& 63)) : v = lN (2 ^ j / 2) := by
  have h1 : 2 ^ j ≤ 2 ^ 24 := Nat.pow_le_pow_right (by decide) (by omega)
  exact hb_sh (n := 1) hb (by omega) (by decide) e
theorem mr_yes {S j f : Nat} {v bt : Int64} (hj : j + 1 ≤ 25) (e : v = lN (f + 2 ^ j)) (hb1 : f + 2 ^ (j + 1) ≤ 33554432) (h2 : S < (f + 2 ^ (j + 1)) * (f + 2 ^ (j + 1))) (h : (f + 2 ^ j) * (f + 2 ^ j) ≤ S) (hb : bt = lN (2 ^ j / 2)) : mr_I S j (v, bt) := by
  have e0 : f + 2 ^ j + 2 ^ j = f + 2 ^ (j + 1) := by rw [Nat.pow_succ]; omega
  exact ⟨by omega, hb, f + 2 ^ j, e, by rw [e0]; exact hb1, h, by rw [e0]; exact h2⟩
theorem mr_no {S j f : Nat} {v bt : Int64} (hj : j + 1 ≤ 25) (e : v = lN f) (hb1 : f + 2 ^ (j + 1) ≤ 33554432) (h1 : f * f ≤ S) (h : S < (f + 2 ^ j) * (f + 2 ^ j)) (hb : bt = lN (2 ^ j / 2)) : mr_I S j (v, bt) := by
  have hp : 2 ^ (j + 1) = 2 ^ j + 2 ^ j := by rw [Nat.pow_succ]; omega
  have hq := Nat.two_pow_pos j
  exact ⟨by omega, hb, f, e, by omega, h1, h⟩
theorem mr_m0 (a : Int32) (h : ¬ 0 ≤ a) : (0 : Int64).toInt = max 0 (65536 * a.toInt) := by
  have z : (0 : Int32).toInt = 0 := by decide
  rw [Int32.le_iff_toInt_le, z] at h
  rw [show (0 : Int64).toInt = 0 from by decide]
  omega
theorem mr_m1 (a : Int32) (x : Int64) (h : 0 ≤ a) (ex : x = 65536 * a.toInt64) : x.toInt = max 0 (65536 * a.toInt) := by
  have h1 := fx_ge a h
  rw [fx_l16 a x ex]
  omega
theorem mr_mb (a : Int32) (x : Int64) (e : x.toInt = max 0 (65536 * a.toInt)) : 0 ≤ x.toInt ∧ x.toInt ≤ 281474976710656 := by
  have h2 := fx_i32 a
  omega
theorem mr_end (a r : Int32) (x : Int64) (e : x.toInt = max 0 (65536 * a.toInt)) (hr : sp_isr x.toInt r.toInt) : sp_root a.toInt r.toInt := by
  unfold sp_root
  by_cases h : a.toInt < 0
  · rw [if_pos h]
    obtain ⟨h1, h2, h3⟩ := hr
    rw [show x.toInt = 0 by omega] at h2
    rcases Int.lt_or_eq_of_le h1 with z | z
    · have := Int.mul_pos z z
      omega
    · exact z.symm
  · rw [if_neg h]
    rw [show x.toInt = 65536 * a.toInt by omega] at hr
    exact hr
/-- quotient -/
def mq_bit (N j : Nat) : Nat := 65536 * N / 2 ^ j % 2
theorem mq_hi {n v74 v76 : Int64} {k v73 : Int32} {N j : Nat} (hn : n = lN N) (hN : N ≤ 2147483648) (hk : k = nI j) (hj : j < 48) (c : ¬ k ≤ 15) (e73 : v73 = k - 16) (e74 : v74 = n >>> (v73.toInt64 &&& 63)) (e76 : v76 = v74 &&& 1) : v76 = lN (mq_bit N j) := by
  have h16 : 16 ≤ j := by
    have : ¬ j ≤ 15 := fun z => c (by rw [hk, show (15 : Int32) = nI 15 from rfl, nI_leI (by omega) (by decide)]; exact z)
    omega
  obtain ⟨i, rfl⟩ : ∃ i, j = 16 + i := ⟨j - 16, by omega⟩
  have f73 : v73 = nI i := by rw [e73, hk, show (16 : Int32) = nI 16 from rfl, pk_sub (by omega)]; congr 1; omega
  rw [f73] at e74
  have f74 := hb_sh hn (by omega) (by omega) e74
  have hd : N / 2 ^ i ≤ N := Nat.div_le_self _ _
  have hq : 65536 * N / 2 ^ (16 + i) = N / 2 ^ i := by
    rw [Nat.pow_add, show (65536 : Nat) = 2 ^ 16 from rfl]
    exact Nat.mul_div_mul_left _ _ (by decide)
  rw [e76, f74, wb_a1 (by omega), mq_bit, hq]
theorem mq_lo {k : Int32} {N j : Nat} (hk : k = nI j) (hj : j < 48) (c : k ≤ 15) : (0 : Int64) = lN (mq_bit N j) := by
  have h16 : j ≤ 15 := by
    rw [hk, show (15 : Int32) = nI 15 from rfl, nI_leI (by omega) (by decide)] at c
    exact c
  obtain ⟨i, hi⟩ : ∃ i, 16 = j + (i + 1) := ⟨15 - j, by omega⟩
  have hq : 65536 * N / 2 ^ j = N * 2 ^ i * 2 := by
    rw [show (65536 : Nat) = 2 ^ 16 from rfl, hi, Nat.pow_add, Nat.mul_assoc, Nat.mul_div_cancel_left _ (Nat.two_pow_pos j), Nat.pow_succ, Nat.mul_comm, Nat.mul_assoc]
  have h0 : mq_bit N j = 0 := by
    unfold mq_bit
    rw [hq]
    omega
  rw [h0]
  rfl
def mq_I (N D : Nat) (n : Nat) (z : Int64 × Int64 × Int32) : Prop := z.2.2 = dn n ∧ n ≤ 48 ∧ ∃ Q R : Nat, z.1 = lN Q ∧ z.2.1 = lN R ∧ R < D ∧ 65536 * N / 2 ^ n = Q * D + R
theorem mq_0 {N D : Nat} (hN : N ≤ 2147483648) (hD : 0 < D) : mq_I N D 48 (0, 0, 47) := ⟨show (47 : Int32) = dn 48 by decide, by decide, 0, 0, rfl, rfl, hD, by
  rw [Nat.zero_mul]
  exact Nat.div_eq_of_lt (by omega)⟩
theorem mq_big {N D Q R n : Nat} (hN : N ≤ 2147483648) (hD : 0 < D) (h : 65536 * N / 2 ^ n = Q * D + R) : Q ≤ 140737488355328 := by
  have h1 : 65536 * N / 2 ^ n ≤ 65536 * N := Nat.div_le_self _ _
  have h2 : Q * 1 ≤ Q * D := Nat.mul_le_mul_left _ hD
  omega
theorem mq_rest {rest v60 v81 w : Int64} {R t : Nat} (hr : rest = lN R) (hR : R < 4294967296) (ht : t < 2) (hw : w = lN t) (e60 : v60 = rest <<< ((1 : Int32).toInt64 &&& 63)) (e81 : v81 = v60 ||| w) : v81 = lN (2 * R + t) := by
  have h := wb_shl R (k := 1) (by decide)
  have f60 : v60 = lN (R * 2) := by rw [e60, hr]; exact h
  rw [e81, f60, hw, g_or (k := 1) rfl ht (by omega), Nat.mul_comm]
theorem mq_q {q v87 : Int64} {Q : Nat} (hq : q = lN Q) (hQ : Q ≤ 140737488355328) (e87 : v87 = q <<< ((1 : Int32).toInt64 &&& 63)) : v87 = lN (2 * Q) ∧ (v87 ||| 1) = lN (2 * Q + 1) := by
  have h := wb_shl Q (k := 1) (by decide)
  have f87 : v87 = lN (Q * 2) := by rw [e87, hq]; exact h
  refine ⟨by rw [f87, Nat.mul_comm], ?_⟩
  rw [f87]
  have := g_or (k := 1) (p := 2) (a := 1) (b := Q) rfl (by decide) (by omega)
  rw [show 2 * Q + 1 = Q * 2 + 1 by omega]
  exact this
theorem mq_sum {N D Q R j : Nat} (h : 65536 * N / 2 ^ (j + 1) = Q * D + R) : 65536 * N / 2 ^ j = 2 * Q * D + (2 * R + mq_bit N j) := by
  have b := fx_bit (65536 * N) j
  have c2 : 2 * Q * D = 2 * (Q * D) := Nat.mul_assoc ..
  unfold mq_bit
  rw [c2]
  omega
theorem mq_a {N D Q R j : Nat} {k v111 : Int32} {v81 v87 : Int64} (hk : k = nI j) (hj : j + 1 ≤ 48) (h : 65536 * N / 2 ^ (j + 1) = Q * D + R) (f81 : v81 = lN (2 * R + mq_bit N j)) (f87 : v87 = lN (2 * Q)) (hlt : 2 * R + mq_bit N j < D) (ev : v111 = k + Int32.ofInt (-1)) : mq_I N D j (v87, v81, v111) :=
  ⟨dn_i hk ev, by omega, 2 * Q, 2 * R + mq_bit N j, f87, f81, hlt, mq_sum h⟩
theorem mq_b {N D Q R j : Nat} {k v111 : Int32} {v81 v102 v108 d : Int64} (hk : k = nI j) (hj : j + 1 ≤ 48) (hR : R < D) (h : 65536 * N / 2 ^ (j + 1) = Q * D + R) (hd : d = lN D) (f81 : v81 = lN (2 * R + mq_bit N j)) (f108 : v108 = lN (2 * Q + 1)) (hge : ¬ 2 * R + mq_bit N j < D) (e102 : v102 = v81 - d) (ev : v111 = k + Int32.ofInt (-1)) : mq_I N D j (v108, v102, v111) := by
  have hs := mq_sum h
  have hb : mq_bit N j < 2 := Nat.mod_lt _ (by decide)
  refine ⟨dn_i hk ev, by omega, 2 * Q + 1, 2 * R + mq_bit N j - D, f108, ?_, by omega, ?_⟩
  · show v102 = _
    rw [e102, f81, hd, lN_sub (by omega)]
  · rw [hs, Nat.add_mul, Nat.one_mul]
    omega
/-- the answer, by its sign -/
theorem mq_val {a b : Int32} {N D Q R : Nat} (hb : ¬ b = 0) (hN : N = a.toInt.natAbs) (hD : D = b.toInt.natAbs) (hR : R < D) (h : 65536 * N = Q * D + R) : (65536 * a.toInt).fdiv b.toInt = if (a.toInt < 0 ↔ b.toInt < 0) then (Q : Int) else -(Q : Int) - (if R = 0 then 0 else 1) := by
  have hb0 := fx_ne0 b hb
  rw [Int32.toInt_toInt64] at hb0
  have hz : (65536 * a.toInt).natAbs = 65536 * N := by omega
  have hq : 65536 * N / D = Q := by rw [h, Nat.add_comm, Nat.add_mul_div_right _ _ (by omega), Nat.div_eq_of_lt hR, Nat.zero_add]
  have hr : 65536 * N % D = R := by rw [h, Nat.add_comm, Nat.add_mul_mod_self_right, Nat.mod_eq_of_lt hR]
  have e := fx_fabs (65536 * a.toInt) b.toInt hb0
  rw [hz, ← hD, hq, hr] at e
  rw [e]
  by_cases z : (a.toInt < 0 ↔ b.toInt < 0)
  · rw [if_pos z, if_pos (by rw [← z]; omega)]
  · rw [if_neg z, if_neg (fun y => z (by rw [← y]; omega))]
theorem mq_s {a b v126 v135 : Int32} (e1 : v126 = if a.toInt < 0 then 1 else 0) (e2 : v135 = if b.toInt < 0 then 1 else 0) : v126 = v135 ↔ (a.toInt < 0 ↔ b.toInt < 0) := by
  by_cases h1 : a.toInt < 0 <;> by_cases h2 : b.toInt < 0 <;> simp [h1, h2] at e1 e2 <;> subst e1 <;> subst e2 <;> simp [h1, h2]
theorem mq_sg0 {a : Int32} (h : 0 ≤ a) : (0 : Int32) = if a.toInt < 0 then 1 else 0 := by
  have := fx_ge a h
  rw [if_neg (by omega)]
theorem mq_sg1 {a : Int32} (h : ¬ 0 ≤ a) : (1 : Int32) = if a.toInt < 0 then 1 else 0 := by
  have z : (0 : Int32).toInt = 0 := by decide
  rw [Int32.le_iff_toInt_le, z] at h
  rw [if_pos (by omega)]
theorem mq_p {a b : Int32} {q : Int64} {V : Int} {Q R : Nat} (hV : V = if (a.toInt < 0 ↔ b.toInt < 0) then (Q : Int) else -(Q : Int) - (if R = 0 then 0 else 1)) (hq : q = lN Q) (hQ : Q < 2 ^ 63) (h : a.toInt < 0 ↔ b.toInt < 0) : q.toInt = V := by
  rw [hV, if_pos h, hq]
  exact pk_lT hQ
theorem mq_z {a b : Int32} {q : Int64} {N D Q R : Nat} (hb : ¬ b = 0) (hN : N = a.toInt.natAbs) (hD : D = b.toInt.natAbs) (hR : R < D) (h : 65536 * N = Q * D + R) (hq : q = lN Q) (ha : a = 0) : q.toInt = (65536 * a.toInt).fdiv b.toInt := by
  have a0 : a.toInt = 0 := by rw [ha]; decide
  rw [a0] at hN ⊢
  have hN0 : N = 0 := hN
  rw [hN0] at h
  have hQD : Q * D = 0 := by omega
  have hQ0 : Q = 0 := by
    rcases Nat.mul_eq_zero.mp hQD with z | z
    · exact z
    · omega
  rw [hq, hQ0]
  simp
  decide
theorem mq_n1 {a b : Int32} {q v v2 rest : Int64} {V : Int} {Q R : Nat} (hV : V = if (a.toInt < 0 ↔ b.toInt < 0) then (Q : Int) else -(Q : Int) - (if R = 0 then 0 else 1)) (hq : q = lN Q) (hQ : Q ≤ 140737488355328) (hr : rest = lN R) (hR : R < 2 ^ 63) (h : ¬ (a.toInt < 0 ↔ b.toInt < 0)) (c : ¬ rest ≤ 0) (ev : v = -q) (ev2 : v2 = v - 1) : v2.toInt = V := by
  have hR0 : R ≠ 0 := fun z => c (by rw [hr, z]; decide)
  have e1 : q.toInt = (Q : Int) := by rw [hq]; exact pk_lT (by omega)
  have e2 : v.toInt = -(Q : Int) := by rw [ev, Int64.toInt_neg, e1, fx_bm64 (by omega) (by omega)]
  rw [ev2, Int64.toInt_sub, e2, show (1 : Int64).toInt = 1 from by decide, fx_bm64 (by omega) (by omega), hV, if_neg h, if_neg hR0]
theorem mq_n0 {a b : Int32} {q v rest : Int64} {V : Int} {Q R : Nat} (hV : V = if (a.toInt < 0 ↔ b.toInt < 0) then (Q : Int) else -(Q : Int) - (if R = 0 then 0 else 1)) (hq : q = lN Q) (hQ : Q ≤ 140737488355328) (hr : rest = lN R) (hR : R < 2 ^ 63) (h : ¬ (a.toInt < 0 ↔ b.toInt < 0)) (c : rest ≤ 0) (ev : v = -q) : v.toInt = V := by
  have hR0 : R = 0 := by
    rw [hr] at c
    have := (pk_lLE (b := 0) hR (by decide)).mp c
    omega
  have e1 : q.toInt = (Q : Int) := by rw [hq]; exact pk_lT (by omega)
  rw [ev, Int64.toInt_neg, e1, fx_bm64 (by omega) (by omega), hV, if_neg h, if_pos hR0]
  omega
/-- clamped to an int -/
theorem cl_1 {q : Int64} {V : Int} (hV : q.toInt = V) (c : ¬ q ≤ 2147483647) : (2147483647 : Int32).toInt = max (-2147483648) (min V 2147483647) := by
  rw [Int64.le_iff_toInt_le, show (2147483647 : Int64).toInt = 2147483647 from by decide, hV] at c
  rw [show (2147483647 : Int32).toInt = 2147483647 from by decide]
  omega
theorem cl_2 {q : Int64} {V : Int} (hV : q.toInt = V) (c : ¬ (-2147483648) ≤ q) : (-2147483648 : Int32).toInt = max (-2147483648) (min V 2147483647) := by
  rw [Int64.le_iff_toInt_le, show (-2147483648 : Int64).toInt = -2147483648 from by decide, hV] at c
  rw [show (-2147483648 : Int32).toInt = -2147483648 from by decide]
  omega
theorem cl_3 {q : Int64} {V : Int} {r : Int32} (hV : q.toInt = V) (c1 : q ≤ 2147483647) (c2 : (-2147483648) ≤ q) (er : r = q.toInt32) : r.toInt = max (-2147483648) (min V 2147483647) := by
  rw [Int64.le_iff_toInt_le, show (2147483647 : Int64).toInt = 2147483647 from by decide, hV] at c1
  rw [Int64.le_iff_toInt_le, show (-2147483648 : Int64).toInt = -2147483648 from by decide, hV] at c2
  rw [er, Int64.toInt_toInt32, hV, fx_bm32 (by omega) (by omega)]
  omega
theorem mq_fin {a b : Int32} {r : Int} (hb : ¬ b = 0) (h : r = max (-2147483648) (min ((65536 * a.toInt).fdiv b.toInt) 2147483647)) : r = sp_quot a.toInt b.toInt := by
  have hb0 := fx_ne0 b hb
  rw [Int32.toInt_toInt64] at hb0
  rw [h, sp_quot, if_neg hb0]
/-- fromHalf -/
theorem mh_s {h v8 v10 : Int32} (e8 : v8 = h >>> ((15 : Int32) &&& 31)) (e10 : v10 = v8 &&& 1) : v10 = 1 ↔ ¬ h.toBitVec.toNat / 32768 % 2 = 0 := by
  have a1 : v10 = nI (v8.toBitVec.toNat % 2 ^ 1) := by rw [e10]; exact pk_and v8 1 (by decide)
  have a2 : v8.toInt = h.toInt / 32768 := by
    rw [e8, pk_shr h _ 15 (by decide), Int.shiftRight_eq_div_pow]
    rfl
  have b1 := fx_tn h
  have b2 := fx_tn v8
  have a4 : v8.toBitVec.toNat % 2 ^ 1 = h.toBitVec.toNat / 32768 % 2 := by
    show v8.toBitVec.toNat % 2 = _
    omega
  rw [a1, a4, show (1 : Int32) = nI 1 from rfl, nI_eq (by omega) (by decide)]
  omega
theorem mh_20 {h v10 v : Int32} (hs : v10 = 1 ↔ ¬ h.toBitVec.toNat / 32768 % 2 = 0) (e : v = if v10 = 1 then 1 else 0) : v = 0 ↔ h.toBitVec.toNat / 32768 % 2 = 0 := by
  by_cases z : v10 = 1
  · have := hs.mp z
    simp [e, z, this]
  · have : h.toBitVec.toNat / 32768 % 2 = 0 := Classical.byContradiction (fun y => z (hs.mpr y))
    simp [e, z, this]
theorem mh_f {h v37 : Int32} (e : v37 = nI (h.toBitVec.toNat % 1024)) : v37 ≤ 0 ↔ h.toBitVec.toNat % 1024 = 0 := by
  rw [e, show (0 : Int32) = nI 0 from rfl, nI_leI (by omega) (by decide)]
  omega
theorem mh_sc (n : Nat) : sp_sc n * 2 = sp_hD n * 2 ^ (max (n / 1024 % 32) 1) := by
  unfold sp_sc sp_hD
  by_cases h : n / 1024 % 32 = 0
  · rw [if_pos h, if_pos h, h]
    rfl
  · rw [if_neg h, if_neg h, Nat.mul_assoc, ← Nat.pow_succ, show (n / 1024 % 32 - 1).succ = max (n / 1024 % 32) 1 by omega]
theorem mh_scb (n : Nat) : sp_sc n ≤ 2199023255552 := by
  unfold sp_sc
  split
  · omega
  · have h1 : 2 ^ (n / 1024 % 32 - 1) ≤ 2 ^ 30 := Nat.pow_le_pow_right (by decide) (by omega)
    have h2 := Nat.mul_le_mul (show 1024 + n % 1024 ≤ 2048 by omega) h1
    omega
theorem mh_v0 {h v20 : Int32} {w v : Int64} (hs : v20 = 0 ↔ h.toBitVec.toNat / 32768 % 2 = 0) (e : w = lN (sp_sc h.toBitVec.toNat)) (c : v20 = 0) (ev : v = w) : v.toInt * 2 = sp_hZ h.toBitVec.toNat * 2 ^ (max (h.toBitVec.toNat / 1024 % 32) 1) := by
  have hb := mh_scb h.toBitVec.toNat
  have h1 : v.toInt = (sp_sc h.toBitVec.toNat : Int) := by rw [ev, e]; exact pk_lT (by omega)
  have h2 := mh_sc h.toBitVec.toNat
  rw [h1, sp_hZ, if_pos (hs.mp c)]
  exact_mod_cast h2
theorem mh_v1 {h v20 : Int32} {w v : Int64} (hs : v20 = 0 ↔ h.toBitVec.toNat / 32768 % 2 = 0) (e : w = lN (sp_sc h.toBitVec.toNat)) (c : ¬ v20 = 0) (ev : v = -w) : v.toInt * 2 = sp_hZ h.toBitVec.toNat * 2 ^ (max (h.toBitVec.toNat / 1024 % 32) 1) := by
  have hb := mh_scb h.toBitVec.toNat
  have h1 : w.toInt = (sp_sc h.toBitVec.toNat : Int) := by rw [e]; exact pk_lT (by omega)
  have h2 := mh_sc h.toBitVec.toNat
  have h3 : (sp_sc h.toBitVec.toNat : Int) * 2 = (sp_hD h.toBitVec.toNat : Int) * 2 ^ (max (h.toBitVec.toNat / 1024 % 32) 1) := by exact_mod_cast h2
  rw [ev, Int64.toInt_neg, h1, fx_bm64 (by omega) (by omega), sp_hZ, if_neg (fun z => c (hs.mpr z)), Int.neg_mul, Int.neg_mul, h3]
theorem mh_sh {v v77 : Int64} {Z : Int} (h : v.toInt * 2 = Z) (e : v77 = v >>> ((8 : Int32).toInt64 &&& 63)) : v77.toInt = Z / 512 := by
  have e1 := fx_lshr v ((8 : Int32).toInt64 &&& 63) 8 (by decide)
  have e2 : v77.toInt = v.toInt / 256 := by rw [e]; exact e1
  omega
end
section
set_option maxHeartbeats 4000000 in
set_option maxRecDepth 100000 in
theorem c_M_root (l : Launch) (dC : Nat → ClassId) (dI : Nat → Nat → Nat) (h0 sz : Nat) (th : Int32) (up lo le : Int64) (a : Int32)  : Met l y_M_root w_M_root ({ frames := 0, cells := 0, slots := 0, locals := 0 }) (va_Pc [.ref h0, .int a] (fun U => U.heap.size = sz ∧ va_P (dC, dI) classes [(h0, .inr (1, [.int th, .long up, .long lo, .long le]))] U.heap ∧ va_K (dC, dI) classes [] U ∧ va_D (fun _ => True) [(h0, .inr (1, [.int th, .long up, .long lo, .long le]))])) (va_Qi (fun (r : Int32) (u : MS) => sp_root a.toInt r.toInt) (at_M dC dI (va_A [(h0, .inr (1, [.int th, .long up, .long lo, .long le]))] sz) h0) (va_A [(h0, .inr (1, [.int th, .long up, .long lo, .long le]))] sz)) 0 0 (va_A [(h0, .inr (1, [.int th, .long up, .long lo, .long le]))] sz) := by
  refine Met.ofW (cc := b_M_root) (maxL := 8) (ret := some .int) (by decide) rfl ?_
  intro p e s m args below meth c s₁ B hml hv
  obtain ⟨rfl, hsz, hP, hK, hD0⟩ := hv
  have hx := B.exec
  have hb := B.bytes
  have hr := B.returns
  have hts := atoms_spec (ws := w_M_root) B.pre
  have hown : s.vm.findClass R_M = some m.cls := findClass_of_methodNamed B.named
  have hlocks := B.notSynchronized
  subst hsz
  have hD := hD0.self (sz := s.heap.size)
  generalize hAe : va_A [(h0, .inr (1, [.int th, .long up, .long lo, .long le]))] s.heap.size = A at hD ⊢
  have hA : ∀ q : Nat, s.heap.size ≤ q → A q := fun q h => by rw [← hAe]; exact Or.inr h
  have hS : va_S A s.heap s.heap [] := va_S.rf
  have hP : va_P (dC, dI) classes [(h0, .inr (1, [.int th, .long up, .long lo, .long le]))] s.heap := hP
  have hl := lv_entry ([.ref h0, .int a]) (n := 8) (Nat.le_of_ble_eq_true rfl)
  rw [lg_entry_eq]
  generalize (lg_sl ([.ref h0, .int a]) ++ List.replicate (8 - (lg_sl ([.ref h0, .int a])).length) Slot.unset).toArray = ls at hl ⊢
  have hl : lv_has ls 8 [(0, .ref h0), (1, .int a)] := hl
  refine lv_aload_n hx hb d_M_root_0 rfl (lv_at hl 0 rfl) ?_
  refine lv_iconst (v := 0) hx hb d_M_root_1 (by decide) ?_
  refine va_put (D := (dC, dI)) (ci := 1) (v := .int 0) (ty := .int) (C := R_M) (T := F_M) (N := 4) hx hb hts (fun w h => List.mem_cons_of_mem _ (i_M w h)) t_M t_M_ok n_M hown hK hP hD hS 0 rfl rfl 0 (by decide) (hts (.fieldLink R_M 7 R_M "thrown" "I") (List.mem_cons_of_mem _ (tm (by decide +kernel) rfl))) (fun _ h9 => h9) rfl (by decide +kernel) rfl rfl (Nat.le_of_ble_eq_true rfl) d_M_root_2 (fun H locs hP hD hS => ?_)
  have hP : va_P (dC, dI) classes [(h0, .inr (1, [.int 0, .long up, .long lo, .long le]))] H := hP
  have hD : va_D A [(h0, .inr (1, [.int 0, .long up, .long lo, .long le]))] := hD
  refine lv_iload_n hx hb d_M_root_5 rfl (lv_at hl 1 rfl) ?_
  refine jn_l (J := 19) (rest := []) (fun v => v.toInt = max 0 (65536 * a.toInt)) (fun v19 e19 => ?_) (fun K19 => ?_)
  · skip
    refine lv_lstore_n (lv' := [(2, .long v19), (0, .ref h0), (1, .int a)]) hx hb d_M_root_19 rfl hl (by decide) rfl (fun ls hl => ?_)
    refine lv_lconst (v := 0) hx hb d_M_root_20 (by decide) ?_
    refine lv_lstore (lv' := [(4, .long 0), (2, .long v19), (0, .ref h0), (1, .int a)]) hx hb d_M_root_21 hl (by decide) rfl (fun ls hl => ?_)
    refine lv_ldc2 (v := 16777216) hx hb hown (hts (.constantLong R_M 50 16777216) (List.mem_cons_of_mem _ (tm (by decide +kernel) rfl))) d_M_root_23 ?_
    refine lv_lstore (lv' := [(6, .long 16777216), (4, .long 0), (2, .long v19), (0, .ref h0), (1, .int a)]) hx hb d_M_root_26 hl (by decide) rfl (fun ls hl => ?_)
    obtain ⟨hm0, hm1⟩ := mr_mb a v19 e19
    obtain ⟨S, hxS, hxI, hSN, -⟩ := fx_of v19 hm0 hm1
    have hSb : S ≤ 281474976710656 := by omega
    refine lp_W (nL := 8) (J := 28) (fun z : Int64 × Int64 => [(6, .long z.2), (4, .long z.1), (2, .long v19), (0, .ref h0), (1, .int a)]) (mr_I S) (fun n z hI ih ls hl => ?_) 25 (0, 16777216) (mr_0 hSb) (lv_sub hl [0, 1, 2, 3, 4] rfl)
    obtain ⟨r, bt⟩ := z
    obtain ⟨hn, hbt, f, hf, hb1, hb2, hb3⟩ := hI
    dsimp only at hbt hf
    have hl : lv_has ls 8 [(6, .long bt), (4, .long r), (2, .long v19), (0, .ref h0), (1, .int a)] := hl
    refine lv_lload hx hb d_M_root_28 (lv_at hl 0 rfl) ?_
    refine lv_lconst (v := 0) hx hb d_M_root_30 (by decide) ?_
    refine W.lcmp hx hb d_M_root_31 ?_
    refine lv_if_le (tgt := 72) hx hb d_M_root_32 (by decide) (fun c32 => ?_) (fun c32 => ?_)
    · skip
      have c32 := (lg_cmp_le _ _).mp c32
      refine lv_lload hx hb d_M_root_72 (lv_at hl 1 rfl) ?_
      refine lv_l2i hx hb d_M_root_74 rfl ?_
      refine lv_topi (fun v74 e74 => ?_)
      refine W.iret (v := v74) hx hb hr (fun t ht hW => ⟨⟨_, (0, up, lo, le), rfl, ?_, by rw [ht]; exact hP, va_K.moved hW.alike hK, hD⟩, hS.F ht⟩) hS.2.2 d_M_root_75
      show sp_root a.toInt v74.toInt
      exact by have z := mr_neg hn hbt c32; subst z; exact mr_end a v74 v19 e19 (rt_end hxI hf hb1 hb2 hb3 e74)
    · skip
      have c32 := (not_congr (lg_cmp_le _ _)).mp c32
      obtain ⟨j, rfl, hbj⟩ := mr_nn hn hbt c32
      refine lv_lload hx hb d_M_root_35 (lv_at hl 1 rfl) ?_
      refine lv_lload hx hb d_M_root_37 (lv_at hl 0 rfl) ?_
      refine lv_ladd hx hb d_M_root_39 ?_
      refine lv_topl (fun v39 e39 => ?_)
      refine lv_lload hx hb d_M_root_40 (lv_at hl 1 rfl) ?_
      refine lv_lload hx hb d_M_root_42 (lv_at hl 0 rfl) ?_
      refine lv_ladd hx hb d_M_root_44 ?_
      refine lv_topl (fun v44 e44 => ?_)
      refine lv_lmul hx hb d_M_root_45 ?_
      refine lv_topl (fun v45 e45 => ?_)
      obtain ⟨f39, cx⟩ := mr_try hxS hSb hn hbj hf hb1 e39 e44 e45
      refine lv_lload_n hx hb d_M_root_46 rfl (lv_at hl 2 rfl) ?_
      refine W.lcmp hx hb d_M_root_47 ?_
      refine lv_if_gt (tgt := 59) hx hb d_M_root_48 (by decide) (fun c48 => ?_) (fun c48 => ?_)
      · skip
        have c48 := (lg_cmp_gt _ _).mp c48
        refine lv_lload hx hb d_M_root_59 (lv_at hl 1 rfl) ?_
        refine lv_lstore (lv' := [(4, .long r), (6, .long bt), (2, .long v19), (0, .ref h0), (1, .int a)]) hx hb d_M_root_61 hl (by decide) rfl (fun ls hl => ?_)
        refine lv_lload hx hb d_M_root_63 (lv_at hl 1 rfl) ?_
        refine lv_iconst (v := 1) hx hb d_M_root_65 (by decide) ?_
        refine lv_lshr hx hb d_M_root_66 rfl ?_
        refine lv_topl (fun v66 e66 => ?_)
        refine lv_lstore (lv' := [(6, .long v66), (4, .long r), (2, .long v19), (0, .ref h0), (1, .int a)]) hx hb d_M_root_67 hl (by decide) rfl (fun ls hl => ?_)
        refine lv_goto (tgt := 28) hx hb d_M_root_69 (by decide) ?_
        exact ih _ (r, v66) (Nat.lt_succ_self _) (mr_no hn hf hb1 hb2 (cx.mp c48) (mr_sh hn hbj e66)) _ (lv_sub hl [0, 1, 2, 3, 4] rfl)
      · skip
        have c48 := (not_congr (lg_cmp_gt _ _)).mp c48
        refine lv_lload hx hb d_M_root_51 (lv_at hl 1 rfl) ?_
        refine lv_lload hx hb d_M_root_53 (lv_at hl 0 rfl) ?_
        refine lv_ladd hx hb d_M_root_55 ?_
        refine lv_topl (fun v55 e55 => ?_)
        refine lv_goto (tgt := 61) hx hb d_M_root_56 (by decide) ?_
        refine lv_lstore (lv' := [(4, .long v55), (6, .long bt), (2, .long v19), (0, .ref h0), (1, .int a)]) hx hb d_M_root_61 hl (by decide) rfl (fun ls hl => ?_)
        refine lv_lload hx hb d_M_root_63 (lv_at hl 1 rfl) ?_
        refine lv_iconst (v := 1) hx hb d_M_root_65 (by decide) ?_
        refine lv_lshr hx hb d_M_root_66 rfl ?_
        refine lv_topl (fun v66 e66 => ?_)
        refine lv_lstore (lv' := [(6, .long v66), (4, .long v55), (2, .long v19), (0, .ref h0), (1, .int a)]) hx hb d_M_root_67 hl (by decide) rfl (fun ls hl => ?_)
        refine lv_goto (tgt := 28) hx hb d_M_root_69 (by decide) ?_
        exact ih _ (v55, v66) (Nat.lt_succ_self _) (mr_yes hn (by rw [e55, hf, hbj, lN_add]) hb1 hb3 (Nat.not_lt.mp (fun q => c48 (cx.mpr q))) (mr_sh hn hbj e66)) _ (lv_sub hl [0, 1, 2, 3, 4] rfl)
  · skip
    refine lv_if_ge (tgt := 13) hx hb d_M_root_6 (by decide) (fun c6 => ?_) (fun c6 => ?_)
    · skip
      refine lv_ldc2 (v := 65536) hx hb hown (hts (.constantLong R_M 48 65536) (List.mem_cons_of_mem _ (tm (by decide +kernel) rfl))) d_M_root_13 ?_
      refine lv_iload_n hx hb d_M_root_16 rfl (lv_at hl 1 rfl) ?_
      refine lv_i2l hx hb d_M_root_17 rfl ?_
      refine lv_topl (fun v17 e17 => ?_)
      refine lv_lmul hx hb d_M_root_18 ?_
      refine lv_topl (fun v18 e18 => ?_)
      exact K19 _ (by first | exact mr_m0 a c6 | exact mr_m1 a v18 c6 (by rw [e18, e17]))
    · skip
      refine lv_lconst (v := 0) hx hb d_M_root_9 (by decide) ?_
      refine lv_goto (tgt := 19) hx hb d_M_root_10 (by decide) ?_
      exact K19 _ (by first | exact mr_m0 a c6 | exact mr_m1 a v18 c6 (by rw [e18, e17]))
set_option maxHeartbeats 4000000 in
set_option maxRecDepth 100000 in
theorem c_M_oneByRoot (l : Launch) (dC : Nat → ClassId) (dI : Nat → Nat → Nat) (h0 sz : Nat) (th : Int32) (up lo le : Int64) (a : Int32)  : Met l y_M_oneByRoot w_M_oneByRoot ({ frames := 0, cells := 0, slots := 0, locals := 0 }) (va_Pc [.ref h0, .int a] (fun U => U.heap.size = sz ∧ va_P (dC, dI) classes [(h0, .inr (1, [.int th, .long up, .long lo, .long le]))] U.heap ∧ va_K (dC, dI) classes [] U ∧ va_D (fun _ => True) [(h0, .inr (1, [.int th, .long up, .long lo, .long le]))])) (va_Qi (fun (r : Int32) (u : MS) => sp_obr a.toInt r.toInt) (at_M dC dI (va_A [(h0, .inr (1, [.int th, .long up, .long lo, .long le]))] sz) h0) (va_A [(h0, .inr (1, [.int th, .long up, .long lo, .long le]))] sz)) 0 0 (va_A [(h0, .inr (1, [.int th, .long up, .long lo, .long le]))] sz) := by
  refine Met.ofW (cc := b_M_oneByRoot) (maxL := 8) (ret := some .int) (by decide) rfl ?_
  intro p e s m args below meth c s₁ B hml hv
  obtain ⟨rfl, hsz, hP, hK, hD0⟩ := hv
  have hx := B.exec
  have hb := B.bytes
  have hr := B.returns
  have hts := atoms_spec (ws := w_M_oneByRoot) B.pre
  have hown : s.vm.findClass R_M = some m.cls := findClass_of_methodNamed B.named
  have hlocks := B.notSynchronized
  subst hsz
  have hD := hD0.self (sz := s.heap.size)
  generalize hAe : va_A [(h0, .inr (1, [.int th, .long up, .long lo, .long le]))] s.heap.size = A at hD ⊢
  have hA : ∀ q : Nat, s.heap.size ≤ q → A q := fun q h => by rw [← hAe]; exact Or.inr h
  have hS : va_S A s.heap s.heap [] := va_S.rf
  have hP : va_P (dC, dI) classes [(h0, .inr (1, [.int th, .long up, .long lo, .long le]))] s.heap := hP
  have hl := lv_entry ([.ref h0, .int a]) (n := 8) (Nat.le_of_ble_eq_true rfl)
  rw [lg_entry_eq]
  generalize (lg_sl ([.ref h0, .int a]) ++ List.replicate (8 - (lg_sl ([.ref h0, .int a])).length) Slot.unset).toArray = ls at hl ⊢
  have hl : lv_has ls 8 [(0, .ref h0), (1, .int a)] := hl
  refine lv_aload_n hx hb d_M_oneByRoot_0 rfl (lv_at hl 0 rfl) ?_
  refine lv_iconst (v := 0) hx hb d_M_oneByRoot_1 (by decide) ?_
  refine va_put (D := (dC, dI)) (ci := 1) (v := .int 0) (ty := .int) (C := R_M) (T := F_M) (N := 4) hx hb hts (fun w h => List.mem_cons_of_mem _ (i_M w h)) t_M t_M_ok n_M hown hK hP hD hS 0 rfl rfl 0 (by decide) (hts (.fieldLink R_M 7 R_M "thrown" "I") (List.mem_cons_of_mem _ (tm (by decide +kernel) rfl))) (fun _ h9 => h9) rfl (by decide +kernel) rfl rfl (Nat.le_of_ble_eq_true rfl) d_M_oneByRoot_2 (fun H locs hP hD hS => ?_)
  have hP : va_P (dC, dI) classes [(h0, .inr (1, [.int 0, .long up, .long lo, .long le]))] H := hP
  have hD : va_D A [(h0, .inr (1, [.int 0, .long up, .long lo, .long le]))] := hD
  refine lv_iload_n hx hb d_M_oneByRoot_5 rfl (lv_at hl 1 rfl) ?_
  refine lv_if_gt (tgt := 12) hx hb d_M_oneByRoot_6 (by decide) (fun c6 => ?_) (fun c6 => ?_)
  · skip
    refine lv_ldc2 (v := 281474976710656) hx hb hown (hts (.constantLong R_M 52 281474976710656) (List.mem_cons_of_mem _ (tm (by decide +kernel) rfl))) d_M_oneByRoot_12 ?_
    refine lv_iload_n hx hb d_M_oneByRoot_15 rfl (lv_at hl 1 rfl) ?_
    refine lv_i2l hx hb d_M_oneByRoot_16 rfl ?_
    refine lv_topl (fun v16 e16 => ?_)
    refine lv_ldiv hx hb d_M_oneByRoot_17 (fx_obrz a v16 c6 e16) ?_
    refine lv_topl (fun v17 e17 => ?_)
    refine lv_lstore_n (lv' := [(2, .long v17), (0, .ref h0), (1, .int a)]) hx hb d_M_oneByRoot_18 rfl hl (by decide) rfl (fun ls hl => ?_)
    refine lv_lconst (v := 0) hx hb d_M_oneByRoot_19 (by decide) ?_
    refine lv_lstore (lv' := [(4, .long 0), (2, .long v17), (0, .ref h0), (1, .int a)]) hx hb d_M_oneByRoot_20 hl (by decide) rfl (fun ls hl => ?_)
    refine lv_ldc2 (v := 16777216) hx hb hown (hts (.constantLong R_M 50 16777216) (List.mem_cons_of_mem _ (tm (by decide +kernel) rfl))) d_M_oneByRoot_22 ?_
    refine lv_lstore (lv' := [(6, .long 16777216), (4, .long 0), (2, .long v17), (0, .ref h0), (1, .int a)]) hx hb d_M_oneByRoot_25 hl (by decide) rfl (fun ls hl => ?_)
    obtain ⟨hm0, hm1⟩ := fx_obrb a v17 v16 c6 e16 e17
    obtain ⟨S, hxS, hxI, hSN, -⟩ := fx_of v17 hm0 hm1
    have hSb : S ≤ 281474976710656 := by omega
    refine lp_W (nL := 8) (J := 27) (fun z : Int64 × Int64 => [(6, .long z.2), (4, .long z.1), (2, .long v17), (0, .ref h0), (1, .int a)]) (mr_I S) (fun n z hI ih ls hl => ?_) 25 (0, 16777216) (mr_0 hSb) (lv_sub hl [0, 1, 2, 3, 4] rfl)
    obtain ⟨r, bt⟩ := z
    obtain ⟨hn, hbt, f, hf, hb1, hb2, hb3⟩ := hI
    dsimp only at hbt hf
    have hl : lv_has ls 8 [(6, .long bt), (4, .long r), (2, .long v17), (0, .ref h0), (1, .int a)] := hl
    refine lv_lload hx hb d_M_oneByRoot_27 (lv_at hl 0 rfl) ?_
    refine lv_lconst (v := 0) hx hb d_M_oneByRoot_29 (by decide) ?_
    refine W.lcmp hx hb d_M_oneByRoot_30 ?_
    refine lv_if_le (tgt := 71) hx hb d_M_oneByRoot_31 (by decide) (fun c31 => ?_) (fun c31 => ?_)
    · skip
      have c31 := (lg_cmp_le _ _).mp c31
      refine lv_lload hx hb d_M_oneByRoot_71 (lv_at hl 1 rfl) ?_
      refine lv_l2i hx hb d_M_oneByRoot_73 rfl ?_
      refine lv_topi (fun v73 e73 => ?_)
      refine W.iret (v := v73) hx hb hr (fun t ht hW => ⟨⟨_, (0, up, lo, le), rfl, ?_, by rw [ht]; exact hP, va_K.moved hW.alike hK, hD⟩, hS.F ht⟩) hS.2.2 d_M_oneByRoot_74
      show sp_obr a.toInt v73.toInt
      exact by have z := mr_neg hn hbt c31; subst z; exact fx_obr1 a v73 v17 v16 c6 e16 e17 (rt_end hxI hf hb1 hb2 hb3 e73)
    · skip
      have c31 := (not_congr (lg_cmp_le _ _)).mp c31
      obtain ⟨j, rfl, hbj⟩ := mr_nn hn hbt c31
      refine lv_lload hx hb d_M_oneByRoot_34 (lv_at hl 1 rfl) ?_
      refine lv_lload hx hb d_M_oneByRoot_36 (lv_at hl 0 rfl) ?_
      refine lv_ladd hx hb d_M_oneByRoot_38 ?_
      refine lv_topl (fun v38 e38 => ?_)
      refine lv_lload hx hb d_M_oneByRoot_39 (lv_at hl 1 rfl) ?_
      refine lv_lload hx hb d_M_oneByRoot_41 (lv_at hl 0 rfl) ?_
      refine lv_ladd hx hb d_M_oneByRoot_43 ?_
      refine lv_topl (fun v43 e43 => ?_)
      refine lv_lmul hx hb d_M_oneByRoot_44 ?_
      refine lv_topl (fun v44 e44 => ?_)
      obtain ⟨f39, cx⟩ := mr_try hxS hSb hn hbj hf hb1 e38 e43 e44
      refine lv_lload_n hx hb d_M_oneByRoot_45 rfl (lv_at hl 2 rfl) ?_
      refine W.lcmp hx hb d_M_oneByRoot_46 ?_
      refine lv_if_gt (tgt := 58) hx hb d_M_oneByRoot_47 (by decide) (fun c47 => ?_) (fun c47 => ?_)
      · skip
        have c47 := (lg_cmp_gt _ _).mp c47
        refine lv_lload hx hb d_M_oneByRoot_58 (lv_at hl 1 rfl) ?_
        refine lv_lstore (lv' := [(4, .long r), (6, .long bt), (2, .long v17), (0, .ref h0), (1, .int a)]) hx hb d_M_oneByRoot_60 hl (by decide) rfl (fun ls hl => ?_)
        refine lv_lload hx hb d_M_oneByRoot_62 (lv_at hl 1 rfl) ?_
        refine lv_iconst (v := 1) hx hb d_M_oneByRoot_64 (by decide) ?_
        refine lv_lshr hx hb d_M_oneByRoot_65 rfl ?_
        refine lv_topl (fun v65 e65 => ?_)
        refine lv_lstore (lv' := [(6, .long v65), (4, .long r), (2, .long v17), (0, .ref h0), (1, .int a)]) hx hb d_M_oneByRoot_66 hl (by decide) rfl (fun ls hl => ?_)
        refine lv_goto (tgt := 27) hx hb d_M_oneByRoot_68 (by decide) ?_
        exact ih _ (r, v65) (Nat.lt_succ_self _) (mr_no hn hf hb1 hb2 (cx.mp c47) (mr_sh hn hbj e65)) _ (lv_sub hl [0, 1, 2, 3, 4] rfl)
      · skip
        have c47 := (not_congr (lg_cmp_gt _ _)).mp c47
        refine lv_lload hx hb d_M_oneByRoot_50 (lv_at hl 1 rfl) ?_
        refine lv_lload hx hb d_M_oneByRoot_52 (lv_at hl 0 rfl) ?_
        refine lv_ladd hx hb d_M_oneByRoot_54 ?_
        refine lv_topl (fun v54 e54 => ?_)
        refine lv_goto (tgt := 60) hx hb d_M_oneByRoot_55 (by decide) ?_
        refine lv_lstore (lv' := [(4, .long v54), (6, .long bt), (2, .long v17), (0, .ref h0), (1, .int a)]) hx hb d_M_oneByRoot_60 hl (by decide) rfl (fun ls hl => ?_)
        refine lv_lload hx hb d_M_oneByRoot_62 (lv_at hl 1 rfl) ?_
        refine lv_iconst (v := 1) hx hb d_M_oneByRoot_64 (by decide) ?_
        refine lv_lshr hx hb d_M_oneByRoot_65 rfl ?_
        refine lv_topl (fun v65 e65 => ?_)
        refine lv_lstore (lv' := [(6, .long v65), (4, .long v54), (2, .long v17), (0, .ref h0), (1, .int a)]) hx hb d_M_oneByRoot_66 hl (by decide) rfl (fun ls hl => ?_)
        refine lv_goto (tgt := 27) hx hb d_M_oneByRoot_68 (by decide) ?_
        exact ih _ (v54, v65) (Nat.lt_succ_self _) (mr_yes hn (by rw [e54, hf, hbj, lN_add]) hb1 hb3 (Nat.not_lt.mp (fun q => c47 (cx.mpr q))) (mr_sh hn hbj e65)) _ (lv_sub hl [0, 1, 2, 3, 4] rfl)
  · skip
    refine lv_ldc (v := 2147483647) hx hb hown (hts (.constant R_M 42 2147483647) (List.mem_cons_of_mem _ (tm (by decide +kernel) rfl))) d_M_oneByRoot_9 ?_
    refine W.iret (v := 2147483647) hx hb hr (fun t ht hW => ⟨⟨_, (0, up, lo, le), rfl, ?_, by rw [ht]; exact hP, va_K.moved hW.alike hK, hD⟩, hS.F ht⟩) hS.2.2 d_M_oneByRoot_11
    show sp_obr a.toInt (2147483647 : Int32).toInt
    exact fx_obr0 a c6
set_option maxHeartbeats 4000000 in
set_option maxRecDepth 100000 in
theorem c_M_quotient (l : Launch) (dC : Nat → ClassId) (dI : Nat → Nat → Nat) (h0 sz : Nat) (th : Int32) (up lo le : Int64) (a b : Int32)  : Met l y_M_quotient w_M_quotient ({ frames := 1, cells := 0, slots := 0, locals := 30 }) (va_Pc [.ref h0, .int a, .int b] (fun U => U.heap.size = sz ∧ va_P (dC, dI) classes [(h0, .inr (1, [.int th, .long up, .long lo, .long le]))] U.heap ∧ va_K (dC, dI) classes [] U ∧ va_D (fun _ => True) [(h0, .inr (1, [.int th, .long up, .long lo, .long le]))])) (va_Qi (fun (r : Int32) (u : MS) => r.toInt = sp_quot a.toInt b.toInt) (at_M dC dI (va_A [(h0, .inr (1, [.int th, .long up, .long lo, .long le]))] sz) h0) (va_A [(h0, .inr (1, [.int th, .long up, .long lo, .long le]))] sz)) 0 0 (va_A [(h0, .inr (1, [.int th, .long up, .long lo, .long le]))] sz) := by
  refine Met.ofW (cc := b_M_quotient) (maxL := 12) (ret := some .int) (by decide) rfl ?_
  intro p e s m args below meth c s₁ B hml hv
  obtain ⟨rfl, hsz, hP, hK, hD0⟩ := hv
  have hx := B.exec
  have hb := B.bytes
  have hr := B.returns
  have hts := atoms_spec (ws := w_M_quotient) B.pre
  have hown : s.vm.findClass R_M = some m.cls := findClass_of_methodNamed B.named
  have hlocks := B.notSynchronized
  subst hsz
  have hD := hD0.self (sz := s.heap.size)
  generalize hAe : va_A [(h0, .inr (1, [.int th, .long up, .long lo, .long le]))] s.heap.size = A at hD ⊢
  have hA : ∀ q : Nat, s.heap.size ≤ q → A q := fun q h => by rw [← hAe]; exact Or.inr h
  have hS : va_S A s.heap s.heap [] := va_S.rf
  have hP : va_P (dC, dI) classes [(h0, .inr (1, [.int th, .long up, .long lo, .long le]))] s.heap := hP
  have hl := lv_entry ([.ref h0, .int a, .int b]) (n := 12) (Nat.le_of_ble_eq_true rfl)
  rw [lg_entry_eq]
  generalize (lg_sl ([.ref h0, .int a, .int b]) ++ List.replicate (12 - (lg_sl ([.ref h0, .int a, .int b])).length) Slot.unset).toArray = ls at hl ⊢
  have hl : lv_has ls 12 [(0, .ref h0), (1, .int a), (2, .int b)] := hl
  refine lv_aload_n hx hb d_M_quotient_0 rfl (lv_at hl 0 rfl) ?_
  refine lv_iconst (v := 0) hx hb d_M_quotient_1 (by decide) ?_
  refine va_put (D := (dC, dI)) (ci := 1) (v := .int 0) (ty := .int) (C := R_M) (T := F_M) (N := 4) hx hb hts (fun w h => List.mem_cons_of_mem _ (i_M w h)) t_M t_M_ok n_M hown hK hP hD hS 0 rfl rfl 0 (by decide) (hts (.fieldLink R_M 7 R_M "thrown" "I") (List.mem_cons_of_mem _ (tm (by decide +kernel) rfl))) (fun _ h9 => h9) rfl (by decide +kernel) rfl rfl (Nat.le_of_ble_eq_true rfl) d_M_quotient_2 (fun H locs hP hD hS => ?_)
  have hP : va_P (dC, dI) classes [(h0, .inr (1, [.int 0, .long up, .long lo, .long le]))] H := hP
  have hD : va_D A [(h0, .inr (1, [.int 0, .long up, .long lo, .long le]))] := hD
  refine lv_iload_n hx hb d_M_quotient_5 rfl (lv_at hl 2 rfl) ?_
  refine lv_if_ne (tgt := 29) hx hb d_M_quotient_6 (by decide) (fun c6 => ?_) (fun c6 => ?_)
  · skip
    refine lv_iload_n hx hb d_M_quotient_29 rfl (lv_at hl 1 rfl) ?_
    refine lv_i2l hx hb d_M_quotient_30 rfl ?_
    refine lv_topl (fun v30 e30 => ?_)
    refine vp_callSl (W.runS (As := [.long v30]) (rest := []) ⟨hx, hb, hml, hown, hts⟩ (c_M_size l v30 ) (cwS 1 hts g_M_30 rfl rfl rfl (by decide +kernel) ⟨Nat.le_of_ble_eq_true rfl, Nat.le_of_ble_eq_true rfl⟩) preEq rfl rfl hl.1 rfl (lv_room (Nat.le_of_ble_eq_true rfl)) d_M_quotient_31 ⟨Nat.zero_le _, Nat.zero_le _⟩) (fun v31 e31 => ?_)
    try dsimp only at e31
    refine lv_lstore_n (lv' := [(3, .long v31), (0, .ref h0), (1, .int a), (2, .int b)]) hx hb d_M_quotient_34 rfl hl (by decide) rfl (fun ls hl => ?_)
    refine lv_iload_n hx hb d_M_quotient_35 rfl (lv_at hl 3 rfl) ?_
    refine lv_i2l hx hb d_M_quotient_36 rfl ?_
    refine lv_topl (fun v36 e36 => ?_)
    refine vp_callSl (W.runS (As := [.long v36]) (rest := []) ⟨hx, hb, hml, hown, hts⟩ (c_M_size l v36 ) (cwS 1 hts g_M_30 rfl rfl rfl (by decide +kernel) ⟨Nat.le_of_ble_eq_true rfl, Nat.le_of_ble_eq_true rfl⟩) preEq rfl rfl hl.1 rfl (lv_room (Nat.le_of_ble_eq_true rfl)) d_M_quotient_37 ⟨Nat.zero_le _, Nat.zero_le _⟩) (fun v37 e37 => ?_)
    try dsimp only at e37
    refine lv_lstore (lv' := [(5, .long v37), (3, .long v31), (0, .ref h0), (1, .int a), (2, .int b)]) hx hb d_M_quotient_40 hl (by decide) rfl (fun ls hl => ?_)
    refine lv_lconst (v := 0) hx hb d_M_quotient_42 (by decide) ?_
    refine lv_lstore (lv' := [(7, .long 0), (5, .long v37), (3, .long v31), (0, .ref h0), (1, .int a), (2, .int b)]) hx hb d_M_quotient_43 hl (by decide) rfl (fun ls hl => ?_)
    refine lv_lconst (v := 0) hx hb d_M_quotient_45 (by decide) ?_
    refine lv_lstore (lv' := [(9, .long 0), (7, .long 0), (5, .long v37), (3, .long v31), (0, .ref h0), (1, .int a), (2, .int b)]) hx hb d_M_quotient_46 hl (by decide) rfl (fun ls hl => ?_)
    refine lv_bipush (v := 47) hx hb d_M_quotient_48 (by decide) ?_
    refine lv_istore (lv' := [(11, .int 47), (9, .long 0), (7, .long 0), (5, .long v37), (3, .long v31), (0, .ref h0), (1, .int a), (2, .int b)]) hx hb d_M_quotient_50 hl (by decide) rfl (fun ls hl => ?_)
    obtain ⟨N, hN⟩ : ∃ n, n = a.toInt.natAbs := ⟨_, rfl⟩
    obtain ⟨D, hDx⟩ : ∃ n, n = b.toInt.natAbs := ⟨_, rfl⟩
    have hab := fx_i32 a
    have hbb := fx_i32 b
    have hNb : N ≤ 2147483648 := by omega
    have hDb : D ≤ 2147483648 := by omega
    have hD0 : 0 < D := by have := fx_ne0 b c6; rw [Int32.toInt_toInt64] at this; omega
    have fn : v31 = lN N := uN_inj (by rw [e31, e30, Int32.toInt_toInt64, ← hN]; exact (wb_tn (n := N) (by omega)).symm)
    have fd : v37 = lN D := uN_inj (by rw [e37, e36, Int32.toInt_toInt64, ← hDx]; exact (wb_tn (n := D) (by omega)).symm)
    refine lp_W (nL := 12) (J := 52) (fun z : Int64 × Int64 × Int32 => [(11, .int z.2.2), (9, .long z.2.1), (7, .long z.1), (5, .long v37), (3, .long v31), (0, .ref h0), (1, .int a), (2, .int b)]) (mq_I N D) (fun n z hI ih ls hl => ?_) 48 (0, 0, 47) (mq_0 hNb hD0) (lv_sub hl [0, 1, 2, 3, 4, 5, 6, 7] rfl)
    obtain ⟨q, rest, k⟩ := z
    obtain ⟨hk, hn, Q, R, hq, hr9, hR, hQ⟩ := hI
    dsimp only at hk hq hr9
    have hQb := mq_big hNb hD0 hQ
    have hl : lv_has ls 12 [(11, .int k), (9, .long rest), (7, .long q), (5, .long v37), (3, .long v31), (0, .ref h0), (1, .int a), (2, .int b)] := hl
    refine lv_iload hx hb d_M_quotient_52 (lv_at hl 0 rfl) ?_
    refine lv_if_lt (tgt := 117) hx hb d_M_quotient_54 (by decide) (fun c54 => ?_) (fun c54 => ?_)
    · skip
      have z := dn_neg (by omega) hk c54
      subst z
      have hQ0 : 65536 * N = Q * D + R := by rw [Nat.pow_zero, Nat.div_one] at hQ; exact hQ
      have hVx := mq_val c6 hN hDx hR hQ0
      refine lv_iload_n hx hb d_M_quotient_117 rfl (lv_at hl 6 rfl) ?_
      refine jn_i (J := 126) (rest := []) (fun v => v = if a.toInt < 0 then 1 else 0) (fun v126 e126 => ?_) (fun K126 => ?_)
      · skip
        refine lv_iload_n hx hb d_M_quotient_126 rfl (lv_at hl 7 rfl) ?_
        refine jn_i (J := 135) (rest := [.int v126]) (fun v => v = if b.toInt < 0 then 1 else 0) (fun v135 e135 => ?_) (fun K135 => ?_)
        · skip
          have hsg := mq_s e126 e135
          refine lv_icmp_eq (tgt := 162) hx hb d_M_quotient_135 (by decide) (fun c135 => ?_) (fun c135 => ?_)
          · skip
            have hV : q.toInt = (65536 * a.toInt).fdiv b.toInt := by first | exact mq_p hVx hq (by omega) (hsg.mp c135) | exact mq_z c6 hN hDx hR hQ0 hq c139
            refine lv_lload hx hb d_M_quotient_162 (lv_at hl 2 rfl) ?_
            refine lv_ldc2 (v := 2147483647) hx hb hown (hts (.constantLong R_M 44 2147483647) (List.mem_cons_of_mem _ (tm (by decide +kernel) rfl))) d_M_quotient_164 ?_
            refine W.lcmp hx hb d_M_quotient_167 ?_
            refine lv_if_le (tgt := 176) hx hb d_M_quotient_168 (by decide) (fun c168 => ?_) (fun c168 => ?_)
            · skip
              have c168 := (lg_cmp_le _ _).mp c168
              refine lv_lload hx hb d_M_quotient_176 (lv_at hl 2 rfl) ?_
              refine lv_ldc2 (v := (-2147483648)) hx hb hown (hts (.constantLong R_M 46 (-2147483648)) (List.mem_cons_of_mem _ (tm (by decide +kernel) rfl))) d_M_quotient_178 ?_
              refine W.lcmp hx hb d_M_quotient_181 ?_
              refine lv_if_ge (tgt := 190) hx hb d_M_quotient_182 (by decide) (fun c182 => ?_) (fun c182 => ?_)
              · skip
                have c182 := (lg_cmp_ge _ _).mp c182
                refine lv_lload hx hb d_M_quotient_190 (lv_at hl 2 rfl) ?_
                refine lv_l2i hx hb d_M_quotient_192 rfl ?_
                refine lv_topi (fun v192 e192 => ?_)
                refine W.iret (v := v192) hx hb hr (fun t ht hW => ⟨⟨_, (0, up, lo, le), rfl, ?_, by rw [ht]; exact hP, va_K.moved hW.alike hK, hD⟩, hS.F ht⟩) hS.2.2 d_M_quotient_193
                show v192.toInt = sp_quot a.toInt b.toInt
                exact mq_fin c6 (cl_3 hV c168 c182 e192)
              · skip
                have c182 := (not_congr (lg_cmp_ge _ _)).mp c182
                refine lv_ldc (v := (-2147483648)) hx hb hown (hts (.constant R_M 43 (-2147483648)) (List.mem_cons_of_mem _ (tm (by decide +kernel) rfl))) d_M_quotient_185 ?_
                refine lv_goto (tgt := 193) hx hb d_M_quotient_187 (by decide) ?_
                refine W.iret (v := (-2147483648)) hx hb hr (fun t ht hW => ⟨⟨_, (0, up, lo, le), rfl, ?_, by rw [ht]; exact hP, va_K.moved hW.alike hK, hD⟩, hS.F ht⟩) hS.2.2 d_M_quotient_193
                show (-2147483648 : Int32).toInt = sp_quot a.toInt b.toInt
                exact mq_fin c6 (cl_2 hV c182)
            · skip
              have c168 := (not_congr (lg_cmp_le _ _)).mp c168
              refine lv_ldc (v := 2147483647) hx hb hown (hts (.constant R_M 42 2147483647) (List.mem_cons_of_mem _ (tm (by decide +kernel) rfl))) d_M_quotient_171 ?_
              refine lv_goto (tgt := 193) hx hb d_M_quotient_173 (by decide) ?_
              refine W.iret (v := 2147483647) hx hb hr (fun t ht hW => ⟨⟨_, (0, up, lo, le), rfl, ?_, by rw [ht]; exact hP, va_K.moved hW.alike hK, hD⟩, hS.F ht⟩) hS.2.2 d_M_quotient_193
              show (2147483647 : Int32).toInt = sp_quot a.toInt b.toInt
              exact mq_fin c6 (cl_1 hV c168)
          · skip
            refine lv_iload_n hx hb d_M_quotient_138 rfl (lv_at hl 6 rfl) ?_
            refine lv_if_eq (tgt := 162) hx hb d_M_quotient_139 (by decide) (fun c139 => ?_) (fun c139 => ?_)
            · skip
              have hV : q.toInt = (65536 * a.toInt).fdiv b.toInt := by first | exact mq_p hVx hq (by omega) (hsg.mp c135) | exact mq_z c6 hN hDx hR hQ0 hq c139
              refine lv_lload hx hb d_M_quotient_162 (lv_at hl 2 rfl) ?_
              refine lv_ldc2 (v := 2147483647) hx hb hown (hts (.constantLong R_M 44 2147483647) (List.mem_cons_of_mem _ (tm (by decide +kernel) rfl))) d_M_quotient_164 ?_
              refine W.lcmp hx hb d_M_quotient_167 ?_
              refine lv_if_le (tgt := 176) hx hb d_M_quotient_168 (by decide) (fun c168 => ?_) (fun c168 => ?_)
              · skip
                have c168 := (lg_cmp_le _ _).mp c168
                refine lv_lload hx hb d_M_quotient_176 (lv_at hl 2 rfl) ?_
                refine lv_ldc2 (v := (-2147483648)) hx hb hown (hts (.constantLong R_M 46 (-2147483648)) (List.mem_cons_of_mem _ (tm (by decide +kernel) rfl))) d_M_quotient_178 ?_
                refine W.lcmp hx hb d_M_quotient_181 ?_
                refine lv_if_ge (tgt := 190) hx hb d_M_quotient_182 (by decide) (fun c182 => ?_) (fun c182 => ?_)
                · skip
                  have c182 := (lg_cmp_ge _ _).mp c182
                  refine lv_lload hx hb d_M_quotient_190 (lv_at hl 2 rfl) ?_
                  refine lv_l2i hx hb d_M_quotient_192 rfl ?_
                  refine lv_topi (fun v192 e192 => ?_)
                  refine W.iret (v := v192) hx hb hr (fun t ht hW => ⟨⟨_, (0, up, lo, le), rfl, ?_, by rw [ht]; exact hP, va_K.moved hW.alike hK, hD⟩, hS.F ht⟩) hS.2.2 d_M_quotient_193
                  show v192.toInt = sp_quot a.toInt b.toInt
                  exact mq_fin c6 (cl_3 hV c168 c182 e192)
                · skip
                  have c182 := (not_congr (lg_cmp_ge _ _)).mp c182
                  refine lv_ldc (v := (-2147483648)) hx hb hown (hts (.constant R_M 43 (-2147483648)) (List.mem_cons_of_mem _ (tm (by decide +kernel) rfl))) d_M_quotient_185 ?_
                  refine lv_goto (tgt := 193) hx hb d_M_quotient_187 (by decide) ?_
                  refine W.iret (v := (-2147483648)) hx hb hr (fun t ht hW => ⟨⟨_, (0, up, lo, le), rfl, ?_, by rw [ht]; exact hP, va_K.moved hW.alike hK, hD⟩, hS.F ht⟩) hS.2.2 d_M_quotient_193
                  show (-2147483648 : Int32).toInt = sp_quot a.toInt b.toInt
                  exact mq_fin c6 (cl_2 hV c182)
              · skip
                have c168 := (not_congr (lg_cmp_le _ _)).mp c168
                refine lv_ldc (v := 2147483647) hx hb hown (hts (.constant R_M 42 2147483647) (List.mem_cons_of_mem _ (tm (by decide +kernel) rfl))) d_M_quotient_171 ?_
                refine lv_goto (tgt := 193) hx hb d_M_quotient_173 (by decide) ?_
                refine W.iret (v := 2147483647) hx hb hr (fun t ht hW => ⟨⟨_, (0, up, lo, le), rfl, ?_, by rw [ht]; exact hP, va_K.moved hW.alike hK, hD⟩, hS.F ht⟩) hS.2.2 d_M_quotient_193
                show (2147483647 : Int32).toInt = sp_quot a.toInt b.toInt
                exact mq_fin c6 (cl_1 hV c168)
            · skip
              refine lv_lload hx hb d_M_quotient_142 (lv_at hl 1 rfl) ?_
              refine lv_lconst (v := 0) hx hb d_M_quotient_144 (by decide) ?_
              refine W.lcmp hx hb d_M_quotient_145 ?_
              refine lv_if_le (tgt := 157) hx hb d_M_quotient_146 (by decide) (fun c146 => ?_) (fun c146 => ?_)
              · skip
                have c146 := (lg_cmp_le _ _).mp c146
                refine lv_lload hx hb d_M_quotient_157 (lv_at hl 2 rfl) ?_
                refine lv_lneg hx hb d_M_quotient_159 ?_
                refine lv_topl (fun v159 e159 => ?_)
                refine lv_lstore (lv' := [(7, .long v159), (11, .int k), (9, .long rest), (5, .long v37), (3, .long v31), (0, .ref h0), (1, .int a), (2, .int b)]) hx hb d_M_quotient_160 hl (by decide) rfl (fun ls hl => ?_)
                have hV : v159.toInt = (65536 * a.toInt).fdiv b.toInt := by exact mq_n0 hVx hq hQb hr9 (by omega) (fun z => c135 (hsg.mpr z)) c146 e159
                refine lv_lload hx hb d_M_quotient_162 (lv_at hl 0 rfl) ?_
                refine lv_ldc2 (v := 2147483647) hx hb hown (hts (.constantLong R_M 44 2147483647) (List.mem_cons_of_mem _ (tm (by decide +kernel) rfl))) d_M_quotient_164 ?_
                refine W.lcmp hx hb d_M_quotient_167 ?_
                refine lv_if_le (tgt := 176) hx hb d_M_quotient_168 (by decide) (fun c168 => ?_) (fun c168 => ?_)
                · skip
                  have c168 := (lg_cmp_le _ _).mp c168
                  refine lv_lload hx hb d_M_quotient_176 (lv_at hl 0 rfl) ?_
                  refine lv_ldc2 (v := (-2147483648)) hx hb hown (hts (.constantLong R_M 46 (-2147483648)) (List.mem_cons_of_mem _ (tm (by decide +kernel) rfl))) d_M_quotient_178 ?_
                  refine W.lcmp hx hb d_M_quotient_181 ?_
                  refine lv_if_ge (tgt := 190) hx hb d_M_quotient_182 (by decide) (fun c182 => ?_) (fun c182 => ?_)
                  · skip
                    have c182 := (lg_cmp_ge _ _).mp c182
                    refine lv_lload hx hb d_M_quotient_190 (lv_at hl 0 rfl) ?_
                    refine lv_l2i hx hb d_M_quotient_192 rfl ?_
                    refine lv_topi (fun v192 e192 => ?_)
                    refine W.iret (v := v192) hx hb hr (fun t ht hW => ⟨⟨_, (0, up, lo, le), rfl, ?_, by rw [ht]; exact hP, va_K.moved hW.alike hK, hD⟩, hS.F ht⟩) hS.2.2 d_M_quotient_193
                    show v192.toInt = sp_quot a.toInt b.toInt
                    exact mq_fin c6 (cl_3 hV c168 c182 e192)
                  · skip
                    have c182 := (not_congr (lg_cmp_ge _ _)).mp c182
                    refine lv_ldc (v := (-2147483648)) hx hb hown (hts (.constant R_M 43 (-2147483648)) (List.mem_cons_of_mem _ (tm (by decide +kernel) rfl))) d_M_quotient_185 ?_
                    refine lv_goto (tgt := 193) hx hb d_M_quotient_187 (by decide) ?_
                    refine W.iret (v := (-2147483648)) hx hb hr (fun t ht hW => ⟨⟨_, (0, up, lo, le), rfl, ?_, by rw [ht]; exact hP, va_K.moved hW.alike hK, hD⟩, hS.F ht⟩) hS.2.2 d_M_quotient_193
                    show (-2147483648 : Int32).toInt = sp_quot a.toInt b.toInt
                    exact mq_fin c6 (cl_2 hV c182)
                · skip
                  have c168 := (not_congr (lg_cmp_le _ _)).mp c168
                  refine lv_ldc (v := 2147483647) hx hb hown (hts (.constant R_M 42 2147483647) (List.mem_cons_of_mem _ (tm (by decide +kernel) rfl))) d_M_quotient_171 ?_
                  refine lv_goto (tgt := 193) hx hb d_M_quotient_173 (by decide) ?_
                  refine W.iret (v := 2147483647) hx hb hr (fun t ht hW => ⟨⟨_, (0, up, lo, le), rfl, ?_, by rw [ht]; exact hP, va_K.moved hW.alike hK, hD⟩, hS.F ht⟩) hS.2.2 d_M_quotient_193
                  show (2147483647 : Int32).toInt = sp_quot a.toInt b.toInt
                  exact mq_fin c6 (cl_1 hV c168)
              · skip
                have c146 := (not_congr (lg_cmp_le _ _)).mp c146
                refine lv_lload hx hb d_M_quotient_149 (lv_at hl 2 rfl) ?_
                refine lv_lneg hx hb d_M_quotient_151 ?_
                refine lv_topl (fun v151 e151 => ?_)
                refine lv_lconst (v := 1) hx hb d_M_quotient_152 (by decide) ?_
                refine lv_lsub hx hb d_M_quotient_153 ?_
                refine lv_topl (fun v153 e153 => ?_)
                refine lv_goto (tgt := 160) hx hb d_M_quotient_154 (by decide) ?_
                refine lv_lstore (lv' := [(7, .long v153), (11, .int k), (9, .long rest), (5, .long v37), (3, .long v31), (0, .ref h0), (1, .int a), (2, .int b)]) hx hb d_M_quotient_160 hl (by decide) rfl (fun ls hl => ?_)
                have hV : v153.toInt = (65536 * a.toInt).fdiv b.toInt := by exact mq_n1 hVx hq hQb hr9 (by omega) (fun z => c135 (hsg.mpr z)) c146 e151 e153
                refine lv_lload hx hb d_M_quotient_162 (lv_at hl 0 rfl) ?_
                refine lv_ldc2 (v := 2147483647) hx hb hown (hts (.constantLong R_M 44 2147483647) (List.mem_cons_of_mem _ (tm (by decide +kernel) rfl))) d_M_quotient_164 ?_
                refine W.lcmp hx hb d_M_quotient_167 ?_
                refine lv_if_le (tgt := 176) hx hb d_M_quotient_168 (by decide) (fun c168 => ?_) (fun c168 => ?_)
                · skip
                  have c168 := (lg_cmp_le _ _).mp c168
                  refine lv_lload hx hb d_M_quotient_176 (lv_at hl 0 rfl) ?_
                  refine lv_ldc2 (v := (-2147483648)) hx hb hown (hts (.constantLong R_M 46 (-2147483648)) (List.mem_cons_of_mem _ (tm (by decide +kernel) rfl))) d_M_quotient_178 ?_
                  refine W.lcmp hx hb d_M_quotient_181 ?_
                  refine lv_if_ge (tgt := 190) hx hb d_M_quotient_182 (by decide) (fun c182 => ?_) (fun c182 => ?_)
                  · skip
                    have c182 := (lg_cmp_ge _ _).mp c182
                    refine lv_lload hx hb d_M_quotient_190 (lv_at hl 0 rfl) ?_
                    refine lv_l2i hx hb d_M_quotient_192 rfl ?_
                    refine lv_topi (fun v192 e192 => ?_)
                    refine W.iret (v := v192) hx hb hr (fun t ht hW => ⟨⟨_, (0, up, lo, le), rfl, ?_, by rw [ht]; exact hP, va_K.moved hW.alike hK, hD⟩, hS.F ht⟩) hS.2.2 d_M_quotient_193
                    show v192.toInt = sp_quot a.toInt b.toInt
                    exact mq_fin c6 (cl_3 hV c168 c182 e192)
                  · skip
                    have c182 := (not_congr (lg_cmp_ge _ _)).mp c182
                    refine lv_ldc (v := (-2147483648)) hx hb hown (hts (.constant R_M 43 (-2147483648)) (List.mem_cons_of_mem _ (tm (by decide +kernel) rfl))) d_M_quotient_185 ?_
                    refine lv_goto (tgt := 193) hx hb d_M_quotient_187 (by decide) ?_
                    refine W.iret (v := (-2147483648)) hx hb hr (fun t ht hW => ⟨⟨_, (0, up, lo, le), rfl, ?_, by rw [ht]; exact hP, va_K.moved hW.alike hK, hD⟩, hS.F ht⟩) hS.2.2 d_M_quotient_193
                    show (-2147483648 : Int32).toInt = sp_quot a.toInt b.toInt
                    exact mq_fin c6 (cl_2 hV c182)
                · skip
                  have c168 := (not_congr (lg_cmp_le _ _)).mp c168
                  refine lv_ldc (v := 2147483647) hx hb hown (hts (.constant R_M 42 2147483647) (List.mem_cons_of_mem _ (tm (by decide +kernel) rfl))) d_M_quotient_171 ?_
                  refine lv_goto (tgt := 193) hx hb d_M_quotient_173 (by decide) ?_
                  refine W.iret (v := 2147483647) hx hb hr (fun t ht hW => ⟨⟨_, (0, up, lo, le), rfl, ?_, by rw [ht]; exact hP, va_K.moved hW.alike hK, hD⟩, hS.F ht⟩) hS.2.2 d_M_quotient_193
                  show (2147483647 : Int32).toInt = sp_quot a.toInt b.toInt
                  exact mq_fin c6 (cl_1 hV c168)
        · skip
          refine lv_if_ge (tgt := 134) hx hb d_M_quotient_127 (by decide) (fun c127 => ?_) (fun c127 => ?_)
          · skip
            refine lv_iconst (v := 0) hx hb d_M_quotient_134 (by decide) ?_
            exact K135 _ (by first | exact mq_sg0 c127 | exact mq_sg1 c127)
          · skip
            refine lv_iconst (v := 1) hx hb d_M_quotient_130 (by decide) ?_
            refine lv_goto (tgt := 135) hx hb d_M_quotient_131 (by decide) ?_
            exact K135 _ (by first | exact mq_sg0 c127 | exact mq_sg1 c127)
      · skip
        refine lv_if_ge (tgt := 125) hx hb d_M_quotient_118 (by decide) (fun c118 => ?_) (fun c118 => ?_)
        · skip
          refine lv_iconst (v := 0) hx hb d_M_quotient_125 (by decide) ?_
          exact K126 _ (by first | exact mq_sg0 c118 | exact mq_sg1 c118)
        · skip
          refine lv_iconst (v := 1) hx hb d_M_quotient_121 (by decide) ?_
          refine lv_goto (tgt := 126) hx hb d_M_quotient_122 (by decide) ?_
          exact K126 _ (by first | exact mq_sg0 c118 | exact mq_sg1 c118)
    · skip
      obtain ⟨j, rfl, hkj⟩ := dn_nn (by omega) hk c54
      refine lv_lload hx hb d_M_quotient_57 (lv_at hl 1 rfl) ?_
      refine lv_iconst (v := 1) hx hb d_M_quotient_59 (by decide) ?_
      refine lv_lshl hx hb d_M_quotient_60 rfl ?_
      refine lv_topl (fun v60 e60 => ?_)
      refine lv_iload hx hb d_M_quotient_61 (lv_at hl 0 rfl) ?_
      refine lv_bipush (v := 15) hx hb d_M_quotient_63 (by decide) ?_
      refine jn_l (J := 81) (rest := [.long v60]) (fun v => v = lN (mq_bit N j)) (fun v81 e81 => ?_) (fun K81 => ?_)
      · skip
        have e81x := e81
        have hbit : mq_bit N j < 2 := Nat.mod_lt _ (by decide)
        refine lv_lor hx hb d_M_quotient_81 ?_
        refine lv_topl (fun v81 e81 => ?_)
        have f81 := mq_rest hr9 (by omega) hbit e81x e60 e81
        refine lv_lstore (lv' := [(9, .long v81), (11, .int k), (7, .long q), (5, .long v37), (3, .long v31), (0, .ref h0), (1, .int a), (2, .int b)]) hx hb d_M_quotient_82 hl (by decide) rfl (fun ls hl => ?_)
        refine lv_lload hx hb d_M_quotient_84 (lv_at hl 2 rfl) ?_
        refine lv_iconst (v := 1) hx hb d_M_quotient_86 (by decide) ?_
        refine lv_lshl hx hb d_M_quotient_87 rfl ?_
        refine lv_topl (fun v87 e87 => ?_)
        have f87 := mq_q hq hQb e87
        refine lv_lstore (lv' := [(7, .long v87), (9, .long v81), (11, .int k), (5, .long v37), (3, .long v31), (0, .ref h0), (1, .int a), (2, .int b)]) hx hb d_M_quotient_88 hl (by decide) rfl (fun ls hl => ?_)
        refine lv_lload hx hb d_M_quotient_90 (lv_at hl 1 rfl) ?_
        refine lv_lload hx hb d_M_quotient_92 (lv_at hl 3 rfl) ?_
        refine W.lcmp hx hb d_M_quotient_94 ?_
        refine lv_if_lt (tgt := 111) hx hb d_M_quotient_95 (by decide) (fun c95 => ?_) (fun c95 => ?_)
        · skip
          have c95 := (lg_cmp_lt _ _).mp c95
          have cx : 2 * R + mq_bit N j < D := by rw [f81, fd, pk_lLT (by omega) (by omega)] at c95; exact c95
          obtain ⟨v111, e111⟩ : ∃ y : Int32, y = k + Int32.ofInt (-1) := ⟨_, rfl⟩
          refine lv_iinc (v := v111) (lv' := [(11, .int v111), (7, .long v87), (9, .long v81), (5, .long v37), (3, .long v31), (0, .ref h0), (1, .int a), (2, .int b)]) hx hb d_M_quotient_111 hl (k := 2) rfl (by rw [e111]) (by decide) rfl (fun ls hl => ?_)
          refine lv_goto (tgt := 52) hx hb d_M_quotient_114 (by decide) ?_
          exact ih _ (v87, v81, v111) (Nat.lt_succ_self _) (mq_a hkj hn hQ f81 f87.1 cx e111) _ (lv_sub hl [0, 2, 1, 3, 4, 5, 6, 7] rfl)
        · skip
          have c95 := (not_congr (lg_cmp_lt _ _)).mp c95
          have cx : ¬ 2 * R + mq_bit N j < D := fun z => c95 (by rw [f81, fd, pk_lLT (by omega) (by omega)]; exact z)
          refine lv_lload hx hb d_M_quotient_98 (lv_at hl 1 rfl) ?_
          refine lv_lload hx hb d_M_quotient_100 (lv_at hl 3 rfl) ?_
          refine lv_lsub hx hb d_M_quotient_102 ?_
          refine lv_topl (fun v102 e102 => ?_)
          refine lv_lstore (lv' := [(9, .long v102), (7, .long v87), (11, .int k), (5, .long v37), (3, .long v31), (0, .ref h0), (1, .int a), (2, .int b)]) hx hb d_M_quotient_103 hl (by decide) rfl (fun ls hl => ?_)
          refine lv_lload hx hb d_M_quotient_105 (lv_at hl 1 rfl) ?_
          refine lv_lconst (v := 1) hx hb d_M_quotient_107 (by decide) ?_
          refine lv_lor hx hb d_M_quotient_108 ?_
          refine lv_topl (fun v108 e108 => ?_)
          refine lv_lstore (lv' := [(7, .long v108), (9, .long v102), (11, .int k), (5, .long v37), (3, .long v31), (0, .ref h0), (1, .int a), (2, .int b)]) hx hb d_M_quotient_109 hl (by decide) rfl (fun ls hl => ?_)
          obtain ⟨v111, e111⟩ : ∃ y : Int32, y = k + Int32.ofInt (-1) := ⟨_, rfl⟩
          refine lv_iinc (v := v111) (lv' := [(11, .int v111), (7, .long v108), (9, .long v102), (5, .long v37), (3, .long v31), (0, .ref h0), (1, .int a), (2, .int b)]) hx hb d_M_quotient_111 hl (k := 2) rfl (by rw [e111]) (by decide) rfl (fun ls hl => ?_)
          refine lv_goto (tgt := 52) hx hb d_M_quotient_114 (by decide) ?_
          exact ih _ (v108, v102, v111) (Nat.lt_succ_self _) (mq_b hkj hn hR hQ fd f81 (by rw [e108]; exact f87.2) cx e102 e111) _ (lv_sub hl [0, 2, 1, 3, 4, 5, 6, 7] rfl)
      · skip
        refine lv_icmp_le (tgt := 80) hx hb d_M_quotient_65 (by decide) (fun c65 => ?_) (fun c65 => ?_)
        · skip
          refine lv_lconst (v := 0) hx hb d_M_quotient_80 (by decide) ?_
          exact K81 _ (by first | exact mq_hi fn hNb hkj (by omega) c65 e73 e74 e76 | exact mq_lo hkj (by omega) c65)
        · skip
          refine lv_lload_n hx hb d_M_quotient_68 rfl (lv_at hl 4 rfl) ?_
          refine lv_iload hx hb d_M_quotient_69 (lv_at hl 0 rfl) ?_
          refine lv_bipush (v := 16) hx hb d_M_quotient_71 (by decide) ?_
          refine lv_isub hx hb d_M_quotient_73 ?_
          refine lv_topi (fun v73 e73 => ?_)
          refine lv_lshr hx hb d_M_quotient_74 rfl ?_
          refine lv_topl (fun v74 e74 => ?_)
          refine lv_lconst (v := 1) hx hb d_M_quotient_75 (by decide) ?_
          refine lv_land hx hb d_M_quotient_76 ?_
          refine lv_topl (fun v76 e76 => ?_)
          refine lv_goto (tgt := 81) hx hb d_M_quotient_77 (by decide) ?_
          exact K81 _ (by first | exact mq_hi fn hNb hkj (by omega) c65 e73 e74 e76 | exact mq_lo hkj (by omega) c65)
  · skip
    refine lv_iload_n hx hb d_M_quotient_9 rfl (lv_at hl 1 rfl) ?_
    refine lv_if_le (tgt := 18) hx hb d_M_quotient_10 (by decide) (fun c10 => ?_) (fun c10 => ?_)
    · skip
      refine lv_iload_n hx hb d_M_quotient_18 rfl (lv_at hl 1 rfl) ?_
      refine lv_if_ge (tgt := 27) hx hb d_M_quotient_19 (by decide) (fun c19 => ?_) (fun c19 => ?_)
      · skip
        refine lv_iconst (v := 0) hx hb d_M_quotient_27 (by decide) ?_
        refine W.iret (v := 0) hx hb hr (fun t ht hW => ⟨⟨_, (0, up, lo, le), rfl, ?_, by rw [ht]; exact hP, va_K.moved hW.alike hK, hD⟩, hS.F ht⟩) hS.2.2 d_M_quotient_28
        show (0 : Int32).toInt = sp_quot a.toInt b.toInt
        exact fx_q00 a b c6 c10 c19
      · skip
        refine lv_ldc (v := (-2147483648)) hx hb hown (hts (.constant R_M 43 (-2147483648)) (List.mem_cons_of_mem _ (tm (by decide +kernel) rfl))) d_M_quotient_22 ?_
        refine lv_goto (tgt := 28) hx hb d_M_quotient_24 (by decide) ?_
        refine W.iret (v := (-2147483648)) hx hb hr (fun t ht hW => ⟨⟨_, (0, up, lo, le), rfl, ?_, by rw [ht]; exact hP, va_K.moved hW.alike hK, hD⟩, hS.F ht⟩) hS.2.2 d_M_quotient_28
        show (-2147483648 : Int32).toInt = sp_quot a.toInt b.toInt
        exact fx_q0n a b c6 c19
    · skip
      refine lv_ldc (v := 2147483647) hx hb hown (hts (.constant R_M 42 2147483647) (List.mem_cons_of_mem _ (tm (by decide +kernel) rfl))) d_M_quotient_13 ?_
      refine lv_goto (tgt := 28) hx hb d_M_quotient_15 (by decide) ?_
      refine W.iret (v := 2147483647) hx hb hr (fun t ht hW => ⟨⟨_, (0, up, lo, le), rfl, ?_, by rw [ht]; exact hP, va_K.moved hW.alike hK, hD⟩, hS.F ht⟩) hS.2.2 d_M_quotient_28
      show (2147483647 : Int32).toInt = sp_quot a.toInt b.toInt
      exact fx_q0p a b c6 c10
set_option maxHeartbeats 4000000 in
set_option maxRecDepth 100000 in
theorem c_M_fromHalf (l : Launch) (dC : Nat → ClassId) (dI : Nat → Nat → Nat) (h0 sz : Nat) (th : Int32) (up lo le : Int64) (h : Int32)  : Met l y_M_fromHalf w_M_fromHalf ({ frames := 1, cells := 0, slots := 0, locals := 30 }) (va_Pc [.ref h0, .int h] (fun U => U.heap.size = sz ∧ va_P (dC, dI) classes [(h0, .inr (1, [.int th, .long up, .long lo, .long le]))] U.heap ∧ va_K (dC, dI) classes [] U ∧ va_D (fun _ => True) [(h0, .inr (1, [.int th, .long up, .long lo, .long le]))])) (va_Qi (fun (r : Int32) (u : MS) => r.toInt = sp_fh h.toBitVec.toNat) (at_M dC dI (va_A [(h0, .inr (1, [.int th, .long up, .long lo, .long le]))] sz) h0) (va_A [(h0, .inr (1, [.int th, .long up, .long lo, .long le]))] sz)) 0 0 (va_A [(h0, .inr (1, [.int th, .long up, .long lo, .long le]))] sz) := by
  refine Met.ofW (cc := b_M_fromHalf) (maxL := 7) (ret := some .int) (by decide) rfl ?_
  intro p e s m args below meth c s₁ B hml hv
  obtain ⟨rfl, hsz, hP, hK, hD0⟩ := hv
  have hx := B.exec
  have hb := B.bytes
  have hr := B.returns
  have hts := atoms_spec (ws := w_M_fromHalf) B.pre
  have hown : s.vm.findClass R_M = some m.cls := findClass_of_methodNamed B.named
  have hlocks := B.notSynchronized
  subst hsz
  have hD := hD0.self (sz := s.heap.size)
  generalize hAe : va_A [(h0, .inr (1, [.int th, .long up, .long lo, .long le]))] s.heap.size = A at hD ⊢
  have hA : ∀ q : Nat, s.heap.size ≤ q → A q := fun q h => by rw [← hAe]; exact Or.inr h
  have hS : va_S A s.heap s.heap [] := va_S.rf
  have hP : va_P (dC, dI) classes [(h0, .inr (1, [.int th, .long up, .long lo, .long le]))] s.heap := hP
  have hl := lv_entry ([.ref h0, .int h]) (n := 7) (Nat.le_of_ble_eq_true rfl)
  rw [lg_entry_eq]
  generalize (lg_sl ([.ref h0, .int h]) ++ List.replicate (7 - (lg_sl ([.ref h0, .int h])).length) Slot.unset).toArray = ls at hl ⊢
  have hl : lv_has ls 7 [(0, .ref h0), (1, .int h)] := hl
  refine lv_aload_n hx hb d_M_fromHalf_0 rfl (lv_at hl 0 rfl) ?_
  refine lv_iconst (v := 0) hx hb d_M_fromHalf_1 (by decide) ?_
  refine va_put (D := (dC, dI)) (ci := 1) (v := .int 0) (ty := .int) (C := R_M) (T := F_M) (N := 4) hx hb hts (fun w h => List.mem_cons_of_mem _ (i_M w h)) t_M t_M_ok n_M hown hK hP hD hS 0 rfl rfl 0 (by decide) (hts (.fieldLink R_M 7 R_M "thrown" "I") (List.mem_cons_of_mem _ (tm (by decide +kernel) rfl))) (fun _ h9 => h9) rfl (by decide +kernel) rfl rfl (Nat.le_of_ble_eq_true rfl) d_M_fromHalf_2 (fun H locs hP hD hS => ?_)
  have hP : va_P (dC, dI) classes [(h0, .inr (1, [.int 0, .long up, .long lo, .long le]))] H := hP
  have hD : va_D A [(h0, .inr (1, [.int 0, .long up, .long lo, .long le]))] := hD
  refine lv_iload_n hx hb d_M_fromHalf_5 rfl (lv_at hl 1 rfl) ?_
  refine lv_bipush (v := 15) hx hb d_M_fromHalf_6 (by decide) ?_
  refine lv_ishr hx hb d_M_fromHalf_8 ?_
  refine lv_topi (fun v8 e8 => ?_)
  refine lv_iconst (v := 1) hx hb d_M_fromHalf_9 (by decide) ?_
  refine lv_iand hx hb d_M_fromHalf_10 ?_
  refine lv_topi (fun v10 e10 => ?_)
  refine lv_iconst (v := 1) hx hb d_M_fromHalf_11 (by decide) ?_
  refine jn_i (J := 20) (rest := []) (fun v => v = if v10 = 1 then 1 else 0) (fun v20 e20 => ?_) (fun K20 => ?_)
  · skip
    refine lv_istore_n (lv' := [(2, .int v20), (0, .ref h0), (1, .int h)]) hx hb d_M_fromHalf_20 rfl hl (by decide) rfl (fun ls hl => ?_)
    have f20 := mh_20 (mh_s e8 e10) e20
    refine lv_iload_n hx hb d_M_fromHalf_21 rfl (lv_at hl 2 rfl) ?_
    refine lv_bipush (v := 10) hx hb d_M_fromHalf_22 (by decide) ?_
    refine lv_ishr hx hb d_M_fromHalf_24 ?_
    refine lv_topi (fun v24 e24 => ?_)
    refine lv_bipush (v := 31) hx hb d_M_fromHalf_25 (by decide) ?_
    refine lv_iand hx hb d_M_fromHalf_27 ?_
    refine lv_topi (fun v27 e27 => ?_)
    have f27 := fh_e h v24 v27 e24 e27
    refine lv_bipush (v := 31) hx hb d_M_fromHalf_28 (by decide) ?_
    refine lv_icmp_ne (tgt := 57) hx hb d_M_fromHalf_30 (by decide) (fun c30 => ?_) (fun c30 => ?_)
    · skip
      refine lv_iload_n hx hb d_M_fromHalf_57 rfl (lv_at hl 0 rfl) ?_
      refine jn_l (J := 73) (rest := []) (fun v => v.toInt * 2 = sp_hZ h.toBitVec.toNat * 2 ^ (max (h.toBitVec.toNat / 1024 % 32) 1)) (fun v73 e73 => ?_) (fun K73 => ?_)
      · skip
        refine lv_lstore_n (lv' := [(3, .long v73), (2, .int v20), (0, .ref h0), (1, .int h)]) hx hb d_M_fromHalf_73 rfl hl (by decide) rfl (fun ls hl => ?_)
        refine lv_lload_n hx hb d_M_fromHalf_74 rfl (lv_at hl 0 rfl) ?_
        refine lv_bipush (v := 8) hx hb d_M_fromHalf_75 (by decide) ?_
        refine lv_lshr hx hb d_M_fromHalf_77 rfl ?_
        refine lv_topl (fun v77 e77 => ?_)
        have hV := mh_sh e73 e77
        refine lv_lstore (lv' := [(5, .long v77), (3, .long v73), (2, .int v20), (0, .ref h0), (1, .int h)]) hx hb d_M_fromHalf_78 hl (by decide) rfl (fun ls hl => ?_)
        refine lv_lload hx hb d_M_fromHalf_80 (lv_at hl 0 rfl) ?_
        refine lv_ldc2 (v := 2147483647) hx hb hown (hts (.constantLong R_M 44 2147483647) (List.mem_cons_of_mem _ (tm (by decide +kernel) rfl))) d_M_fromHalf_82 ?_
        refine W.lcmp hx hb d_M_fromHalf_85 ?_
        refine lv_if_le (tgt := 94) hx hb d_M_fromHalf_86 (by decide) (fun c86 => ?_) (fun c86 => ?_)
        · skip
          have c86 := (lg_cmp_le _ _).mp c86
          refine lv_lload hx hb d_M_fromHalf_94 (lv_at hl 0 rfl) ?_
          refine lv_ldc2 (v := (-2147483648)) hx hb hown (hts (.constantLong R_M 46 (-2147483648)) (List.mem_cons_of_mem _ (tm (by decide +kernel) rfl))) d_M_fromHalf_96 ?_
          refine W.lcmp hx hb d_M_fromHalf_99 ?_
          refine lv_if_ge (tgt := 108) hx hb d_M_fromHalf_100 (by decide) (fun c100 => ?_) (fun c100 => ?_)
          · skip
            have c100 := (lg_cmp_ge _ _).mp c100
            refine lv_lload hx hb d_M_fromHalf_108 (lv_at hl 0 rfl) ?_
            refine lv_l2i hx hb d_M_fromHalf_110 rfl ?_
            refine lv_topi (fun v110 e110 => ?_)
            refine W.iret (v := v110) hx hb hr (fun t ht hW => ⟨⟨_, (0, up, lo, le), rfl, ?_, by rw [ht]; exact hP, va_K.moved hW.alike hK, hD⟩, hS.F ht⟩) hS.2.2 d_M_fromHalf_111
            show v110.toInt = sp_fh h.toBitVec.toNat
            exact by rw [sp_fh, if_neg (fun z => c30 ((fh_31 f27).mpr z)), sp_cut]; exact cl_3 hV c86 c100 e110
          · skip
            have c100 := (not_congr (lg_cmp_ge _ _)).mp c100
            refine lv_ldc (v := (-2147483648)) hx hb hown (hts (.constant R_M 43 (-2147483648)) (List.mem_cons_of_mem _ (tm (by decide +kernel) rfl))) d_M_fromHalf_103 ?_
            refine lv_goto (tgt := 111) hx hb d_M_fromHalf_105 (by decide) ?_
            refine W.iret (v := (-2147483648)) hx hb hr (fun t ht hW => ⟨⟨_, (0, up, lo, le), rfl, ?_, by rw [ht]; exact hP, va_K.moved hW.alike hK, hD⟩, hS.F ht⟩) hS.2.2 d_M_fromHalf_111
            show (-2147483648 : Int32).toInt = sp_fh h.toBitVec.toNat
            exact by rw [sp_fh, if_neg (fun z => c30 ((fh_31 f27).mpr z)), sp_cut]; exact cl_2 hV c100
        · skip
          have c86 := (not_congr (lg_cmp_le _ _)).mp c86
          refine lv_ldc (v := 2147483647) hx hb hown (hts (.constant R_M 42 2147483647) (List.mem_cons_of_mem _ (tm (by decide +kernel) rfl))) d_M_fromHalf_89 ?_
          refine lv_goto (tgt := 111) hx hb d_M_fromHalf_91 (by decide) ?_
          refine W.iret (v := 2147483647) hx hb hr (fun t ht hW => ⟨⟨_, (0, up, lo, le), rfl, ?_, by rw [ht]; exact hP, va_K.moved hW.alike hK, hD⟩, hS.F ht⟩) hS.2.2 d_M_fromHalf_111
          show (2147483647 : Int32).toInt = sp_fh h.toBitVec.toNat
          exact by rw [sp_fh, if_neg (fun z => c30 ((fh_31 f27).mpr z)), sp_cut]; exact cl_1 hV c86
      · skip
        refine lv_if_eq (tgt := 69) hx hb d_M_fromHalf_58 (by decide) (fun c58 => ?_) (fun c58 => ?_)
        · skip
          refine lv_iload_n hx hb d_M_fromHalf_69 rfl (lv_at hl 2 rfl) ?_
          refine vp_callSl (W.runS (As := [.int h]) (rest := []) ⟨hx, hb, hml, hown, hts⟩ (c_M_scaled l h ) (cwS 1 hts g_M_65 rfl rfl rfl (by decide +kernel) ⟨Nat.le_of_ble_eq_true rfl, Nat.le_of_ble_eq_true rfl⟩) preEq rfl rfl hl.1 rfl (lv_room (Nat.le_of_ble_eq_true rfl)) d_M_fromHalf_70 ⟨Nat.zero_le _, Nat.zero_le _⟩) (fun v70 e70 => ?_)
          try dsimp only at e70
          exact K73 _ (by first | exact mh_v0 f20 e70 c58 rfl | exact mh_v1 f20 e62 c58 e65)
        · skip
          refine lv_iload_n hx hb d_M_fromHalf_61 rfl (lv_at hl 2 rfl) ?_
          refine vp_callSl (W.runS (As := [.int h]) (rest := []) ⟨hx, hb, hml, hown, hts⟩ (c_M_scaled l h ) (cwS 1 hts g_M_65 rfl rfl rfl (by decide +kernel) ⟨Nat.le_of_ble_eq_true rfl, Nat.le_of_ble_eq_true rfl⟩) preEq rfl rfl hl.1 rfl (lv_room (Nat.le_of_ble_eq_true rfl)) d_M_fromHalf_62 ⟨Nat.zero_le _, Nat.zero_le _⟩) (fun v62 e62 => ?_)
          try dsimp only at e62
          refine lv_lneg hx hb d_M_fromHalf_65 ?_
          refine lv_topl (fun v65 e65 => ?_)
          refine lv_goto (tgt := 73) hx hb d_M_fromHalf_66 (by decide) ?_
          exact K73 _ (by first | exact mh_v0 f20 e70 c58 rfl | exact mh_v1 f20 e62 c58 e65)
    · skip
      refine lv_iload_n hx hb d_M_fromHalf_33 rfl (lv_at hl 2 rfl) ?_
      refine lv_sipush (v := 1023) hx hb d_M_fromHalf_34 (by decide) ?_
      refine lv_iand hx hb d_M_fromHalf_37 ?_
      refine lv_topi (fun v37 e37 => ?_)
      have f37 := fh_f h v37 e37
      refine lv_if_le (tgt := 45) hx hb d_M_fromHalf_38 (by decide) (fun c38 => ?_) (fun c38 => ?_)
      · skip
        refine lv_iload_n hx hb d_M_fromHalf_45 rfl (lv_at hl 0 rfl) ?_
        refine lv_if_eq (tgt := 54) hx hb d_M_fromHalf_46 (by decide) (fun c46 => ?_) (fun c46 => ?_)
        · skip
          refine lv_ldc (v := 2147483647) hx hb hown (hts (.constant R_M 42 2147483647) (List.mem_cons_of_mem _ (tm (by decide +kernel) rfl))) d_M_fromHalf_54 ?_
          refine W.iret (v := 2147483647) hx hb hr (fun t ht hW => ⟨⟨_, (0, up, lo, le), rfl, ?_, by rw [ht]; exact hP, va_K.moved hW.alike hK, hD⟩, hS.F ht⟩) hS.2.2 d_M_fromHalf_56
          show (2147483647 : Int32).toInt = sp_fh h.toBitVec.toNat
          exact by rw [sp_fh, if_pos ((fh_31 f27).mp c30), if_pos ((mh_f f37).mp c38), if_pos (f20.mp c46)]; decide
        · skip
          refine lv_ldc (v := (-2147483648)) hx hb hown (hts (.constant R_M 43 (-2147483648)) (List.mem_cons_of_mem _ (tm (by decide +kernel) rfl))) d_M_fromHalf_49 ?_
          refine lv_goto (tgt := 56) hx hb d_M_fromHalf_51 (by decide) ?_
          refine W.iret (v := (-2147483648)) hx hb hr (fun t ht hW => ⟨⟨_, (0, up, lo, le), rfl, ?_, by rw [ht]; exact hP, va_K.moved hW.alike hK, hD⟩, hS.F ht⟩) hS.2.2 d_M_fromHalf_56
          show (-2147483648 : Int32).toInt = sp_fh h.toBitVec.toNat
          exact by rw [sp_fh, if_pos ((fh_31 f27).mp c30), if_pos ((mh_f f37).mp c38), if_neg (fun z => c46 (f20.mpr z))]; decide
      · skip
        refine lv_iconst (v := 0) hx hb d_M_fromHalf_41 (by decide) ?_
        refine lv_goto (tgt := 56) hx hb d_M_fromHalf_42 (by decide) ?_
        refine W.iret (v := 0) hx hb hr (fun t ht hW => ⟨⟨_, (0, up, lo, le), rfl, ?_, by rw [ht]; exact hP, va_K.moved hW.alike hK, hD⟩, hS.F ht⟩) hS.2.2 d_M_fromHalf_56
        show (0 : Int32).toInt = sp_fh h.toBitVec.toNat
        exact by rw [sp_fh, if_pos ((fh_31 f27).mp c30), if_neg (fun z => c38 ((mh_f f37).mpr z))]; decide
  · skip
    refine lv_icmp_ne (tgt := 19) hx hb d_M_fromHalf_12 (by decide) (fun c12 => ?_) (fun c12 => ?_)
    · skip
      refine lv_iconst (v := 0) hx hb d_M_fromHalf_19 (by decide) ?_
      exact K20 _ (by first | (rw [if_pos c12]) | (rw [if_neg c12]))
    · skip
      refine lv_iconst (v := 1) hx hb d_M_fromHalf_15 (by decide) ?_
      refine lv_goto (tgt := 20) hx hb d_M_fromHalf_16 (by decide) ?_
      exact K20 _ (by first | (rw [if_pos c12]) | (rw [if_neg c12]))
end
section
/-! the reference's 128 bits: multiply, divide, exact -/
def mm_I (a b : Int64) (n : Nat) (z : Int64 × Int64 × Int32) : Prop := z.2.2 = dn n ∧ n ≤ 64 ∧ uN z.1 * 18446744073709551616 + uN z.2.1 = uN a * (uN b / 2 ^ n)
theorem mm_0 (a b : Int64) : mm_I a b 64 (0, 0, 63) := ⟨show (63 : Int32) = dn 64 by decide, by decide, by
  have h : uN b / 2 ^ 64 = 0 := Nat.div_eq_of_lt (uN_lt b)
  show uN 0 * 18446744073709551616 + uN 0 = uN a * (uN b / 2 ^ 64)
  rw [h, Nat.mul_zero]
  decide⟩
theorem mm_sh {up lo v25 v32 v33 v43 : Int64} (hu : uN up < 9223372036854775808) (e25 : v25 = up <<< ((1 : Int32).toInt64 &&& 63)) (e32 : v32 = (lo.toUInt64 >>> ((63 : Int32).toInt64.toUInt64 &&& Int64.toUInt64 63)).toInt64) (e33 : v33 = v25 ||| v32) (e43 : v43 = lo <<< ((1 : Int32).toInt64 &&& 63)) :
    uN v33 * 18446744073709551616 + uN v43 = 2 * (uN up * 18446744073709551616 + uN lo) ∧ uN (v43 ||| 1) = uN v43 + 1 := by
  have hl := uN_lt lo
  have f32 : uN v32 = uN lo / 9223372036854775808 := by rw [e32, uN_s63]
  have f33 : uN v33 = (2 * uN up) % 18446744073709551616 + uN v32 := by rw [e33, e25]; exact uN_or (by omega)
  have f43 : uN v43 = (2 * uN lo) % 18446744073709551616 := by rw [e43, uN_shl]
  refine ⟨by omega, ?_⟩
  have u1 : uN 1 = 1 := by decide
  rw [f43, e43, uN_or (by rw [u1]; decide), u1]
theorem mm_up {a b up lo : Int64} {j : Nat} (h : uN up * 18446744073709551616 + uN lo = uN a * (uN b / 2 ^ (j + 1))) : uN up < 9223372036854775808 := by
  have ha := uN_lt a
  have hb := uN_lt b
  have h1 : uN b / 2 ^ (j + 1) ≤ uN b / 2 := by
    rw [Nat.pow_succ, ← Nat.div_div_eq_div_mul, Nat.div_div_eq_div_mul, Nat.mul_comm, ← Nat.div_div_eq_div_mul]
    exact Nat.div_le_self _ _
  have h2 := Nat.mul_le_mul (show uN a ≤ 18446744073709551615 by omega) (show uN b / 2 ^ (j + 1) ≤ 9223372036854775807 by omega)
  omega
theorem mm_bit {b v50 v52 : Int64} {k : Int32} {j : Nat} (hk : k = nI j) (hj : j < 64) (e50 : v50 = (b.toUInt64 >>> (k.toInt64.toUInt64 &&& Int64.toUInt64 63)).toInt64) (e52 : v52 = v50 &&& 1) : uN v52 = uN b / 2 ^ j % 2 ∧ (v52 = 1 ↔ uN b / 2 ^ j % 2 = 1) := by
  have f : uN v52 = uN b / 2 ^ j % 2 := by rw [e52, fx_and1, e50, hk, uN_sk b hj]
  have u1 : uN 1 = 1 := by decide
  refine ⟨f, ?_⟩
  rw [← f]
  constructor
  · intro z
    rw [z, u1]
  · intro z
    exact uN_inj (by rw [z, u1])
theorem mm_dbl {A B j : Nat} : A * (B / 2 ^ j) = 2 * (A * (B / 2 ^ (j + 1))) + A * (B / 2 ^ j % 2) := by
  have h := fx_bit B j
  calc A * (B / 2 ^ j) = A * (2 * (B / 2 ^ (j + 1)) + B / 2 ^ j % 2) := by rw [← h]
    _ = 2 * (A * (B / 2 ^ (j + 1))) + A * (B / 2 ^ j % 2) := by rw [Nat.mul_add, Nat.mul_left_comm]
theorem mm_no {a b up lo v33 v43 : Int64} {k v101 : Int32} {j : Nat} (hk : k = nI j) (hj : j + 1 ≤ 64) (h : uN up * 18446744073709551616 + uN lo = uN a * (uN b / 2 ^ (j + 1))) (hs : uN v33 * 18446744073709551616 + uN v43 = 2 * (uN up * 18446744073709551616 + uN lo)) (hb : ¬ uN b / 2 ^ j % 2 = 1) (ev : v101 = k + Int32.ofInt (-1)) : mm_I a b j (v33, v43, v101) := by
  refine ⟨dn_i hk ev, by omega, ?_⟩
  show uN v33 * 18446744073709551616 + uN v43 = uN a * (uN b / 2 ^ j)
  have h0 : uN b / 2 ^ j % 2 = 0 := by omega
  rw [mm_dbl, h0, hs, h, Nat.mul_zero]
  omega
theorem mm_tot {a b : Int64} {j : Nat} : uN a * (uN b / 2 ^ j) ≤ 18446744073709551615 * 18446744073709551615 := by
  have ha := uN_lt a
  have hb := uN_lt b
  have h1 : uN b / 2 ^ j ≤ uN b := Nat.div_le_self _ _
  exact Nat.mul_le_mul (by omega) (by omega)
theorem mm_car {H L U V A S : Nat} (hs : H * 18446744073709551616 + L = 2 * (U * 18446744073709551616 + V)) (l1 : L < 18446744073709551616) (l2 : A < 18446744073709551616) (f : S = (L + A) % 18446744073709551616) (hlt : S < L) : (H + 1) * 18446744073709551616 + S = 2 * (U * 18446744073709551616 + V) + A := by
  have g : S + 18446744073709551616 = L + A := by
    have := Nat.mod_add_div (L + A) 18446744073709551616
    rw [← f] at this
    have h3 : (L + A) / 18446744073709551616 = 1 := by
      have h4 : (L + A) / 18446744073709551616 < 2 := Nat.div_lt_of_lt_mul (by omega)
      have h5 : (L + A) / 18446744073709551616 ≠ 0 := fun z => by
        rw [z] at this
        omega
      omega
    rw [h3] at this
    omega
  rw [← hs, Nat.add_mul, Nat.one_mul, Nat.add_assoc, Nat.add_assoc, Nat.add_comm 18446744073709551616 S, g]
theorem mm_ncar {H L U V A S : Nat} (hs : H * 18446744073709551616 + L = 2 * (U * 18446744073709551616 + V)) (l1 : L < 18446744073709551616) (l2 : A < 18446744073709551616) (f : S = (L + A) % 18446744073709551616) (hlt : ¬ S < L) : H * 18446744073709551616 + S = 2 * (U * 18446744073709551616 + V) + A := by
  have g : S = L + A := by
    have := Nat.mod_add_div (L + A) 18446744073709551616
    rw [← f] at this
    have h3 : (L + A) / 18446744073709551616 = 0 := by
      have h4 : (L + A) / 18446744073709551616 < 2 := Nat.div_lt_of_lt_mul (by omega)
      have h5 : (L + A) / 18446744073709551616 ≠ 1 := fun z => by
        rw [z] at this
        omega
      omega
    rw [h3] at this
    omega
  rw [← hs, g, Nat.add_assoc]
theorem mm_c1 {a b up lo v33 v43 v63 v84 : Int64} {k v101 v73 : Int32} {j : Nat} (hk : k = nI j) (hj : j + 1 ≤ 64) (h : uN up * 18446744073709551616 + uN lo = uN a * (uN b / 2 ^ (j + 1))) (hs : uN v33 * 18446744073709551616 + uN v43 = 2 * (uN up * 18446744073709551616 + uN lo)) (hb : uN b / 2 ^ j % 2 = 1) (e63 : v63 = v43 + a) (e73 : v73 = if uN v63 < uN v43 then 1 else 0) (c : ¬ v73 = 0) (e84 : v84 = v33 + 1) (ev : v101 = k + Int32.ofInt (-1)) : mm_I a b j (v84, v63, v101) := by
  refine ⟨dn_i hk ev, by omega, ?_⟩
  show uN v84 * 18446744073709551616 + uN v63 = uN a * (uN b / 2 ^ j)
  have hlt : uN v63 < uN v43 := Classical.byContradiction (fun z => c (by rw [e73, if_neg z]))
  have t := mm_tot (a := a) (b := b) (j := j)
  have e : uN a * (uN b / 2 ^ j) = 2 * (uN a * (uN b / 2 ^ (j + 1))) + uN a := by rw [mm_dbl, hb, Nat.mul_one]
  have f63 : uN v63 = (uN v43 + uN a) % 18446744073709551616 := by rw [e63, uN_add]
  have l1 := uN_lt v43
  have l2 := uN_lt a
  have l3 := uN_lt v33
  have u1 : uN 1 = 1 := by decide
  rw [e] at t ⊢
  rw [← h] at t ⊢
  have f84 : uN v84 = uN v33 + 1 := by
    rw [e84, fx_uadd _ _ (by rw [u1]; omega), u1]
  rw [f84]
  exact mm_car hs l1 l2 f63 hlt
theorem mm_c0 {a b up lo v33 v43 v63 : Int64} {k v101 v73 : Int32} {j : Nat} (hk : k = nI j) (hj : j + 1 ≤ 64) (h : uN up * 18446744073709551616 + uN lo = uN a * (uN b / 2 ^ (j + 1))) (hs : uN v33 * 18446744073709551616 + uN v43 = 2 * (uN up * 18446744073709551616 + uN lo)) (hb : uN b / 2 ^ j % 2 = 1) (e63 : v63 = v43 + a) (e73 : v73 = if uN v63 < uN v43 then 1 else 0) (c : v73 = 0) (ev : v101 = k + Int32.ofInt (-1)) : mm_I a b j (v33, v63, v101) := by
  refine ⟨dn_i hk ev, by omega, ?_⟩
  show uN v33 * 18446744073709551616 + uN v63 = uN a * (uN b / 2 ^ j)
  have hlt : ¬ uN v63 < uN v43 := fun z => by
    rw [if_pos z, c] at e73
    exact absurd e73 (by decide)
  have e : uN a * (uN b / 2 ^ j) = 2 * (uN a * (uN b / 2 ^ (j + 1))) + uN a := by rw [mm_dbl, hb, Nat.mul_one]
  have f63 : uN v63 = (uN v43 + uN a) % 18446744073709551616 := by rw [e63, uN_add]
  have l1 := uN_lt v43
  have l2 := uN_lt a
  rw [e, ← h]
  exact mm_ncar hs l1 l2 f63 hlt
theorem mm_end {a b up lo : Int64} (h : uN up * 18446744073709551616 + uN lo = uN a * (uN b / 2 ^ 0)) : uN up * 18446744073709551616 + uN lo = uN a * uN b := by
  rw [Nat.pow_zero, Nat.div_one] at h
  exact h
/-- divide -/
def md_I (N C : Nat) (n : Nat) (z : Int64 × Int64 × Int64 × Int32) : Prop := z.2.2.2 = dn n ∧ n ≤ 128 ∧ uN z.2.2.1 < C ∧ N / 2 ^ n = (uN z.1 * 18446744073709551616 + uN z.2.1) * C + uN z.2.2.1
theorem md_N (up lo : Int64) : uN up * 18446744073709551616 + uN lo < 2 ^ 128 := by
  have h1 := uN_lt up
  have h2 := uN_lt lo
  omega
theorem md_0 {N C : Nat} (hN : N < 2 ^ 128) (hC : 0 < C) : md_I N C 128 (0, 0, 0, 127) := ⟨show (127 : Int32) = dn 128 by decide, by decide, hC, by
  have u0 : uN 0 = 0 := by decide
  show N / 2 ^ 128 = (uN 0 * 18446744073709551616 + uN 0) * C + uN 0
  rw [Nat.div_eq_of_lt hN, u0]
  omega⟩
theorem md_hi {up lo v33 v35 : Int64} {k v32 : Int32} {j : Nat} (hk : k = nI j) (hj : j < 128) (c : ¬ k ≤ 63) (e32 : v32 = k - 64) (e33 : v33 = (up.toUInt64 >>> (v32.toInt64.toUInt64 &&& Int64.toUInt64 63)).toInt64) (e35 : v35 = v33 &&& 1) : uN v35 = (uN up * 18446744073709551616 + uN lo) / 2 ^ j % 2 := by
  have h64 : 64 ≤ j := by
    have : ¬ j ≤ 63 := fun z => c (by rw [hk, show (63 : Int32) = nI 63 from rfl, nI_leI (by omega) (by decide)]; exact z)
    omega
  obtain ⟨i, rfl⟩ : ∃ i, j = 64 + i := ⟨j - 64, by omega⟩
  have f32 : v32 = nI i := by rw [e32, hk, show (64 : Int32) = nI 64 from rfl, pk_sub (by omega)]; congr 1; omega
  have hl := uN_lt lo
  have hq : (uN up * 18446744073709551616 + uN lo) / 2 ^ (64 + i) = uN up / 2 ^ i := by
    rw [Nat.pow_add, ← Nat.div_div_eq_div_mul]
    congr 1
    show (uN up * 18446744073709551616 + uN lo) / 18446744073709551616 = uN up
    omega
  rw [e35, fx_and1, e33, f32, uN_sk up (by omega), hq]
theorem md_lo {up lo v45 v47 : Int64} {k : Int32} {j : Nat} (hk : k = nI j) (hj : j < 128) (c : k ≤ 63) (e45 : v45 = (lo.toUInt64 >>> (k.toInt64.toUInt64 &&& Int64.toUInt64 63)).toInt64) (e47 : v47 = v45 &&& 1) : uN v47 = (uN up * 18446744073709551616 + uN lo) / 2 ^ j % 2 := by
  have h63 : j ≤ 63 := by
    rw [hk, show (63 : Int32) = nI 63 from rfl, nI_leI (by omega) (by decide)] at c
    exact c
  obtain ⟨i, hi⟩ : ∃ i, 64 = j + (i + 1) := ⟨63 - j, by omega⟩
  have hq : (uN up * 18446744073709551616 + uN lo) / 2 ^ j = uN up * 2 ^ i * 2 + uN lo / 2 ^ j := by
    have e : uN up * 18446744073709551616 = 2 ^ j * (uN up * 2 ^ i * 2) := by
      rw [show (18446744073709551616 : Nat) = 2 ^ 64 from rfl, hi, Nat.pow_add, Nat.pow_succ, Nat.mul_left_comm, Nat.mul_assoc (uN up)]
    rw [e, Nat.mul_add_div (Nat.two_pow_pos j)]
  rw [e47, fx_and1, e45, hk, uN_sk lo (by omega), hq]
  omega
theorem md_top {N C Q R j : Nat} (hN : N < 2 ^ 128) (hC : 0 < C) (h : N / 2 ^ (j + 1) = Q * C + R) : Q < 2 ^ 127 := by
  have h1 : N / 2 ^ (j + 1) ≤ N / 2 := by
    rw [Nat.pow_succ, Nat.mul_comm, ← Nat.div_div_eq_div_mul]
    exact Nat.div_le_self _ _
  have h2 : Q * 1 ≤ Q * C := Nat.mul_le_mul_left _ hC
  omega
theorem md_rest {rest v67 v70 w : Int64} {C t : Nat} (hR : uN rest < C) (hC : C ≤ 9223372036854775808) (hw : uN w = t) (ht : t < 2) (e67 : v67 = rest <<< ((1 : Int32).toInt64 &&& 63)) (e70 : v70 = v67 ||| w) : uN v70 = 2 * uN rest + t := by
  rw [e70, e67, uN_or (by omega), hw, Nat.mod_eq_of_lt (by omega)]
theorem md_sum {N C Q R j : Nat} (h : N / 2 ^ (j + 1) = Q * C + R) : N / 2 ^ j = 2 * Q * C + (2 * R + N / 2 ^ j % 2) := by
  have b := fx_bit N j
  have c2 : 2 * Q * C = 2 * (Q * C) := Nat.mul_assoc ..
  rw [c2]
  omega
theorem md_a {N C j : Nat} {k v115 : Int32} {high low rest v70 v81 v86 : Int64} (hk : k = nI j) (hj : j + 1 ≤ 128) (h : N / 2 ^ (j + 1) = (uN high * 18446744073709551616 + uN low) * C + uN rest) (hs : uN v81 * 18446744073709551616 + uN v86 = 2 * (uN high * 18446744073709551616 + uN low)) (f70 : uN v70 = 2 * uN rest + N / 2 ^ j % 2) (hlt : uN v70 < C) (ev : v115 = k + Int32.ofInt (-1)) : md_I N C j (v81, v86, v70, v115) := by
  refine ⟨dn_i hk ev, by omega, hlt, ?_⟩
  show N / 2 ^ j = (uN v81 * 18446744073709551616 + uN v86) * C + uN v70
  rw [hs, f70]
  exact md_sum h
theorem md_b {N C j : Nat} {k v115 : Int32} {high low rest v70 v81 v86 v106 v112 c : Int64} (hk : k = nI j) (hj : j + 1 ≤ 128) (hc : uN c = C) (hR : uN rest < C) (h : N / 2 ^ (j + 1) = (uN high * 18446744073709551616 + uN low) * C + uN rest) (hs : uN v81 * 18446744073709551616 + uN v86 = 2 * (uN high * 18446744073709551616 + uN low)) (f70 : uN v70 = 2 * uN rest + N / 2 ^ j % 2) (hge : ¬ uN v70 < C) (e106 : v106 = v70 - c) (f112 : uN v112 = uN v86 + 1) (ev : v115 = k + Int32.ofInt (-1)) : md_I N C j (v81, v112, v106, v115) := by
  have f106 : uN v106 = uN v70 - C := by rw [e106, fx_usub _ _ (by omega), hc]
  refine ⟨dn_i hk ev, by omega, ?_, ?_⟩
  · show uN v106 < C
    omega
  · show N / 2 ^ j = (uN v81 * 18446744073709551616 + uN v112) * C + uN v106
    have e : uN v81 * 18446744073709551616 + uN v112 = 2 * (uN high * 18446744073709551616 + uN low) + 1 := by omega
    rw [e, Nat.add_mul, Nat.one_mul, md_sum h]
    omega
theorem md_end {N C : Nat} {high low rest : Int64} (hC : 0 < C) (hR : uN rest < C) (h : N / 2 ^ 0 = (uN high * 18446744073709551616 + uN low) * C + uN rest) : uN high * 18446744073709551616 + uN low = N / C ∧ uN rest = N % C := by
  rw [Nat.pow_zero, Nat.div_one] at h
  constructor
  · rw [h, Nat.add_comm _ (uN rest), Nat.add_mul_div_right _ _ hC, Nat.div_eq_of_lt hR, Nat.zero_add]
  · rw [h, Nat.add_comm _ (uN rest), Nat.add_mul_mod_self_right, Nat.mod_eq_of_lt hR]
/-- exact -/
theorem ex_0 (x : Int64) : x = 0 ↔ uN x = 0 := by
  have u0 : uN 0 = 0 := by decide
  constructor
  · intro z
    rw [z, u0]
  · intro z
    exact uN_inj (by rw [z, u0])
theorem ex_s0 {x : Int64} (h : 0 ≤ x) : (0 : Int32) = if x.toInt < 0 then 1 else 0 := be_s0 h
theorem ex_51 {a b v32 v43 v51 : Int32} {A B : Int} (e1 : v32 = if A < 0 then 1 else 0) (e2 : v43 = if B < 0 then 1 else 0) (e3 : v51 = if v32 = v43 then 0 else 1) : v51 = if (A < 0 ↔ B < 0) then 0 else 1 := by
  by_cases h1 : A < 0 <;> by_cases h2 : B < 0 <;> simp [h1, h2] at e1 e2 <;> subst e1 <;> subst e2 <;> simp [e3, h1, h2]
theorem ex_63g {P Q : Prop} [Decidable P] [Decidable Q] {x y : Int32} (e1 : x = if P then 0 else 1) (e2 : y = if Q then 1 else 0) : x = y ↔ ¬ ¬ (¬ P ↔ Q) := by
  by_cases h1 : P <;> by_cases h2 : Q <;> simp [h1, h2] at e1 e2 ⊢ <;> subst e1 <;> subst e2 <;> decide
theorem ex_63 {v51 v63 : Int32} {A B C : Int} (e1 : v51 = if (A < 0 ↔ B < 0) then 0 else 1) (e2 : v63 = if C < 0 then 1 else 0) : v51 = v63 ↔ ¬ sp_neg A B C := by
  exact ex_63g e1 e2
theorem ex_hit {P : Prop} [Decidable P] (h : P) : (1 : Int32) = if P then 1 else 0 := by rw [if_pos h]
theorem ex_miss {P : Prop} [Decidable P] (h : ¬ P) : (0 : Int32) = if P then 1 else 0 := by rw [if_neg h]
/-- the sum of a quotient and of the one that goes down -/
theorem ex_inc0 {lo v120 up : Int64} {M : Nat} (h : uN up * 18446744073709551616 + uN lo = M) (e : v120 = lo + 1) (hz : ¬ v120 = 0) : uN up * 18446744073709551616 + uN v120 = M + 1 := by
  have u1 : uN 1 = 1 := by decide
  have f : uN v120 = (uN lo + 1) % 18446744073709551616 := by rw [e, uN_add, u1]
  have l := uN_lt lo
  have : uN v120 ≠ 0 := fun z => hz ((ex_0 _).mpr z)
  omega
theorem ex_inc1 {lo v120 up v139 : Int64} {M : Nat} (h : uN up * 18446744073709551616 + uN lo = M) (hM : M + 1 < 340282366920938463463374607431768211456) (e : v120 = lo + 1) (hz : v120 = 0) (e2 : v139 = up + 1) : uN v139 * 18446744073709551616 + uN v120 = M + 1 := by
  have u1 : uN 1 = 1 := by decide
  have f : uN v120 = (uN lo + 1) % 18446744073709551616 := by rw [e, uN_add, u1]
  have l := uN_lt lo
  have l2 := uN_lt up
  have g := (ex_0 _).mp hz
  have g2 : uN lo = 18446744073709551615 := by omega
  have g3 : uN up < 18446744073709551615 := by
    rw [g2] at h
    omega
  have f2 : uN v139 = uN up + 1 := by rw [e2, fx_uadd _ _ (by rw [u1]; omega), u1]
  rw [g, f2, ← h, g2, Nat.add_mul]
theorem ex_fin {a b c : Int} {up lo r le : Int64} {v98 v189 : Int32} {Q R M : Nat} {N9 : Prop} [Decidable N9] (hc : c ≠ 0) (hQ : Q = a.natAbs * b.natAbs / c.natAbs) (hR : R = a.natAbs * b.natAbs % c.natAbs) (hN : N9 ↔ sp_neg a b c ∧ ¬ (Q = 0 ∧ R = 0)) (e98 : v98 = if N9 then 1 else 0)
    (hM : uN up * 18446744073709551616 + uN lo = M) (hMv : M = if N9 ∧ ¬ R = 0 then Q + 1 else Q) (e189 : v189 = if up = 0 ∧ (0 ≤ lo ∨ (¬ v98 = 0 ∧ lo = -9223372036854775808)) then 1 else 0) (hle : (¬ v189 = 0 ∧ le = 0) ∨ (v189 = 0 ∧ ¬ le = 0)) (hr : (v98 = 0 ∧ r = lo) ∨ (¬ v98 = 0 ∧ r = -lo)) :
    (le = 0 ∧ sp_rok a b c r.toInt) ∨ (¬ le = 0 ∧ sp_rno a b c) := by
  obtain ⟨k1, k2⟩ := fx_rat a b c hc Q R hQ hR
  have n98 : v98 = 0 ↔ ¬ N9 := by
    by_cases z : N9
    · rw [if_pos z] at e98
      simp [e98, z]
    · rw [if_neg z] at e98
      simp [e98, z]
  have hV : (a * b).fdiv c = if N9 then -(M : Int) else (M : Int) := by
    by_cases z : N9
    · have s := hN.mp z
      rw [if_pos z, k1 s.1, hMv]
      by_cases y : R = 0
      · rw [if_pos y, if_neg (fun w => w.2 y)]
        omega
      · rw [if_neg y, if_pos ⟨z, y⟩]
        omega
    · rw [if_neg z, hMv, if_neg (fun w => z w.1)]
      by_cases y : sp_neg a b c
      · have w : Q = 0 ∧ R = 0 := Classical.byContradiction (fun w => z (hN.mpr ⟨y, w⟩))
        rw [k1 y, w.1, if_pos w.2]
        rfl
      · exact k2 y
  have hlo := uN_lt lo
  have g0 := ex_0 up
  have gp := ra_pos lo
  have gm := ra_min lo
  rcases hle with ⟨h1, h2⟩ | ⟨h1, h2⟩
  · left
    refine ⟨h2, hc, ?_⟩
    have hf : up = 0 ∧ (0 ≤ lo ∨ (¬ v98 = 0 ∧ lo = -9223372036854775808)) := Classical.byContradiction (fun w => h1 (by rw [e189, if_neg w]))
    have hu := g0.mp hf.1
    rw [hV]
    rcases hr with ⟨w1, w2⟩ | ⟨w1, w2⟩
    · have w3 : uN lo < 9223372036854775808 := by
        rcases hf.2 with y | y
        · exact gp.mp y
        · exact absurd w1 y.1
      rw [if_neg (n98.mp w1), w2, ra_toInt lo w3]
      omega
    · have w3 : N9 := Classical.byContradiction (fun y => w1 (n98.mpr y))
      have w4 : uN lo ≤ 9223372036854775808 := by
        rcases hf.2 with y | y
        · have := gp.mp y
          omega
        · have := gm.mp y.2
          omega
      rw [if_pos w3, w2, ra_negI lo w4]
      omega
  · right
    refine ⟨h2, ?_⟩
    have hf : ¬ (up = 0 ∧ (0 ≤ lo ∨ (¬ v98 = 0 ∧ lo = -9223372036854775808))) := fun w => by
      rw [if_pos w, h1] at e189
      exact absurd e189 (by decide)
    unfold sp_rno
    rw [hV]
    by_cases z : N9
    · rw [if_pos z]
      right; left
      have w5 : ¬ v98 = 0 := fun y => n98.mp y z
      have : ¬ (uN up = 0 ∧ uN lo ≤ 9223372036854775808) := fun w => hf ⟨g0.mpr w.1, by
        rcases Nat.lt_or_eq_of_le w.2 with y | y
        · exact Or.inl (gp.mpr y)
        · exact Or.inr ⟨w5, gm.mpr y⟩⟩
      omega
    · rw [if_neg z]
      right; right
      have : ¬ (uN up = 0 ∧ uN lo < 9223372036854775808) := fun w => hf ⟨g0.mpr w.1, Or.inl (gp.mpr w.2)⟩
      omega
theorem ex_QR {a b c : Int64} {v2 v6 v15 up9 lo9 up lo le : Int64} (e2 : uN v2 = a.toInt.natAbs) (e6 : uN v6 = b.toInt.natAbs) (e15 : uN v15 = c.toInt.natAbs) (h9 : uN up9 * 18446744073709551616 + uN lo9 = uN v2 * uN v6) (h1 : uN up * 18446744073709551616 + uN lo = (uN up9 * 18446744073709551616 + uN lo9) / uN v15) (h2 : uN le = (uN up9 * 18446744073709551616 + uN lo9) % uN v15) :
    uN up * 18446744073709551616 + uN lo = a.toInt.natAbs * b.toInt.natAbs / c.toInt.natAbs ∧ uN le = a.toInt.natAbs * b.toInt.natAbs % c.toInt.natAbs := by
  rw [h9, e2, e6, e15] at h1 h2
  exact ⟨h1, h2⟩
theorem ex_zero {up lo le : Int64} {Q R : Nat} (hQ : uN up * 18446744073709551616 + uN lo = Q) (hR : uN le = R) : ((¬ up = 0 ∨ ¬ lo = 0 ∨ ¬ le = 0) ↔ ¬ (Q = 0 ∧ R = 0)) := by
  rw [ex_0 up, ex_0 lo, ex_0 le]
  omega
theorem ex_Qb {a b c : Int64} (hc : c.toInt ≠ 0) : a.toInt.natAbs * b.toInt.natAbs / c.toInt.natAbs + 1 < 340282366920938463463374607431768211456 := by
  have ha := fx_i64 a
  have hb := fx_i64 b
  have h := Nat.mul_le_mul (show a.toInt.natAbs ≤ 9223372036854775808 by omega) (show b.toInt.natAbs ≤ 9223372036854775808 by omega)
  have h2 := Nat.div_le_self (a.toInt.natAbs * b.toInt.natAbs) c.toInt.natAbs
  omega
theorem ex_Mv {v98 : Int32} {N9 : Prop} [Decidable N9] {M Q R : Nat} (e98 : v98 = if N9 then 1 else 0) (h : M = Q + (if v98 = 0 then 0 else if R = 0 then 0 else 1)) : M = if N9 ∧ ¬ R = 0 then Q + 1 else Q := by
  by_cases z : N9
  · rw [if_pos z] at e98
    subst e98
    by_cases y : R = 0 <;> simp [z, y] at h ⊢ <;> exact h
  · rw [if_neg z] at e98
    subst e98
    simp [z] at h ⊢
    exact h
theorem mbw_1 {n d : Int64} (h : d ≤ 0 ∨ n < 0 ∨ ¬ n ≤ d) : (1 : Int32) = if (0 < d.toInt ∧ 0 ≤ n.toInt ∧ n.toInt ≤ d.toInt) then 0 else 1 := by
  rw [if_neg]
  rintro ⟨k1, k2, k3⟩
  rcases h with h | h | h
  · rw [Int64.le_iff_toInt_le, show (0 : Int64).toInt = 0 from by decide] at h
    omega
  · have := be_c2 h
    omega
  · have := be_c3 h
    omega
theorem mbw_0 {n d : Int64} (h1 : ¬ d ≤ 0) (h2 : ¬ n < 0) (h3 : n ≤ d) : (0 : Int32) = if (0 < d.toInt ∧ 0 ≤ n.toInt ∧ n.toInt ≤ d.toInt) then 0 else 1 := by
  rw [Int64.le_iff_toInt_le, show (0 : Int64).toInt = 0 from by decide] at h1
  rw [if_pos ⟨by omega, be_d2 h2, be_d3 h3⟩]
theorem mbw_no {n d : Int} (h : ¬ (0 < d ∧ 0 ≤ n ∧ n ≤ d)) : sp_bno n d := by
  unfold sp_bno
  omega
theorem mbw_fin (a b : Int32) (n d span x y : Int64) (r : Int32) (hsp : span.toInt = b.toInt - a.toInt) (hok : 0 < d.toInt ∧ 0 ≤ n.toInt ∧ n.toInt ≤ d.toInt) {le : Int64} (hx : (le = 0 ∧ sp_rok span.toInt n.toInt d.toInt x.toInt) ∨ (¬ le = 0 ∧ sp_rno span.toInt n.toInt d.toInt)) (ey : y = a.toInt64 + x) (er : r = y.toInt32) : r.toInt = sp_betw a.toInt b.toInt n.toInt d.toInt := by
  have ha := fx_i32 a
  have hb := fx_i32 b
  obtain ⟨q, hqe⟩ : ∃ q, q = span.toInt.natAbs * n.toInt.natAbs / d.toInt.natAbs := ⟨_, rfl⟩
  obtain ⟨rm, hre⟩ : ∃ rm, rm = span.toInt.natAbs * n.toInt.natAbs % d.toInt.natAbs := ⟨_, rfl⟩
  obtain ⟨k1, k2⟩ := fx_rat span.toInt n.toInt d.toInt (by omega) q rm hqe hre
  have hq : q ≤ span.toInt.natAbs := by
    rw [hqe]
    apply Nat.div_le_of_le_mul
    rw [Nat.mul_comm]
    exact Nat.mul_le_mul_right _ (by omega)
  have hv : -4294967297 ≤ (span.toInt * n.toInt).fdiv d.toInt ∧ (span.toInt * n.toInt).fdiv d.toInt ≤ 4294967297 := by
    by_cases z : sp_neg span.toInt n.toInt d.toInt
    · rw [k1 z]
      split <;> omega
    · rw [k2 z]
      omega
  have e : x.toInt = (span.toInt * n.toInt).fdiv d.toInt := by
    rcases hx with h | h
    · exact h.2.2
    · rcases h.2 with z | z | z <;> omega
  have f1 : y.toInt = a.toInt + x.toInt := by rw [ey, Int64.toInt_add, Int32.toInt_toInt64, fx_bm64 (by omega) (by omega)]
  rw [er, Int64.toInt_toInt32, f1, e, hsp]
  rfl
end
section
set_option maxHeartbeats 4000000 in
set_option maxRecDepth 100000 in
theorem c_M_multiply (l : Launch) (dC : Nat → ClassId) (dI : Nat → Nat → Nat) (h0 sz : Nat) (th : Int32) (up lo le : Int64) (a b : Int64)  : Met l y_M_multiply w_M_multiply ({ frames := 1, cells := 0, slots := 0, locals := 30 }) (va_Pc [.ref h0, .long a, .long b] (fun U => U.heap.size = sz ∧ va_P (dC, dI) classes [(h0, .inr (1, [.int th, .long up, .long lo, .long le]))] U.heap ∧ va_K (dC, dI) classes [] U ∧ va_D (fun _ => True) [(h0, .inr (1, [.int th, .long up, .long lo, .long le]))])) (va_Qv (fun (u : MS) => u.1 = th ∧ u.2.2.2 = le ∧ uN u.2.1 * 18446744073709551616 + uN u.2.2.1 = uN a * uN b) (at_M dC dI (va_A [(h0, .inr (1, [.int th, .long up, .long lo, .long le]))] sz) h0) (va_A [(h0, .inr (1, [.int th, .long up, .long lo, .long le]))] sz)) 0 0 (va_A [(h0, .inr (1, [.int th, .long up, .long lo, .long le]))] sz) := by
  refine Met.ofW (cc := b_M_multiply) (maxL := 8) (ret := none) (by decide) rfl ?_
  intro p e s m args below meth c s₁ B hml hv
  obtain ⟨rfl, hsz, hP, hK, hD0⟩ := hv
  have hx := B.exec
  have hb := B.bytes
  have hr := B.returns
  have hts := atoms_spec (ws := w_M_multiply) B.pre
  have hown : s.vm.findClass R_M = some m.cls := findClass_of_methodNamed B.named
  have hlocks := B.notSynchronized
  subst hsz
  have hD := hD0.self (sz := s.heap.size)
  generalize hAe : va_A [(h0, .inr (1, [.int th, .long up, .long lo, .long le]))] s.heap.size = A at hD ⊢
  have hA : ∀ q : Nat, s.heap.size ≤ q → A q := fun q h => by rw [← hAe]; exact Or.inr h
  have hS : va_S A s.heap s.heap [] := va_S.rf
  have hP : va_P (dC, dI) classes [(h0, .inr (1, [.int th, .long up, .long lo, .long le]))] s.heap := hP
  have hl := lv_entry ([.ref h0, .long a, .long b]) (n := 8) (Nat.le_of_ble_eq_true rfl)
  rw [lg_entry_eq]
  generalize (lg_sl ([.ref h0, .long a, .long b]) ++ List.replicate (8 - (lg_sl ([.ref h0, .long a, .long b])).length) Slot.unset).toArray = ls at hl ⊢
  have hl : lv_has ls 8 [(0, .ref h0), (1, .long a), (3, .long b)] := hl
  refine lv_aload_n hx hb d_M_multiply_0 rfl (lv_at hl 0 rfl) ?_
  refine lv_lconst (v := 0) hx hb d_M_multiply_1 (by decide) ?_
  refine va_put (D := (dC, dI)) (ci := 1) (v := .long 0) (ty := .long) (C := R_M) (T := F_M) (N := 4) hx hb hts (fun w h => List.mem_cons_of_mem _ (i_M w h)) t_M t_M_ok n_M hown hK hP hD hS 0 rfl rfl 1 (by decide) (hts (.fieldLink R_M 16 R_M "upper" "J") (List.mem_cons_of_mem _ (tm (by decide +kernel) rfl))) (fun _ h9 => h9) rfl (by decide +kernel) rfl rfl (Nat.le_of_ble_eq_true rfl) d_M_multiply_2 (fun H locs hP hD hS => ?_)
  have hP : va_P (dC, dI) classes [(h0, .inr (1, [.int th, .long 0, .long lo, .long le]))] H := hP
  have hD : va_D A [(h0, .inr (1, [.int th, .long 0, .long lo, .long le]))] := hD
  refine lv_aload_n hx hb d_M_multiply_5 rfl (lv_at hl 0 rfl) ?_
  refine lv_lconst (v := 0) hx hb d_M_multiply_6 (by decide) ?_
  refine va_put (D := (dC, dI)) (ci := 1) (v := .long 0) (ty := .long) (C := R_M) (T := F_M) (N := 4) hx hb hts (fun w h => List.mem_cons_of_mem _ (i_M w h)) t_M t_M_ok n_M hown hK hP hD hS 0 rfl rfl 2 (by decide) (hts (.fieldLink R_M 20 R_M "lower" "J") (List.mem_cons_of_mem _ (tm (by decide +kernel) rfl))) (fun _ h9 => h9) rfl (by decide +kernel) rfl rfl (Nat.le_of_ble_eq_true rfl) d_M_multiply_7 (fun H locs hP hD hS => ?_)
  have hP : va_P (dC, dI) classes [(h0, .inr (1, [.int th, .long 0, .long 0, .long le]))] H := hP
  have hD : va_D A [(h0, .inr (1, [.int th, .long 0, .long 0, .long le]))] := hD
  refine lv_bipush (v := 63) hx hb d_M_multiply_10 (by decide) ?_
  refine lv_istore (lv' := [(5, .int 63), (0, .ref h0), (1, .long a), (3, .long b)]) hx hb d_M_multiply_12 hl (by decide) rfl (fun ls hl => ?_)
  refine lp_H (nL := 8) (J := 14) (fun z : Int64 × Int64 × Int32 => [(5, .int z.2.2), (0, .ref h0), (1, .long a), (3, .long b)]) (fun n z H locs => mm_I a b n z ∧ va_P (dC, dI) classes [(h0, .inr (1, [.int th, .long z.1, .long z.2.1, .long le]))] H ∧ va_D A [(h0, .inr (1, [.int th, .long z.1, .long z.2.1, .long le]))] ∧ va_S A s.heap H locs) (fun n z H locs hI ih ls hl => ?_) 64 (0, 0, 63) ⟨mm_0 a b, hP, hD, hS⟩ (lv_sub hl [0, 1, 2, 3] rfl)
  obtain ⟨up1, lo1, k⟩ := z
  obtain ⟨⟨hk, hn, hE⟩, hP, hD, hS⟩ := hI
  dsimp only at hk hE
  have hP : va_P (dC, dI) classes [(h0, .inr (1, [.int th, .long up1, .long lo1, .long le]))] H := hP
  have hD : va_D A [(h0, .inr (1, [.int th, .long up1, .long lo1, .long le]))] := hD
  have hl : lv_has ls 8 [(5, .int k), (0, .ref h0), (1, .long a), (3, .long b)] := hl
  refine lv_iload hx hb d_M_multiply_14 (lv_at hl 0 rfl) ?_
  refine lv_if_lt (tgt := 107) hx hb d_M_multiply_16 (by decide) (fun c16 => ?_) (fun c16 => ?_)
  · skip
    exact W.vret hx hb hr (fun t ht hW => ⟨⟨(th, up1, lo1, le), rfl, ⟨rfl, rfl, by have z := dn_neg (by omega) hk c16; subst z; exact mm_end hE⟩, by rw [ht]; exact hP, va_K.moved hW.alike hK, hD⟩, hS.F ht⟩) hS.2.2 d_M_multiply_107
  · skip
    obtain ⟨j, rfl, hkj⟩ := dn_nn (by omega) hk c16
    refine lv_aload_n hx hb d_M_multiply_19 rfl (lv_at hl 1 rfl) ?_
    refine lv_aload_n hx hb d_M_multiply_20 rfl (lv_at hl 1 rfl) ?_
    refine va_get (D := (dC, dI)) (ci := 1) (v := .long up1) (C := R_M) (T := F_M) (N := 4) hx hb hts (fun w h => List.mem_cons_of_mem _ (i_M w h)) hown hK hP 0 rfl rfl 1 (by decide) (hts (.fieldLink R_M 16 R_M "upper" "J") (List.mem_cons_of_mem _ (tm (by decide +kernel) rfl))) (fun _ h9 => h9) rfl d_M_multiply_21 ?_
    refine lv_iconst (v := 1) hx hb d_M_multiply_24 (by decide) ?_
    refine lv_lshl hx hb d_M_multiply_25 rfl ?_
    refine lv_topl (fun v25 e25 => ?_)
    refine lv_aload_n hx hb d_M_multiply_26 rfl (lv_at hl 1 rfl) ?_
    refine va_get (D := (dC, dI)) (ci := 1) (v := .long lo1) (C := R_M) (T := F_M) (N := 4) hx hb hts (fun w h => List.mem_cons_of_mem _ (i_M w h)) hown hK hP 0 rfl rfl 2 (by decide) (hts (.fieldLink R_M 20 R_M "lower" "J") (List.mem_cons_of_mem _ (tm (by decide +kernel) rfl))) (fun _ h9 => h9) rfl d_M_multiply_27 ?_
    refine lv_bipush (v := 63) hx hb d_M_multiply_30 (by decide) ?_
    refine lv_lushr hx hb d_M_multiply_32 rfl ?_
    refine lv_topl (fun v32 e32 => ?_)
    refine lv_lor hx hb d_M_multiply_33 ?_
    refine lv_topl (fun v33 e33 => ?_)
    refine va_put (D := (dC, dI)) (ci := 1) (v := .long v33) (ty := .long) (C := R_M) (T := F_M) (N := 4) hx hb hts (fun w h => List.mem_cons_of_mem _ (i_M w h)) t_M t_M_ok n_M hown hK hP hD hS 0 rfl rfl 1 (by decide) (hts (.fieldLink R_M 16 R_M "upper" "J") (List.mem_cons_of_mem _ (tm (by decide +kernel) rfl))) (fun _ h9 => h9) rfl (by decide +kernel) rfl rfl (Nat.le_of_ble_eq_true rfl) d_M_multiply_34 (fun H locs hP hD hS => ?_)
    have hP : va_P (dC, dI) classes [(h0, .inr (1, [.int th, .long v33, .long lo1, .long le]))] H := hP
    have hD : va_D A [(h0, .inr (1, [.int th, .long v33, .long lo1, .long le]))] := hD
    refine lv_aload_n hx hb d_M_multiply_37 rfl (lv_at hl 1 rfl) ?_
    refine lv_aload_n hx hb d_M_multiply_38 rfl (lv_at hl 1 rfl) ?_
    refine va_get (D := (dC, dI)) (ci := 1) (v := .long lo1) (C := R_M) (T := F_M) (N := 4) hx hb hts (fun w h => List.mem_cons_of_mem _ (i_M w h)) hown hK hP 0 rfl rfl 2 (by decide) (hts (.fieldLink R_M 20 R_M "lower" "J") (List.mem_cons_of_mem _ (tm (by decide +kernel) rfl))) (fun _ h9 => h9) rfl d_M_multiply_39 ?_
    refine lv_iconst (v := 1) hx hb d_M_multiply_42 (by decide) ?_
    refine lv_lshl hx hb d_M_multiply_43 rfl ?_
    refine lv_topl (fun v43 e43 => ?_)
    refine va_put (D := (dC, dI)) (ci := 1) (v := .long v43) (ty := .long) (C := R_M) (T := F_M) (N := 4) hx hb hts (fun w h => List.mem_cons_of_mem _ (i_M w h)) t_M t_M_ok n_M hown hK hP hD hS 0 rfl rfl 2 (by decide) (hts (.fieldLink R_M 20 R_M "lower" "J") (List.mem_cons_of_mem _ (tm (by decide +kernel) rfl))) (fun _ h9 => h9) rfl (by decide +kernel) rfl rfl (Nat.le_of_ble_eq_true rfl) d_M_multiply_44 (fun H locs hP hD hS => ?_)
    have hP : va_P (dC, dI) classes [(h0, .inr (1, [.int th, .long v33, .long v43, .long le]))] H := hP
    have hD : va_D A [(h0, .inr (1, [.int th, .long v33, .long v43, .long le]))] := hD
    have hs := mm_sh (mm_up hE) e25 e32 e33 e43
    refine lv_lload_n hx hb d_M_multiply_47 rfl (lv_at hl 3 rfl) ?_
    refine lv_iload hx hb d_M_multiply_48 (lv_at hl 0 rfl) ?_
    refine lv_lushr hx hb d_M_multiply_50 rfl ?_
    refine lv_topl (fun v50 e50 => ?_)
    refine lv_lconst (v := 1) hx hb d_M_multiply_51 (by decide) ?_
    refine lv_land hx hb d_M_multiply_52 ?_
    refine lv_topl (fun v52 e52 => ?_)
    have hbit := mm_bit hkj (by omega) e50 e52
    refine lv_lconst (v := 1) hx hb d_M_multiply_53 (by decide) ?_
    refine W.lcmp hx hb d_M_multiply_54 ?_
    refine lv_if_ne (tgt := 101) hx hb d_M_multiply_55 (by decide) (fun c55 => ?_) (fun c55 => ?_)
    · skip
      have c55 := (not_congr (lg_cmp_eq _ _)).mp c55
      obtain ⟨v101, e101⟩ : ∃ y : Int32, y = k + Int32.ofInt (-1) := ⟨_, rfl⟩
      refine lv_iinc (v := v101) (lv' := [(5, .int v101), (0, .ref h0), (1, .long a), (3, .long b)]) hx hb d_M_multiply_101 hl (k := 0) rfl (by rw [e101]) (by decide) rfl (fun ls hl => ?_)
      refine lv_goto (tgt := 14) hx hb d_M_multiply_104 (by decide) ?_
      exact ih _ (v33, v43, v101) H _ (Nat.lt_succ_self _) ⟨mm_no hkj hn hE hs.1 (fun z => c55 (hbit.2.mpr z)) e101, hP, hD, hS⟩ _ (lv_sub hl [0, 1, 2, 3] rfl)
    · skip
      have c55 := (lg_cmp_eq _ _).mp c55
      refine lv_aload_n hx hb d_M_multiply_58 rfl (lv_at hl 1 rfl) ?_
      refine va_get (D := (dC, dI)) (ci := 1) (v := .long v43) (C := R_M) (T := F_M) (N := 4) hx hb hts (fun w h => List.mem_cons_of_mem _ (i_M w h)) hown hK hP 0 rfl rfl 2 (by decide) (hts (.fieldLink R_M 20 R_M "lower" "J") (List.mem_cons_of_mem _ (tm (by decide +kernel) rfl))) (fun _ h9 => h9) rfl d_M_multiply_59 ?_
      refine lv_lload_n hx hb d_M_multiply_62 rfl (lv_at hl 2 rfl) ?_
      refine lv_ladd hx hb d_M_multiply_63 ?_
      refine lv_topl (fun v63 e63 => ?_)
      refine lv_lstore (lv' := [(6, .long v63), (5, .int k), (0, .ref h0), (1, .long a), (3, .long b)]) hx hb d_M_multiply_64 hl (by decide) rfl (fun ls hl => ?_)
      refine lv_aload_n hx hb d_M_multiply_66 rfl (lv_at hl 2 rfl) ?_
      refine lv_lload hx hb d_M_multiply_67 (lv_at hl 0 rfl) ?_
      refine lv_aload_n hx hb d_M_multiply_69 rfl (lv_at hl 2 rfl) ?_
      refine va_get (D := (dC, dI)) (ci := 1) (v := .long v43) (C := R_M) (T := F_M) (N := 4) hx hb hts (fun w h => List.mem_cons_of_mem _ (i_M w h)) hown hK hP 0 rfl rfl 2 (by decide) (hts (.fieldLink R_M 20 R_M "lower" "J") (List.mem_cons_of_mem _ (tm (by decide +kernel) rfl))) (fun _ h9 => h9) rfl d_M_multiply_70 ?_
      refine vp_callSi (W.runS (As := [.long v63, .long v43]) (rest := [.ref h0]) ⟨hx, hb, hml, hown, hts⟩ (c_M_below l v63 v43 ) (cwS 2 hts g_M_23 rfl rfl rfl (by decide +kernel) ⟨Nat.le_of_ble_eq_true rfl, Nat.le_of_ble_eq_true rfl⟩) preEq rfl rfl hl.1 rfl (lv_room (Nat.le_of_ble_eq_true rfl)) d_M_multiply_73 ⟨Nat.zero_le _, Nat.zero_le _⟩) (fun v73 e73 => ?_)
      try dsimp only at e73
      refine lv_if_eq (tgt := 88) hx hb d_M_multiply_76 (by decide) (fun c76 => ?_) (fun c76 => ?_)
      · skip
        refine lv_aload_n hx hb d_M_multiply_88 rfl (lv_at hl 2 rfl) ?_
        refine va_get (D := (dC, dI)) (ci := 1) (v := .long v33) (C := R_M) (T := F_M) (N := 4) hx hb hts (fun w h => List.mem_cons_of_mem _ (i_M w h)) hown hK hP 0 rfl rfl 1 (by decide) (hts (.fieldLink R_M 16 R_M "upper" "J") (List.mem_cons_of_mem _ (tm (by decide +kernel) rfl))) (fun _ h9 => h9) rfl d_M_multiply_89 ?_
        refine va_put (D := (dC, dI)) (ci := 1) (v := .long v33) (ty := .long) (C := R_M) (T := F_M) (N := 4) hx hb hts (fun w h => List.mem_cons_of_mem _ (i_M w h)) t_M t_M_ok n_M hown hK hP hD hS 0 rfl rfl 1 (by decide) (hts (.fieldLink R_M 16 R_M "upper" "J") (List.mem_cons_of_mem _ (tm (by decide +kernel) rfl))) (fun _ h9 => h9) rfl (by decide +kernel) rfl rfl (Nat.le_of_ble_eq_true rfl) d_M_multiply_92 (fun H locs hP hD hS => ?_)
        have hP : va_P (dC, dI) classes [(h0, .inr (1, [.int th, .long v33, .long v43, .long le]))] H := hP
        have hD : va_D A [(h0, .inr (1, [.int th, .long v33, .long v43, .long le]))] := hD
        refine lv_aload_n hx hb d_M_multiply_95 rfl (lv_at hl 2 rfl) ?_
        refine lv_lload hx hb d_M_multiply_96 (lv_at hl 0 rfl) ?_
        refine va_put (D := (dC, dI)) (ci := 1) (v := .long v63) (ty := .long) (C := R_M) (T := F_M) (N := 4) hx hb hts (fun w h => List.mem_cons_of_mem _ (i_M w h)) t_M t_M_ok n_M hown hK hP hD hS 0 rfl rfl 2 (by decide) (hts (.fieldLink R_M 20 R_M "lower" "J") (List.mem_cons_of_mem _ (tm (by decide +kernel) rfl))) (fun _ h9 => h9) rfl (by decide +kernel) rfl rfl (Nat.le_of_ble_eq_true rfl) d_M_multiply_98 (fun H locs hP hD hS => ?_)
        have hP : va_P (dC, dI) classes [(h0, .inr (1, [.int th, .long v33, .long v63, .long le]))] H := hP
        have hD : va_D A [(h0, .inr (1, [.int th, .long v33, .long v63, .long le]))] := hD
        obtain ⟨v101, e101⟩ : ∃ y : Int32, y = k + Int32.ofInt (-1) := ⟨_, rfl⟩
        refine lv_iinc (v := v101) (lv' := [(5, .int v101), (6, .long v63), (0, .ref h0), (1, .long a), (3, .long b)]) hx hb d_M_multiply_101 hl (k := 1) rfl (by rw [e101]) (by decide) rfl (fun ls hl => ?_)
        refine lv_goto (tgt := 14) hx hb d_M_multiply_104 (by decide) ?_
        exact ih _ (v33, v63, v101) H _ (Nat.lt_succ_self _) ⟨mm_c0 hkj hn hE hs.1 (hbit.2.mp c55) e63 e73 c76 e101, hP, hD, hS⟩ _ (lv_sub hl [0, 2, 3, 4] rfl)
      · skip
        refine lv_aload_n hx hb d_M_multiply_79 rfl (lv_at hl 2 rfl) ?_
        refine va_get (D := (dC, dI)) (ci := 1) (v := .long v33) (C := R_M) (T := F_M) (N := 4) hx hb hts (fun w h => List.mem_cons_of_mem _ (i_M w h)) hown hK hP 0 rfl rfl 1 (by decide) (hts (.fieldLink R_M 16 R_M "upper" "J") (List.mem_cons_of_mem _ (tm (by decide +kernel) rfl))) (fun _ h9 => h9) rfl d_M_multiply_80 ?_
        refine lv_lconst (v := 1) hx hb d_M_multiply_83 (by decide) ?_
        refine lv_ladd hx hb d_M_multiply_84 ?_
        refine lv_topl (fun v84 e84 => ?_)
        refine lv_goto (tgt := 92) hx hb d_M_multiply_85 (by decide) ?_
        refine va_put (D := (dC, dI)) (ci := 1) (v := .long v84) (ty := .long) (C := R_M) (T := F_M) (N := 4) hx hb hts (fun w h => List.mem_cons_of_mem _ (i_M w h)) t_M t_M_ok n_M hown hK hP hD hS 0 rfl rfl 1 (by decide) (hts (.fieldLink R_M 16 R_M "upper" "J") (List.mem_cons_of_mem _ (tm (by decide +kernel) rfl))) (fun _ h9 => h9) rfl (by decide +kernel) rfl rfl (Nat.le_of_ble_eq_true rfl) d_M_multiply_92 (fun H locs hP hD hS => ?_)
        have hP : va_P (dC, dI) classes [(h0, .inr (1, [.int th, .long v84, .long v43, .long le]))] H := hP
        have hD : va_D A [(h0, .inr (1, [.int th, .long v84, .long v43, .long le]))] := hD
        refine lv_aload_n hx hb d_M_multiply_95 rfl (lv_at hl 2 rfl) ?_
        refine lv_lload hx hb d_M_multiply_96 (lv_at hl 0 rfl) ?_
        refine va_put (D := (dC, dI)) (ci := 1) (v := .long v63) (ty := .long) (C := R_M) (T := F_M) (N := 4) hx hb hts (fun w h => List.mem_cons_of_mem _ (i_M w h)) t_M t_M_ok n_M hown hK hP hD hS 0 rfl rfl 2 (by decide) (hts (.fieldLink R_M 20 R_M "lower" "J") (List.mem_cons_of_mem _ (tm (by decide +kernel) rfl))) (fun _ h9 => h9) rfl (by decide +kernel) rfl rfl (Nat.le_of_ble_eq_true rfl) d_M_multiply_98 (fun H locs hP hD hS => ?_)
        have hP : va_P (dC, dI) classes [(h0, .inr (1, [.int th, .long v84, .long v63, .long le]))] H := hP
        have hD : va_D A [(h0, .inr (1, [.int th, .long v84, .long v63, .long le]))] := hD
        obtain ⟨v101, e101⟩ : ∃ y : Int32, y = k + Int32.ofInt (-1) := ⟨_, rfl⟩
        refine lv_iinc (v := v101) (lv' := [(5, .int v101), (6, .long v63), (0, .ref h0), (1, .long a), (3, .long b)]) hx hb d_M_multiply_101 hl (k := 1) rfl (by rw [e101]) (by decide) rfl (fun ls hl => ?_)
        refine lv_goto (tgt := 14) hx hb d_M_multiply_104 (by decide) ?_
        exact ih _ (v84, v63, v101) H _ (Nat.lt_succ_self _) ⟨mm_c1 hkj hn hE hs.1 (hbit.2.mp c55) e63 e73 c76 e84 e101, hP, hD, hS⟩ _ (lv_sub hl [0, 2, 3, 4] rfl)
set_option maxHeartbeats 4000000 in
set_option maxRecDepth 100000 in
theorem c_M_divide (l : Launch) (dC : Nat → ClassId) (dI : Nat → Nat → Nat) (h0 sz : Nat) (th : Int32) (up lo le : Int64) (x : Int64) (hx0 : 0 < uN x) (hx1 : uN x ≤ 9223372036854775808) : Met l y_M_divide w_M_divide ({ frames := 1, cells := 0, slots := 0, locals := 30 }) (va_Pc [.ref h0, .long x] (fun U => U.heap.size = sz ∧ va_P (dC, dI) classes [(h0, .inr (1, [.int th, .long up, .long lo, .long le]))] U.heap ∧ va_K (dC, dI) classes [] U ∧ va_D (fun _ => True) [(h0, .inr (1, [.int th, .long up, .long lo, .long le]))])) (va_Qv (fun (u : MS) => u.1 = th ∧ uN u.2.1 * 18446744073709551616 + uN u.2.2.1 = (uN up * 18446744073709551616 + uN lo) / uN x ∧ uN u.2.2.2 = (uN up * 18446744073709551616 + uN lo) % uN x) (at_M dC dI (va_A [(h0, .inr (1, [.int th, .long up, .long lo, .long le]))] sz) h0) (va_A [(h0, .inr (1, [.int th, .long up, .long lo, .long le]))] sz)) 0 0 (va_A [(h0, .inr (1, [.int th, .long up, .long lo, .long le]))] sz) := by
  refine Met.ofW (cc := b_M_divide) (maxL := 13) (ret := none) (by decide) rfl ?_
  intro p e s m args below meth c s₁ B hml hv
  obtain ⟨rfl, hsz, hP, hK, hD0⟩ := hv
  have hx := B.exec
  have hb := B.bytes
  have hr := B.returns
  have hts := atoms_spec (ws := w_M_divide) B.pre
  have hown : s.vm.findClass R_M = some m.cls := findClass_of_methodNamed B.named
  have hlocks := B.notSynchronized
  subst hsz
  have hD := hD0.self (sz := s.heap.size)
  generalize hAe : va_A [(h0, .inr (1, [.int th, .long up, .long lo, .long le]))] s.heap.size = A at hD ⊢
  have hA : ∀ q : Nat, s.heap.size ≤ q → A q := fun q h => by rw [← hAe]; exact Or.inr h
  have hS : va_S A s.heap s.heap [] := va_S.rf
  have hP : va_P (dC, dI) classes [(h0, .inr (1, [.int th, .long up, .long lo, .long le]))] s.heap := hP
  have hl := lv_entry ([.ref h0, .long x]) (n := 13) (Nat.le_of_ble_eq_true rfl)
  rw [lg_entry_eq]
  generalize (lg_sl ([.ref h0, .long x]) ++ List.replicate (13 - (lg_sl ([.ref h0, .long x])).length) Slot.unset).toArray = ls at hl ⊢
  have hl : lv_has ls 13 [(0, .ref h0), (1, .long x)] := hl
  refine lv_lconst (v := 0) hx hb d_M_divide_0 (by decide) ?_
  refine lv_lstore_n (lv' := [(3, .long 0), (0, .ref h0), (1, .long x)]) hx hb d_M_divide_1 rfl hl (by decide) rfl (fun ls hl => ?_)
  refine lv_lconst (v := 0) hx hb d_M_divide_2 (by decide) ?_
  refine lv_lstore (lv' := [(5, .long 0), (3, .long 0), (0, .ref h0), (1, .long x)]) hx hb d_M_divide_3 hl (by decide) rfl (fun ls hl => ?_)
  refine lv_lconst (v := 0) hx hb d_M_divide_5 (by decide) ?_
  refine lv_lstore (lv' := [(7, .long 0), (5, .long 0), (3, .long 0), (0, .ref h0), (1, .long x)]) hx hb d_M_divide_6 hl (by decide) rfl (fun ls hl => ?_)
  refine lv_bipush (v := 127) hx hb d_M_divide_8 (by decide) ?_
  refine lv_istore (lv' := [(9, .int 127), (7, .long 0), (5, .long 0), (3, .long 0), (0, .ref h0), (1, .long x)]) hx hb d_M_divide_10 hl (by decide) rfl (fun ls hl => ?_)
  obtain ⟨N, hNe⟩ : ∃ n, n = uN up * 18446744073709551616 + uN lo := ⟨_, rfl⟩
  have hNb : N < 2 ^ 128 := by rw [hNe]; exact md_N up lo
  obtain ⟨C, hCe⟩ : ∃ n, n = uN x := ⟨_, rfl⟩
  have hC0 : 0 < C := by omega
  have hC1 : C ≤ 9223372036854775808 := by omega
  refine lp_W (nL := 13) (J := 12) (fun z : Int64 × Int64 × Int64 × Int32 => [(9, .int z.2.2.2), (7, .long z.2.2.1), (5, .long z.2.1), (3, .long z.1), (0, .ref h0), (1, .long x)]) (md_I N C) (fun n z hI ih ls hl => ?_) 128 (0, 0, 0, 127) (md_0 hNb hC0) (lv_sub hl [0, 1, 2, 3, 4, 5] rfl)
  obtain ⟨high, low, rest, k⟩ := z
  obtain ⟨hk, hn, hR, hE⟩ := hI
  dsimp only at hk hR hE
  have hr0 : 0 ≤ rest := (ra_pos rest).mpr (by omega)
  have hl : lv_has ls 13 [(9, .int k), (7, .long rest), (5, .long low), (3, .long high), (0, .ref h0), (1, .long x)] := hl
  refine lv_iload hx hb d_M_divide_12 (lv_at hl 0 rfl) ?_
  refine lv_if_lt (tgt := 121) hx hb d_M_divide_14 (by decide) (fun c14 => ?_) (fun c14 => ?_)
  · skip
    have z := dn_neg (by omega) hk c14
    subst z
    have hend := md_end hC0 hR hE
    refine lv_aload_n hx hb d_M_divide_121 rfl (lv_at hl 4 rfl) ?_
    refine lv_lload_n hx hb d_M_divide_122 rfl (lv_at hl 3 rfl) ?_
    refine va_put (D := (dC, dI)) (ci := 1) (v := .long high) (ty := .long) (C := R_M) (T := F_M) (N := 4) hx hb hts (fun w h => List.mem_cons_of_mem _ (i_M w h)) t_M t_M_ok n_M hown hK hP hD hS 0 rfl rfl 1 (by decide) (hts (.fieldLink R_M 16 R_M "upper" "J") (List.mem_cons_of_mem _ (tm (by decide +kernel) rfl))) (fun _ h9 => h9) rfl (by decide +kernel) rfl rfl (Nat.le_of_ble_eq_true rfl) d_M_divide_123 (fun H locs hP hD hS => ?_)
    have hP : va_P (dC, dI) classes [(h0, .inr (1, [.int th, .long high, .long lo, .long le]))] H := hP
    have hD : va_D A [(h0, .inr (1, [.int th, .long high, .long lo, .long le]))] := hD
    refine lv_aload_n hx hb d_M_divide_126 rfl (lv_at hl 4 rfl) ?_
    refine lv_lload hx hb d_M_divide_127 (lv_at hl 2 rfl) ?_
    refine va_put (D := (dC, dI)) (ci := 1) (v := .long low) (ty := .long) (C := R_M) (T := F_M) (N := 4) hx hb hts (fun w h => List.mem_cons_of_mem _ (i_M w h)) t_M t_M_ok n_M hown hK hP hD hS 0 rfl rfl 2 (by decide) (hts (.fieldLink R_M 20 R_M "lower" "J") (List.mem_cons_of_mem _ (tm (by decide +kernel) rfl))) (fun _ h9 => h9) rfl (by decide +kernel) rfl rfl (Nat.le_of_ble_eq_true rfl) d_M_divide_129 (fun H locs hP hD hS => ?_)
    have hP : va_P (dC, dI) classes [(h0, .inr (1, [.int th, .long high, .long low, .long le]))] H := hP
    have hD : va_D A [(h0, .inr (1, [.int th, .long high, .long low, .long le]))] := hD
    refine lv_aload_n hx hb d_M_divide_132 rfl (lv_at hl 4 rfl) ?_
    refine lv_lload hx hb d_M_divide_133 (lv_at hl 1 rfl) ?_
    refine va_put (D := (dC, dI)) (ci := 1) (v := .long rest) (ty := .long) (C := R_M) (T := F_M) (N := 4) hx hb hts (fun w h => List.mem_cons_of_mem _ (i_M w h)) t_M t_M_ok n_M hown hK hP hD hS 0 rfl rfl 3 (by decide) (hts (.fieldLink R_M 27 R_M "left" "J") (List.mem_cons_of_mem _ (tm (by decide +kernel) rfl))) (fun _ h9 => h9) rfl (by decide +kernel) rfl rfl (Nat.le_of_ble_eq_true rfl) d_M_divide_135 (fun H locs hP hD hS => ?_)
    have hP : va_P (dC, dI) classes [(h0, .inr (1, [.int th, .long high, .long low, .long rest]))] H := hP
    have hD : va_D A [(h0, .inr (1, [.int th, .long high, .long low, .long rest]))] := hD
    exact W.vret hx hb hr (fun t ht hW => ⟨⟨(th, high, low, rest), rfl, ⟨rfl, by rw [← hNe, ← hCe]; exact hend.1, by rw [← hNe, ← hCe]; exact hend.2⟩, by rw [ht]; exact hP, va_K.moved hW.alike hK, hD⟩, hS.F ht⟩) hS.2.2 d_M_divide_138
  · skip
    obtain ⟨j, rfl, hkj⟩ := dn_nn (by omega) hk c14
    refine lv_iload hx hb d_M_divide_17 (lv_at hl 0 rfl) ?_
    refine lv_bipush (v := 63) hx hb d_M_divide_19 (by decide) ?_
    refine jn_l (J := 48) (rest := []) (fun v => uN v = N / 2 ^ j % 2) (fun v48 e48 => ?_) (fun K48 => ?_)
    · skip
      refine lv_lstore (lv' := [(10, .long v48), (9, .int k), (7, .long rest), (5, .long low), (3, .long high), (0, .ref h0), (1, .long x)]) hx hb d_M_divide_48 hl (by decide) rfl (fun ls hl => ?_)
      refine lv_lload hx hb d_M_divide_50 (lv_at hl 2 rfl) ?_
      refine lv_lconst (v := 0) hx hb d_M_divide_52 (by decide) ?_
      refine W.lcmp hx hb d_M_divide_53 ?_
      refine lv_if_ge (tgt := 61) hx hb d_M_divide_54 (by decide) (fun c54 => ?_) (fun c54 => absurd ((lg_cmp_ge _ _).mpr hr0) c54)
      refine lv_iconst (v := 0) hx hb d_M_divide_61 (by decide) ?_
      refine lv_istore (lv' := [(12, .int 0), (10, .long v48), (9, .int k), (7, .long rest), (5, .long low), (3, .long high), (0, .ref h0), (1, .long x)]) hx hb d_M_divide_62 hl (by decide) rfl (fun ls hl => ?_)
      refine lv_lload hx hb d_M_divide_64 (lv_at hl 3 rfl) ?_
      refine lv_iconst (v := 1) hx hb d_M_divide_66 (by decide) ?_
      refine lv_lshl hx hb d_M_divide_67 rfl ?_
      refine lv_topl (fun v67 e67 => ?_)
      refine lv_lload hx hb d_M_divide_68 (lv_at hl 1 rfl) ?_
      refine lv_lor hx hb d_M_divide_70 ?_
      refine lv_topl (fun v70 e70 => ?_)
      have f70 := md_rest hR hC1 e48 (Nat.mod_lt _ (by decide)) e67 e70
      refine lv_lstore (lv' := [(7, .long v70), (12, .int 0), (10, .long v48), (9, .int k), (5, .long low), (3, .long high), (0, .ref h0), (1, .long x)]) hx hb d_M_divide_71 hl (by decide) rfl (fun ls hl => ?_)
      refine lv_lload_n hx hb d_M_divide_73 rfl (lv_at hl 5 rfl) ?_
      refine lv_iconst (v := 1) hx hb d_M_divide_74 (by decide) ?_
      refine lv_lshl hx hb d_M_divide_75 rfl ?_
      refine lv_topl (fun v75 e75 => ?_)
      refine lv_lload hx hb d_M_divide_76 (lv_at hl 4 rfl) ?_
      refine lv_bipush (v := 63) hx hb d_M_divide_78 (by decide) ?_
      refine lv_lushr hx hb d_M_divide_80 rfl ?_
      refine lv_topl (fun v80 e80 => ?_)
      refine lv_lor hx hb d_M_divide_81 ?_
      refine lv_topl (fun v81 e81 => ?_)
      refine lv_lstore_n (lv' := [(3, .long v81), (7, .long v70), (12, .int 0), (10, .long v48), (9, .int k), (5, .long low), (0, .ref h0), (1, .long x)]) hx hb d_M_divide_82 rfl hl (by decide) rfl (fun ls hl => ?_)
      refine lv_lload hx hb d_M_divide_83 (lv_at hl 5 rfl) ?_
      refine lv_iconst (v := 1) hx hb d_M_divide_85 (by decide) ?_
      refine lv_lshl hx hb d_M_divide_86 rfl ?_
      refine lv_topl (fun v86 e86 => ?_)
      have hs := mm_sh (up := high) (by have := md_top hNb hC0 hE; have := uN_lt low; omega) e75 e80 e81 e86
      refine lv_lstore (lv' := [(5, .long v86), (3, .long v81), (7, .long v70), (12, .int 0), (10, .long v48), (9, .int k), (0, .ref h0), (1, .long x)]) hx hb d_M_divide_87 hl (by decide) rfl (fun ls hl => ?_)
      refine lv_iload hx hb d_M_divide_89 (lv_at hl 3 rfl) ?_
      refine lv_if_ne (tgt := 103) hx hb d_M_divide_91 (by decide) (fun q => absurd (by decide) q) (fun _ => ?_)
      refine lv_lload hx hb d_M_divide_94 (lv_at hl 2 rfl) ?_
      refine lv_lload_n hx hb d_M_divide_96 rfl (lv_at hl 7 rfl) ?_
      refine vp_callSi (W.runS (As := [.long v70, .long x]) (rest := []) ⟨hx, hb, hml, hown, hts⟩ (c_M_below l v70 x ) (cwS 2 hts g_M_23 rfl rfl rfl (by decide +kernel) ⟨Nat.le_of_ble_eq_true rfl, Nat.le_of_ble_eq_true rfl⟩) preEq rfl rfl hl.1 rfl (lv_room (Nat.le_of_ble_eq_true rfl)) d_M_divide_97 ⟨Nat.zero_le _, Nat.zero_le _⟩) (fun v97 e97 => ?_)
      try dsimp only at e97
      refine lv_if_ne (tgt := 115) hx hb d_M_divide_100 (by decide) (fun c100 => ?_) (fun c100 => ?_)
      · skip
        have cx : uN v70 < C := Classical.byContradiction (fun q => by rw [hCe] at q; rw [if_neg q] at e97; exact c100 e97)
        obtain ⟨v115, e115⟩ : ∃ y : Int32, y = k + Int32.ofInt (-1) := ⟨_, rfl⟩
        refine lv_iinc (v := v115) (lv' := [(9, .int v115), (5, .long v86), (3, .long v81), (7, .long v70), (12, .int 0), (10, .long v48), (0, .ref h0), (1, .long x)]) hx hb d_M_divide_115 hl (k := 5) rfl (by rw [e115]) (by decide) rfl (fun ls hl => ?_)
        refine lv_goto (tgt := 12) hx hb d_M_divide_118 (by decide) ?_
        exact ih _ (v81, v86, v70, v115) (Nat.lt_succ_self _) (md_a hkj hn hE hs.1 f70 cx e115) _ (lv_sub hl [0, 3, 1, 2, 6, 7] rfl)
      · skip
        have cx : ¬ uN v70 < C := fun q => by rw [hCe] at q; rw [if_pos q] at e97; rw [e97] at c100; exact absurd c100 (by decide)
        refine lv_lload hx hb d_M_divide_103 (lv_at hl 2 rfl) ?_
        refine lv_lload_n hx hb d_M_divide_105 rfl (lv_at hl 7 rfl) ?_
        refine lv_lsub hx hb d_M_divide_106 ?_
        refine lv_topl (fun v106 e106 => ?_)
        refine lv_lstore (lv' := [(7, .long v106), (5, .long v86), (3, .long v81), (12, .int 0), (10, .long v48), (9, .int k), (0, .ref h0), (1, .long x)]) hx hb d_M_divide_107 hl (by decide) rfl (fun ls hl => ?_)
        refine lv_lload hx hb d_M_divide_109 (lv_at hl 1 rfl) ?_
        refine lv_lconst (v := 1) hx hb d_M_divide_111 (by decide) ?_
        refine lv_lor hx hb d_M_divide_112 ?_
        refine lv_topl (fun v112 e112 => ?_)
        refine lv_lstore (lv' := [(5, .long v112), (7, .long v106), (3, .long v81), (12, .int 0), (10, .long v48), (9, .int k), (0, .ref h0), (1, .long x)]) hx hb d_M_divide_113 hl (by decide) rfl (fun ls hl => ?_)
        obtain ⟨v115, e115⟩ : ∃ y : Int32, y = k + Int32.ofInt (-1) := ⟨_, rfl⟩
        refine lv_iinc (v := v115) (lv' := [(9, .int v115), (5, .long v112), (7, .long v106), (3, .long v81), (12, .int 0), (10, .long v48), (0, .ref h0), (1, .long x)]) hx hb d_M_divide_115 hl (k := 5) rfl (by rw [e115]) (by decide) rfl (fun ls hl => ?_)
        refine lv_goto (tgt := 12) hx hb d_M_divide_118 (by decide) ?_
        exact ih _ (v81, v112, v106, v115) (Nat.lt_succ_self _) (md_b hkj hn hCe.symm hR hE hs.1 f70 cx e106 (by rw [e112]; exact hs.2) e115) _ (lv_sub hl [0, 2, 1, 3, 6, 7] rfl)
    · skip
      refine lv_icmp_le (tgt := 39) hx hb d_M_divide_21 (by decide) (fun c21 => ?_) (fun c21 => ?_)
      · skip
        refine lv_aload_n hx hb d_M_divide_39 rfl (lv_at hl 4 rfl) ?_
        refine va_get (D := (dC, dI)) (ci := 1) (v := .long lo) (C := R_M) (T := F_M) (N := 4) hx hb hts (fun w h => List.mem_cons_of_mem _ (i_M w h)) hown hK hP 0 rfl rfl 2 (by decide) (hts (.fieldLink R_M 20 R_M "lower" "J") (List.mem_cons_of_mem _ (tm (by decide +kernel) rfl))) (fun _ h9 => h9) rfl d_M_divide_40 ?_
        refine lv_iload hx hb d_M_divide_43 (lv_at hl 0 rfl) ?_
        refine lv_lushr hx hb d_M_divide_45 rfl ?_
        refine lv_topl (fun v45 e45 => ?_)
        refine lv_lconst (v := 1) hx hb d_M_divide_46 (by decide) ?_
        refine lv_land hx hb d_M_divide_47 ?_
        refine lv_topl (fun v47 e47 => ?_)
        exact K48 _ (by rw [hNe]; first | exact md_hi hkj (by omega) c21 e32 e33 e35 | exact md_lo hkj (by omega) c21 e45 e47)
      · skip
        refine lv_aload_n hx hb d_M_divide_24 rfl (lv_at hl 4 rfl) ?_
        refine va_get (D := (dC, dI)) (ci := 1) (v := .long up) (C := R_M) (T := F_M) (N := 4) hx hb hts (fun w h => List.mem_cons_of_mem _ (i_M w h)) hown hK hP 0 rfl rfl 1 (by decide) (hts (.fieldLink R_M 16 R_M "upper" "J") (List.mem_cons_of_mem _ (tm (by decide +kernel) rfl))) (fun _ h9 => h9) rfl d_M_divide_25 ?_
        refine lv_iload hx hb d_M_divide_28 (lv_at hl 0 rfl) ?_
        refine lv_bipush (v := 64) hx hb d_M_divide_30 (by decide) ?_
        refine lv_isub hx hb d_M_divide_32 ?_
        refine lv_topi (fun v32 e32 => ?_)
        refine lv_lushr hx hb d_M_divide_33 rfl ?_
        refine lv_topl (fun v33 e33 => ?_)
        refine lv_lconst (v := 1) hx hb d_M_divide_34 (by decide) ?_
        refine lv_land hx hb d_M_divide_35 ?_
        refine lv_topl (fun v35 e35 => ?_)
        refine lv_goto (tgt := 48) hx hb d_M_divide_36 (by decide) ?_
        exact K48 _ (by rw [hNe]; first | exact md_hi hkj (by omega) c21 e32 e33 e35 | exact md_lo hkj (by omega) c21 e45 e47)
set_option maxHeartbeats 4000000 in
set_option maxRecDepth 100000 in
theorem c_M_exact (l : Launch) (dC : Nat → ClassId) (dI : Nat → Nat → Nat) (h0 sz : Nat) (th : Int32) (up lo le : Int64) (a b d : Int64) (hd0 : d.toInt ≠ 0) : Met l y_M_exact w_M_exact ({ frames := 2, cells := 0, slots := 0, locals := 80 }) (va_Pc [.ref h0, .long a, .long b, .long d] (fun U => U.heap.size = sz ∧ va_P (dC, dI) classes [(h0, .inr (1, [.int th, .long up, .long lo, .long le]))] U.heap ∧ va_K (dC, dI) classes [] U ∧ va_D (fun _ => True) [(h0, .inr (1, [.int th, .long up, .long lo, .long le]))])) (va_Ql (fun (r : Int64) (u : MS) => u.1 = th ∧ ((u.2.2.2 = 0 ∧ sp_rok a.toInt b.toInt d.toInt r.toInt) ∨ (¬ u.2.2.2 = 0 ∧ sp_rno a.toInt b.toInt d.toInt))) (at_M dC dI (va_A [(h0, .inr (1, [.int th, .long up, .long lo, .long le]))] sz) h0) (va_A [(h0, .inr (1, [.int th, .long up, .long lo, .long le]))] sz)) 0 0 (va_A [(h0, .inr (1, [.int th, .long up, .long lo, .long le]))] sz) := by
  refine Met.ofW (cc := b_M_exact) (maxL := 9) (ret := some .long) (by decide) rfl ?_
  intro p e s m args below meth c s₁ B hml hv
  obtain ⟨rfl, hsz, hP, hK, hD0⟩ := hv
  have hx := B.exec
  have hb := B.bytes
  have hr := B.returns
  have hts := atoms_spec (ws := w_M_exact) B.pre
  have hown : s.vm.findClass R_M = some m.cls := findClass_of_methodNamed B.named
  have hlocks := B.notSynchronized
  subst hsz
  have hD := hD0.self (sz := s.heap.size)
  generalize hAe : va_A [(h0, .inr (1, [.int th, .long up, .long lo, .long le]))] s.heap.size = A at hD ⊢
  have hA : ∀ q : Nat, s.heap.size ≤ q → A q := fun q h => by rw [← hAe]; exact Or.inr h
  have hS : va_S A s.heap s.heap [] := va_S.rf
  have hP : va_P (dC, dI) classes [(h0, .inr (1, [.int th, .long up, .long lo, .long le]))] s.heap := hP
  have hl := lv_entry ([.ref h0, .long a, .long b, .long d]) (n := 9) (Nat.le_of_ble_eq_true rfl)
  rw [lg_entry_eq]
  generalize (lg_sl ([.ref h0, .long a, .long b, .long d]) ++ List.replicate (9 - (lg_sl ([.ref h0, .long a, .long b, .long d])).length) Slot.unset).toArray = ls at hl ⊢
  have hl : lv_has ls 9 [(0, .ref h0), (1, .long a), (3, .long b), (5, .long d)] := hl
  refine lv_aload_n hx hb d_M_exact_0 rfl (lv_at hl 0 rfl) ?_
  refine lv_lload_n hx hb d_M_exact_1 rfl (lv_at hl 1 rfl) ?_
  refine vp_callSl (W.runS (As := [.long a]) (rest := [.ref h0]) ⟨hx, hb, hml, hown, hts⟩ (c_M_size l a ) (cwS 1 hts g_M_30 rfl rfl rfl (by decide +kernel) ⟨Nat.le_of_ble_eq_true rfl, Nat.le_of_ble_eq_true rfl⟩) preEq rfl rfl hl.1 rfl (lv_room (Nat.le_of_ble_eq_true rfl)) d_M_exact_2 ⟨Nat.zero_le _, Nat.zero_le _⟩) (fun v2 e2 => ?_)
  try dsimp only at e2
  refine lv_lload_n hx hb d_M_exact_5 rfl (lv_at hl 2 rfl) ?_
  refine vp_callSl (W.runS (As := [.long b]) (rest := [.long v2, .ref h0]) ⟨hx, hb, hml, hown, hts⟩ (c_M_size l b ) (cwS 1 hts g_M_30 rfl rfl rfl (by decide +kernel) ⟨Nat.le_of_ble_eq_true rfl, Nat.le_of_ble_eq_true rfl⟩) preEq rfl rfl hl.1 rfl (lv_room (Nat.le_of_ble_eq_true rfl)) d_M_exact_6 ⟨Nat.zero_le _, Nat.zero_le _⟩) (fun v6 e6 => ?_)
  try dsimp only at e6
  have hPc := hP.sub (ws' := [(h0, .inr (1, [.int th, .long up, .long lo, .long le]))]) [0] rfl
  have hDc := hD.sub (ws' := [(h0, .inr (1, [.int th, .long up, .long lo, .long le]))]) [0] (by decide) rfl
  have hKc := hK.sub (tys' := []) [] rfl
  have hFc := va_free (wc := [(h0, .inr (1, [.int th, .long up, .long lo, .long le]))]) hD hS hA [0] rfl
  refine va_callv (va_runV (As := [.long v2, .long v6]) (rest := []) ⟨hx, hb, hml, hown, hts⟩ (c_M_multiply l dC dI h0 s.heap.size th up lo le v2 v6 ) (cwV 2 hts g_M_34 rfl rfl rfl (by decide +kernel) ⟨Nat.le_of_ble_eq_true rfl, Nat.le_of_ble_eq_true rfl⟩) ⟨fun a U g mk q => by obtain ⟨q0, q1, qP, qK, qD⟩ := q; exact ⟨q0, q1, qP, va_K.moved (u := U) (U := U.calling g mk a) (Vm.Alike.refl U.vm) qK, qD⟩, va_recv hKc hPc (ci := 1) (q0 := 0) rfl rfl, fun U hU hW => ⟨rfl, by rw [hU], by rw [hU]; exact hPc, va_K.moved hW.alike hKc, hDc.weaken (fun _ _ _ _ => trivial)⟩⟩ rfl rfl hl.1 rfl (lv_room (Nat.le_of_ble_eq_true rfl)) d_M_exact_9 ⟨Nat.le_of_ble_eq_true rfl, Nat.le_of_ble_eq_true rfl⟩) hS (fun q _ h => hFc q h) hFc (fun u t H1 locs ht hvm hw hB hz1 hk1 hS => ?_)
  obtain ⟨th9, up9, lo9, le9⟩ := u
  obtain ⟨hP1, hK1, hD1⟩ := hB
  rw [ht] at hP1
  have hK1 := va_K.moved hvm.symm hK1
  have e9 := hw
  dsimp only at e9
  obtain ⟨hP, hD⟩ := va_join (wr := []) (w1 := [(h0, .inr (1, [.int th9, .long up9, .long lo9, .long le9]))]) hP hD [0] [] rfl rfl (by decide) (by decide) hk1 hFc hP1 hD1
  have hK := (hK.sub (tys' := []) [] rfl).app hK1
  generalize H1 = H at hP hS ⊢
  have hP : va_P (dC, dI) classes [(h0, .inr (1, [.int th9, .long up9, .long lo9, .long le9]))] H := hP
  have hD : va_D A [(h0, .inr (1, [.int th9, .long up9, .long lo9, .long le9]))] := hD
  have hK : va_K (dC, dI) classes [] s := hK
  refine lv_aload_n hx hb d_M_exact_12 rfl (lv_at hl 0 rfl) ?_
  refine lv_lload hx hb d_M_exact_13 (lv_at hl 3 rfl) ?_
  refine vp_callSl (W.runS (As := [.long d]) (rest := [.ref h0]) ⟨hx, hb, hml, hown, hts⟩ (c_M_size l d ) (cwS 1 hts g_M_30 rfl rfl rfl (by decide +kernel) ⟨Nat.le_of_ble_eq_true rfl, Nat.le_of_ble_eq_true rfl⟩) preEq rfl rfl hl.1 rfl (lv_room (Nat.le_of_ble_eq_true rfl)) d_M_exact_15 ⟨Nat.zero_le _, Nat.zero_le _⟩) (fun v15 e15 => ?_)
  try dsimp only at e15
  have hPc := hP.sub (ws' := [(h0, .inr (1, [.int th9, .long up9, .long lo9, .long le9]))]) [0] rfl
  have hDc := hD.sub (ws' := [(h0, .inr (1, [.int th9, .long up9, .long lo9, .long le9]))]) [0] (by decide) rfl
  have hKc := hK.sub (tys' := []) [] rfl
  have hFc := va_free (wc := [(h0, .inr (1, [.int th9, .long up9, .long lo9, .long le9]))]) hD hS hA [0] rfl
  refine va_callv (va_runV (As := [.long v15]) (rest := []) ⟨hx, hb, hml, hown, hts⟩ (c_M_divide l dC dI h0 H.size th9 up9 lo9 le9 v15 (by rw [e15]; exact Int.natAbs_pos.mpr hd0) (by rw [e15]; have := fx_i64 d; omega)) (cwV 1 hts g_M_38 rfl rfl rfl (by decide +kernel) ⟨Nat.le_of_ble_eq_true rfl, Nat.le_of_ble_eq_true rfl⟩) ⟨fun a U g mk q => by obtain ⟨q0, q1, qP, qK, qD⟩ := q; exact ⟨q0, q1, qP, va_K.moved (u := U) (U := U.calling g mk a) (Vm.Alike.refl U.vm) qK, qD⟩, va_recv hKc hPc (ci := 1) (q0 := 0) rfl rfl, fun U hU hW => ⟨rfl, by rw [hU], by rw [hU]; exact hPc, va_K.moved hW.alike hKc, hDc.weaken (fun _ _ _ _ => trivial)⟩⟩ rfl rfl hl.1 rfl (lv_room (Nat.le_of_ble_eq_true rfl)) d_M_exact_18 ⟨Nat.le_of_ble_eq_true rfl, Nat.le_of_ble_eq_true rfl⟩) hS (fun q _ h => hFc q h) hFc (fun u t H1 locs ht hvm hw hB hz1 hk1 hS => ?_)
  obtain ⟨th18, up18, lo18, le18⟩ := u
  obtain ⟨hP1, hK1, hD1⟩ := hB
  rw [ht] at hP1
  have hK1 := va_K.moved hvm.symm hK1
  have e18 := hw
  dsimp only at e18
  obtain ⟨hP, hD⟩ := va_join (wr := []) (w1 := [(h0, .inr (1, [.int th18, .long up18, .long lo18, .long le18]))]) hP hD [0] [] rfl rfl (by decide) (by decide) hk1 hFc hP1 hD1
  have hK := (hK.sub (tys' := []) [] rfl).app hK1
  generalize H1 = H at hP hS ⊢
  have hP : va_P (dC, dI) classes [(h0, .inr (1, [.int th18, .long up18, .long lo18, .long le18]))] H := hP
  have hD : va_D A [(h0, .inr (1, [.int th18, .long up18, .long lo18, .long le18]))] := hD
  have hK : va_K (dC, dI) classes [] s := hK
  obtain ⟨hQ0, hR00⟩ := ex_QR e2 e6 e15 e9.2.2 e18.2.1 e18.2.2
  obtain ⟨Q, hQx⟩ : ∃ n, n = a.toInt.natAbs * b.toInt.natAbs / d.toInt.natAbs := ⟨_, rfl⟩
  obtain ⟨R, hRx⟩ : ∃ n, n = a.toInt.natAbs * b.toInt.natAbs % d.toInt.natAbs := ⟨_, rfl⟩
  have hQ : Q = uN up18 * 18446744073709551616 + uN lo18 := by rw [hQx, hQ0]
  have hRe : uN le18 = R := by rw [hRx, hR00]
  have hR0 : le18 = 0 ↔ R = 0 := by rw [ex_0, hRe]
  refine lv_lload_n hx hb d_M_exact_21 rfl (lv_at hl 1 rfl) ?_
  refine lv_lconst (v := 0) hx hb d_M_exact_22 (by decide) ?_
  refine W.lcmp hx hb d_M_exact_23 ?_
  refine jn_i (J := 32) (rest := []) (fun v => v = if a.toInt < 0 then 1 else 0) (fun v32 e32 => ?_) (fun K32 => ?_)
  · skip
    refine lv_lload_n hx hb d_M_exact_32 rfl (lv_at hl 2 rfl) ?_
    refine lv_lconst (v := 0) hx hb d_M_exact_33 (by decide) ?_
    refine W.lcmp hx hb d_M_exact_34 ?_
    refine jn_i (J := 43) (rest := [.int v32]) (fun v => v = if b.toInt < 0 then 1 else 0) (fun v43 e43 => ?_) (fun K43 => ?_)
    · skip
      refine jn_i (J := 51) (rest := []) (fun v => v = if v32 = v43 then 0 else 1) (fun v51 e51 => ?_) (fun K51 => ?_)
      · skip
        have f51 := ex_51 (a := 0) (b := 0) e32 e43 e51
        refine lv_lload hx hb d_M_exact_51 (lv_at hl 3 rfl) ?_
        refine lv_lconst (v := 0) hx hb d_M_exact_53 (by decide) ?_
        refine W.lcmp hx hb d_M_exact_54 ?_
        refine jn_i (J := 63) (rest := [.int v51]) (fun v => v = if d.toInt < 0 then 1 else 0) (fun v63 e63 => ?_) (fun K63 => ?_)
        · skip
          have hng := ex_63 f51 e63
          refine jn_i (J := 98) (rest := []) (fun v => v = if sp_neg a.toInt b.toInt d.toInt ∧ (¬ up18 = 0 ∨ ¬ lo18 = 0 ∨ ¬ le18 = 0) then 1 else 0) (fun v98 e98 => ?_) (fun K98 => ?_)
          · skip
            have hN9 : (sp_neg a.toInt b.toInt d.toInt ∧ (¬ up18 = 0 ∨ ¬ lo18 = 0 ∨ ¬ le18 = 0)) ↔ sp_neg a.toInt b.toInt d.toInt ∧ ¬ (Q = 0 ∧ R = 0) := by rw [ex_zero hQ.symm hRe]
            refine lv_istore (lv' := [(7, .int v98), (0, .ref h0), (1, .long a), (3, .long b), (5, .long d)]) hx hb d_M_exact_98 hl (by decide) rfl (fun ls hl => ?_)
            refine lv_iload hx hb d_M_exact_100 (lv_at hl 0 rfl) ?_
            refine lv_if_eq (tgt := 150) hx hb d_M_exact_102 (by decide) (fun c102 => ?_) (fun c102 => ?_)
            · skip
              have hM : uN up18 * 18446744073709551616 + uN lo18 = Q + (if v98 = 0 then 0 else if R = 0 then 0 else 1) := by first | (rw [if_pos c102, Nat.add_zero]; exact hQ.symm) | (rw [if_neg c102, if_pos ((hR0).mp c111), Nat.add_zero]; exact hQ.symm)
              have hMv := ex_Mv e98 hM
              refine lv_aload_n hx hb d_M_exact_150 rfl (lv_at hl 1 rfl) ?_
              refine va_get (D := (dC, dI)) (ci := 1) (v := .long up18) (C := R_M) (T := F_M) (N := 4) hx hb hts (fun w h => List.mem_cons_of_mem _ (i_M w h)) hown hK hP 0 rfl rfl 1 (by decide) (hts (.fieldLink R_M 16 R_M "upper" "J") (List.mem_cons_of_mem _ (tm (by decide +kernel) rfl))) (fun _ h9 => h9) rfl d_M_exact_151 ?_
              refine lv_lconst (v := 0) hx hb d_M_exact_154 (by decide) ?_
              refine W.lcmp hx hb d_M_exact_155 ?_
              refine jn_i (J := 189) (rest := []) (fun v => v = if up18 = 0 ∧ (0 ≤ lo18 ∨ (¬ v98 = 0 ∧ lo18 = -9223372036854775808)) then 1 else 0) (fun v189 e189 => ?_) (fun K189 => ?_)
              · skip
                refine lv_istore (lv' := [(8, .int v189), (7, .int v98), (0, .ref h0), (1, .long a), (3, .long b), (5, .long d)]) hx hb d_M_exact_189 hl (by decide) rfl (fun ls hl => ?_)
                refine lv_aload_n hx hb d_M_exact_191 rfl (lv_at hl 2 rfl) ?_
                refine lv_iload hx hb d_M_exact_192 (lv_at hl 0 rfl) ?_
                refine lv_if_eq (tgt := 201) hx hb d_M_exact_194 (by decide) (fun c194 => ?_) (fun c194 => ?_)
                · skip
                  refine lv_lconst (v := 1) hx hb d_M_exact_201 (by decide) ?_
                  refine va_put (D := (dC, dI)) (ci := 1) (v := .long 1) (ty := .long) (C := R_M) (T := F_M) (N := 4) hx hb hts (fun w h => List.mem_cons_of_mem _ (i_M w h)) t_M t_M_ok n_M hown hK hP hD hS 0 rfl rfl 3 (by decide) (hts (.fieldLink R_M 27 R_M "left" "J") (List.mem_cons_of_mem _ (tm (by decide +kernel) rfl))) (fun _ h9 => h9) rfl (by decide +kernel) rfl rfl (Nat.le_of_ble_eq_true rfl) d_M_exact_202 (fun H locs hP hD hS => ?_)
                  have hP : va_P (dC, dI) classes [(h0, .inr (1, [.int th18, .long up18, .long lo18, .long 1]))] H := hP
                  have hD : va_D A [(h0, .inr (1, [.int th18, .long up18, .long lo18, .long 1]))] := hD
                  refine lv_iload hx hb d_M_exact_205 (lv_at hl 1 rfl) ?_
                  refine lv_if_eq (tgt := 218) hx hb d_M_exact_207 (by decide) (fun c207 => ?_) (fun c207 => ?_)
                  · skip
                    refine lv_aload_n hx hb d_M_exact_218 rfl (lv_at hl 2 rfl) ?_
                    refine va_get (D := (dC, dI)) (ci := 1) (v := .long lo18) (C := R_M) (T := F_M) (N := 4) hx hb hts (fun w h => List.mem_cons_of_mem _ (i_M w h)) hown hK hP 0 rfl rfl 2 (by decide) (hts (.fieldLink R_M 20 R_M "lower" "J") (List.mem_cons_of_mem _ (tm (by decide +kernel) rfl))) (fun _ h9 => h9) rfl d_M_exact_219 ?_
                    refine W.lret (v := lo18) hx hb hr (fun t ht hW => ⟨⟨_, (th18, up18, lo18, 1), rfl, ?_, by rw [ht]; exact hP, va_K.moved hW.alike hK, hD⟩, hS.F ht⟩) hS.2.2 d_M_exact_222
                    show th18 = th ∧ (((1 : Int64) = 0 ∧ sp_rok a.toInt b.toInt d.toInt lo18.toInt) ∨ (¬ (1 : Int64) = 0 ∧ sp_rno a.toInt b.toInt d.toInt))
                    exact ⟨e18.1.trans e9.1, ex_fin hd0 hQx hRx hN9 e98 rfl hMv e189 (by first | exact Or.inl ⟨c194, rfl⟩ | exact Or.inr ⟨c194, by decide⟩) (by first | exact Or.inl ⟨c207, rfl⟩ | exact Or.inr ⟨c207, e214⟩)⟩
                  · skip
                    refine lv_aload_n hx hb d_M_exact_210 rfl (lv_at hl 2 rfl) ?_
                    refine va_get (D := (dC, dI)) (ci := 1) (v := .long lo18) (C := R_M) (T := F_M) (N := 4) hx hb hts (fun w h => List.mem_cons_of_mem _ (i_M w h)) hown hK hP 0 rfl rfl 2 (by decide) (hts (.fieldLink R_M 20 R_M "lower" "J") (List.mem_cons_of_mem _ (tm (by decide +kernel) rfl))) (fun _ h9 => h9) rfl d_M_exact_211 ?_
                    refine lv_lneg hx hb d_M_exact_214 ?_
                    refine lv_topl (fun v214 e214 => ?_)
                    refine lv_goto (tgt := 222) hx hb d_M_exact_215 (by decide) ?_
                    refine W.lret (v := v214) hx hb hr (fun t ht hW => ⟨⟨_, (th18, up18, lo18, 1), rfl, ?_, by rw [ht]; exact hP, va_K.moved hW.alike hK, hD⟩, hS.F ht⟩) hS.2.2 d_M_exact_222
                    show th18 = th ∧ (((1 : Int64) = 0 ∧ sp_rok a.toInt b.toInt d.toInt v214.toInt) ∨ (¬ (1 : Int64) = 0 ∧ sp_rno a.toInt b.toInt d.toInt))
                    exact ⟨e18.1.trans e9.1, ex_fin hd0 hQx hRx hN9 e98 rfl hMv e189 (by first | exact Or.inl ⟨c194, rfl⟩ | exact Or.inr ⟨c194, by decide⟩) (by first | exact Or.inl ⟨c207, rfl⟩ | exact Or.inr ⟨c207, e214⟩)⟩
                · skip
                  refine lv_lconst (v := 0) hx hb d_M_exact_197 (by decide) ?_
                  refine lv_goto (tgt := 202) hx hb d_M_exact_198 (by decide) ?_
                  refine va_put (D := (dC, dI)) (ci := 1) (v := .long 0) (ty := .long) (C := R_M) (T := F_M) (N := 4) hx hb hts (fun w h => List.mem_cons_of_mem _ (i_M w h)) t_M t_M_ok n_M hown hK hP hD hS 0 rfl rfl 3 (by decide) (hts (.fieldLink R_M 27 R_M "left" "J") (List.mem_cons_of_mem _ (tm (by decide +kernel) rfl))) (fun _ h9 => h9) rfl (by decide +kernel) rfl rfl (Nat.le_of_ble_eq_true rfl) d_M_exact_202 (fun H locs hP hD hS => ?_)
                  have hP : va_P (dC, dI) classes [(h0, .inr (1, [.int th18, .long up18, .long lo18, .long 0]))] H := hP
                  have hD : va_D A [(h0, .inr (1, [.int th18, .long up18, .long lo18, .long 0]))] := hD
                  refine lv_iload hx hb d_M_exact_205 (lv_at hl 1 rfl) ?_
                  refine lv_if_eq (tgt := 218) hx hb d_M_exact_207 (by decide) (fun c207 => ?_) (fun c207 => ?_)
                  · skip
                    refine lv_aload_n hx hb d_M_exact_218 rfl (lv_at hl 2 rfl) ?_
                    refine va_get (D := (dC, dI)) (ci := 1) (v := .long lo18) (C := R_M) (T := F_M) (N := 4) hx hb hts (fun w h => List.mem_cons_of_mem _ (i_M w h)) hown hK hP 0 rfl rfl 2 (by decide) (hts (.fieldLink R_M 20 R_M "lower" "J") (List.mem_cons_of_mem _ (tm (by decide +kernel) rfl))) (fun _ h9 => h9) rfl d_M_exact_219 ?_
                    refine W.lret (v := lo18) hx hb hr (fun t ht hW => ⟨⟨_, (th18, up18, lo18, 0), rfl, ?_, by rw [ht]; exact hP, va_K.moved hW.alike hK, hD⟩, hS.F ht⟩) hS.2.2 d_M_exact_222
                    show th18 = th ∧ (((0 : Int64) = 0 ∧ sp_rok a.toInt b.toInt d.toInt lo18.toInt) ∨ (¬ (0 : Int64) = 0 ∧ sp_rno a.toInt b.toInt d.toInt))
                    exact ⟨e18.1.trans e9.1, ex_fin hd0 hQx hRx hN9 e98 rfl hMv e189 (by first | exact Or.inl ⟨c194, rfl⟩ | exact Or.inr ⟨c194, by decide⟩) (by first | exact Or.inl ⟨c207, rfl⟩ | exact Or.inr ⟨c207, e214⟩)⟩
                  · skip
                    refine lv_aload_n hx hb d_M_exact_210 rfl (lv_at hl 2 rfl) ?_
                    refine va_get (D := (dC, dI)) (ci := 1) (v := .long lo18) (C := R_M) (T := F_M) (N := 4) hx hb hts (fun w h => List.mem_cons_of_mem _ (i_M w h)) hown hK hP 0 rfl rfl 2 (by decide) (hts (.fieldLink R_M 20 R_M "lower" "J") (List.mem_cons_of_mem _ (tm (by decide +kernel) rfl))) (fun _ h9 => h9) rfl d_M_exact_211 ?_
                    refine lv_lneg hx hb d_M_exact_214 ?_
                    refine lv_topl (fun v214 e214 => ?_)
                    refine lv_goto (tgt := 222) hx hb d_M_exact_215 (by decide) ?_
                    refine W.lret (v := v214) hx hb hr (fun t ht hW => ⟨⟨_, (th18, up18, lo18, 0), rfl, ?_, by rw [ht]; exact hP, va_K.moved hW.alike hK, hD⟩, hS.F ht⟩) hS.2.2 d_M_exact_222
                    show th18 = th ∧ (((0 : Int64) = 0 ∧ sp_rok a.toInt b.toInt d.toInt v214.toInt) ∨ (¬ (0 : Int64) = 0 ∧ sp_rno a.toInt b.toInt d.toInt))
                    exact ⟨e18.1.trans e9.1, ex_fin hd0 hQx hRx hN9 e98 rfl hMv e189 (by first | exact Or.inl ⟨c194, rfl⟩ | exact Or.inr ⟨c194, by decide⟩) (by first | exact Or.inl ⟨c207, rfl⟩ | exact Or.inr ⟨c207, e214⟩)⟩
              · skip
                refine lv_if_ne (tgt := 188) hx hb d_M_exact_156 (by decide) (fun c156 => ?_) (fun c156 => ?_)
                · skip
                  have c156 := (not_congr (lg_cmp_eq _ _)).mp c156
                  refine lv_iconst (v := 0) hx hb d_M_exact_188 (by decide) ?_
                  exact K189 _ (by first | exact ex_hit ⟨c156, Or.inl c165⟩ | exact ex_hit ⟨c156, Or.inr ⟨c170, c181⟩⟩ | exact ex_miss (fun z => c156 z.1) | exact ex_miss (fun z => z.2.elim (fun y => c165 y) (fun y => y.1 c170)) | exact ex_miss (fun z => z.2.elim (fun y => c165 y) (fun y => c181 y.2)))
                · skip
                  have c156 := (lg_cmp_eq _ _).mp c156
                  refine lv_aload_n hx hb d_M_exact_159 rfl (lv_at hl 1 rfl) ?_
                  refine va_get (D := (dC, dI)) (ci := 1) (v := .long lo18) (C := R_M) (T := F_M) (N := 4) hx hb hts (fun w h => List.mem_cons_of_mem _ (i_M w h)) hown hK hP 0 rfl rfl 2 (by decide) (hts (.fieldLink R_M 20 R_M "lower" "J") (List.mem_cons_of_mem _ (tm (by decide +kernel) rfl))) (fun _ h9 => h9) rfl d_M_exact_160 ?_
                  refine lv_lconst (v := 0) hx hb d_M_exact_163 (by decide) ?_
                  refine W.lcmp hx hb d_M_exact_164 ?_
                  refine lv_if_ge (tgt := 184) hx hb d_M_exact_165 (by decide) (fun c165 => ?_) (fun c165 => ?_)
                  · skip
                    have c165 := (lg_cmp_ge _ _).mp c165
                    refine lv_iconst (v := 1) hx hb d_M_exact_184 (by decide) ?_
                    refine lv_goto (tgt := 189) hx hb d_M_exact_185 (by decide) ?_
                    exact K189 _ (by first | exact ex_hit ⟨c156, Or.inl c165⟩ | exact ex_hit ⟨c156, Or.inr ⟨c170, c181⟩⟩ | exact ex_miss (fun z => c156 z.1) | exact ex_miss (fun z => z.2.elim (fun y => c165 y) (fun y => y.1 c170)) | exact ex_miss (fun z => z.2.elim (fun y => c165 y) (fun y => c181 y.2)))
                  · skip
                    have c165 := (not_congr (lg_cmp_ge _ _)).mp c165
                    refine lv_iload hx hb d_M_exact_168 (lv_at hl 0 rfl) ?_
                    refine lv_if_eq (tgt := 188) hx hb d_M_exact_170 (by decide) (fun c170 => ?_) (fun c170 => ?_)
                    · skip
                      refine lv_iconst (v := 0) hx hb d_M_exact_188 (by decide) ?_
                      exact K189 _ (by first | exact ex_hit ⟨c156, Or.inl c165⟩ | exact ex_hit ⟨c156, Or.inr ⟨c170, c181⟩⟩ | exact ex_miss (fun z => c156 z.1) | exact ex_miss (fun z => z.2.elim (fun y => c165 y) (fun y => y.1 c170)) | exact ex_miss (fun z => z.2.elim (fun y => c165 y) (fun y => c181 y.2)))
                    · skip
                      refine lv_aload_n hx hb d_M_exact_173 rfl (lv_at hl 1 rfl) ?_
                      refine va_get (D := (dC, dI)) (ci := 1) (v := .long lo18) (C := R_M) (T := F_M) (N := 4) hx hb hts (fun w h => List.mem_cons_of_mem _ (i_M w h)) hown hK hP 0 rfl rfl 2 (by decide) (hts (.fieldLink R_M 20 R_M "lower" "J") (List.mem_cons_of_mem _ (tm (by decide +kernel) rfl))) (fun _ h9 => h9) rfl d_M_exact_174 ?_
                      refine lv_ldc2 (v := (-9223372036854775808)) hx hb hown (hts (.constantLong R_M 14 (-9223372036854775808)) (List.mem_cons_of_mem _ (tm (by decide +kernel) rfl))) d_M_exact_177 ?_
                      refine W.lcmp hx hb d_M_exact_180 ?_
                      refine lv_if_ne (tgt := 188) hx hb d_M_exact_181 (by decide) (fun c181 => ?_) (fun c181 => ?_)
                      · skip
                        have c181 := (not_congr (lg_cmp_eq _ _)).mp c181
                        refine lv_iconst (v := 0) hx hb d_M_exact_188 (by decide) ?_
                        exact K189 _ (by first | exact ex_hit ⟨c156, Or.inl c165⟩ | exact ex_hit ⟨c156, Or.inr ⟨c170, c181⟩⟩ | exact ex_miss (fun z => c156 z.1) | exact ex_miss (fun z => z.2.elim (fun y => c165 y) (fun y => y.1 c170)) | exact ex_miss (fun z => z.2.elim (fun y => c165 y) (fun y => c181 y.2)))
                      · skip
                        have c181 := (lg_cmp_eq _ _).mp c181
                        refine lv_iconst (v := 1) hx hb d_M_exact_184 (by decide) ?_
                        refine lv_goto (tgt := 189) hx hb d_M_exact_185 (by decide) ?_
                        exact K189 _ (by first | exact ex_hit ⟨c156, Or.inl c165⟩ | exact ex_hit ⟨c156, Or.inr ⟨c170, c181⟩⟩ | exact ex_miss (fun z => c156 z.1) | exact ex_miss (fun z => z.2.elim (fun y => c165 y) (fun y => y.1 c170)) | exact ex_miss (fun z => z.2.elim (fun y => c165 y) (fun y => c181 y.2)))
            · skip
              refine lv_aload_n hx hb d_M_exact_105 rfl (lv_at hl 1 rfl) ?_
              refine va_get (D := (dC, dI)) (ci := 1) (v := .long le18) (C := R_M) (T := F_M) (N := 4) hx hb hts (fun w h => List.mem_cons_of_mem _ (i_M w h)) hown hK hP 0 rfl rfl 3 (by decide) (hts (.fieldLink R_M 27 R_M "left" "J") (List.mem_cons_of_mem _ (tm (by decide +kernel) rfl))) (fun _ h9 => h9) rfl d_M_exact_106 ?_
              refine lv_lconst (v := 0) hx hb d_M_exact_109 (by decide) ?_
              refine W.lcmp hx hb d_M_exact_110 ?_
              refine lv_if_eq (tgt := 150) hx hb d_M_exact_111 (by decide) (fun c111 => ?_) (fun c111 => ?_)
              · skip
                have c111 := (lg_cmp_eq _ _).mp c111
                have hM : uN up18 * 18446744073709551616 + uN lo18 = Q + (if v98 = 0 then 0 else if R = 0 then 0 else 1) := by first | (rw [if_pos c102, Nat.add_zero]; exact hQ.symm) | (rw [if_neg c102, if_pos ((hR0).mp c111), Nat.add_zero]; exact hQ.symm)
                have hMv := ex_Mv e98 hM
                refine lv_aload_n hx hb d_M_exact_150 rfl (lv_at hl 1 rfl) ?_
                refine va_get (D := (dC, dI)) (ci := 1) (v := .long up18) (C := R_M) (T := F_M) (N := 4) hx hb hts (fun w h => List.mem_cons_of_mem _ (i_M w h)) hown hK hP 0 rfl rfl 1 (by decide) (hts (.fieldLink R_M 16 R_M "upper" "J") (List.mem_cons_of_mem _ (tm (by decide +kernel) rfl))) (fun _ h9 => h9) rfl d_M_exact_151 ?_
                refine lv_lconst (v := 0) hx hb d_M_exact_154 (by decide) ?_
                refine W.lcmp hx hb d_M_exact_155 ?_
                refine jn_i (J := 189) (rest := []) (fun v => v = if up18 = 0 ∧ (0 ≤ lo18 ∨ (¬ v98 = 0 ∧ lo18 = -9223372036854775808)) then 1 else 0) (fun v189 e189 => ?_) (fun K189 => ?_)
                · skip
                  refine lv_istore (lv' := [(8, .int v189), (7, .int v98), (0, .ref h0), (1, .long a), (3, .long b), (5, .long d)]) hx hb d_M_exact_189 hl (by decide) rfl (fun ls hl => ?_)
                  refine lv_aload_n hx hb d_M_exact_191 rfl (lv_at hl 2 rfl) ?_
                  refine lv_iload hx hb d_M_exact_192 (lv_at hl 0 rfl) ?_
                  refine lv_if_eq (tgt := 201) hx hb d_M_exact_194 (by decide) (fun c194 => ?_) (fun c194 => ?_)
                  · skip
                    refine lv_lconst (v := 1) hx hb d_M_exact_201 (by decide) ?_
                    refine va_put (D := (dC, dI)) (ci := 1) (v := .long 1) (ty := .long) (C := R_M) (T := F_M) (N := 4) hx hb hts (fun w h => List.mem_cons_of_mem _ (i_M w h)) t_M t_M_ok n_M hown hK hP hD hS 0 rfl rfl 3 (by decide) (hts (.fieldLink R_M 27 R_M "left" "J") (List.mem_cons_of_mem _ (tm (by decide +kernel) rfl))) (fun _ h9 => h9) rfl (by decide +kernel) rfl rfl (Nat.le_of_ble_eq_true rfl) d_M_exact_202 (fun H locs hP hD hS => ?_)
                    have hP : va_P (dC, dI) classes [(h0, .inr (1, [.int th18, .long up18, .long lo18, .long 1]))] H := hP
                    have hD : va_D A [(h0, .inr (1, [.int th18, .long up18, .long lo18, .long 1]))] := hD
                    refine lv_iload hx hb d_M_exact_205 (lv_at hl 1 rfl) ?_
                    refine lv_if_eq (tgt := 218) hx hb d_M_exact_207 (by decide) (fun c207 => ?_) (fun c207 => ?_)
                    · skip
                      refine lv_aload_n hx hb d_M_exact_218 rfl (lv_at hl 2 rfl) ?_
                      refine va_get (D := (dC, dI)) (ci := 1) (v := .long lo18) (C := R_M) (T := F_M) (N := 4) hx hb hts (fun w h => List.mem_cons_of_mem _ (i_M w h)) hown hK hP 0 rfl rfl 2 (by decide) (hts (.fieldLink R_M 20 R_M "lower" "J") (List.mem_cons_of_mem _ (tm (by decide +kernel) rfl))) (fun _ h9 => h9) rfl d_M_exact_219 ?_
                      refine W.lret (v := lo18) hx hb hr (fun t ht hW => ⟨⟨_, (th18, up18, lo18, 1), rfl, ?_, by rw [ht]; exact hP, va_K.moved hW.alike hK, hD⟩, hS.F ht⟩) hS.2.2 d_M_exact_222
                      show th18 = th ∧ (((1 : Int64) = 0 ∧ sp_rok a.toInt b.toInt d.toInt lo18.toInt) ∨ (¬ (1 : Int64) = 0 ∧ sp_rno a.toInt b.toInt d.toInt))
                      exact ⟨e18.1.trans e9.1, ex_fin hd0 hQx hRx hN9 e98 rfl hMv e189 (by first | exact Or.inl ⟨c194, rfl⟩ | exact Or.inr ⟨c194, by decide⟩) (by first | exact Or.inl ⟨c207, rfl⟩ | exact Or.inr ⟨c207, e214⟩)⟩
                    · skip
                      refine lv_aload_n hx hb d_M_exact_210 rfl (lv_at hl 2 rfl) ?_
                      refine va_get (D := (dC, dI)) (ci := 1) (v := .long lo18) (C := R_M) (T := F_M) (N := 4) hx hb hts (fun w h => List.mem_cons_of_mem _ (i_M w h)) hown hK hP 0 rfl rfl 2 (by decide) (hts (.fieldLink R_M 20 R_M "lower" "J") (List.mem_cons_of_mem _ (tm (by decide +kernel) rfl))) (fun _ h9 => h9) rfl d_M_exact_211 ?_
                      refine lv_lneg hx hb d_M_exact_214 ?_
                      refine lv_topl (fun v214 e214 => ?_)
                      refine lv_goto (tgt := 222) hx hb d_M_exact_215 (by decide) ?_
                      refine W.lret (v := v214) hx hb hr (fun t ht hW => ⟨⟨_, (th18, up18, lo18, 1), rfl, ?_, by rw [ht]; exact hP, va_K.moved hW.alike hK, hD⟩, hS.F ht⟩) hS.2.2 d_M_exact_222
                      show th18 = th ∧ (((1 : Int64) = 0 ∧ sp_rok a.toInt b.toInt d.toInt v214.toInt) ∨ (¬ (1 : Int64) = 0 ∧ sp_rno a.toInt b.toInt d.toInt))
                      exact ⟨e18.1.trans e9.1, ex_fin hd0 hQx hRx hN9 e98 rfl hMv e189 (by first | exact Or.inl ⟨c194, rfl⟩ | exact Or.inr ⟨c194, by decide⟩) (by first | exact Or.inl ⟨c207, rfl⟩ | exact Or.inr ⟨c207, e214⟩)⟩
                  · skip
                    refine lv_lconst (v := 0) hx hb d_M_exact_197 (by decide) ?_
                    refine lv_goto (tgt := 202) hx hb d_M_exact_198 (by decide) ?_
                    refine va_put (D := (dC, dI)) (ci := 1) (v := .long 0) (ty := .long) (C := R_M) (T := F_M) (N := 4) hx hb hts (fun w h => List.mem_cons_of_mem _ (i_M w h)) t_M t_M_ok n_M hown hK hP hD hS 0 rfl rfl 3 (by decide) (hts (.fieldLink R_M 27 R_M "left" "J") (List.mem_cons_of_mem _ (tm (by decide +kernel) rfl))) (fun _ h9 => h9) rfl (by decide +kernel) rfl rfl (Nat.le_of_ble_eq_true rfl) d_M_exact_202 (fun H locs hP hD hS => ?_)
                    have hP : va_P (dC, dI) classes [(h0, .inr (1, [.int th18, .long up18, .long lo18, .long 0]))] H := hP
                    have hD : va_D A [(h0, .inr (1, [.int th18, .long up18, .long lo18, .long 0]))] := hD
                    refine lv_iload hx hb d_M_exact_205 (lv_at hl 1 rfl) ?_
                    refine lv_if_eq (tgt := 218) hx hb d_M_exact_207 (by decide) (fun c207 => ?_) (fun c207 => ?_)
                    · skip
                      refine lv_aload_n hx hb d_M_exact_218 rfl (lv_at hl 2 rfl) ?_
                      refine va_get (D := (dC, dI)) (ci := 1) (v := .long lo18) (C := R_M) (T := F_M) (N := 4) hx hb hts (fun w h => List.mem_cons_of_mem _ (i_M w h)) hown hK hP 0 rfl rfl 2 (by decide) (hts (.fieldLink R_M 20 R_M "lower" "J") (List.mem_cons_of_mem _ (tm (by decide +kernel) rfl))) (fun _ h9 => h9) rfl d_M_exact_219 ?_
                      refine W.lret (v := lo18) hx hb hr (fun t ht hW => ⟨⟨_, (th18, up18, lo18, 0), rfl, ?_, by rw [ht]; exact hP, va_K.moved hW.alike hK, hD⟩, hS.F ht⟩) hS.2.2 d_M_exact_222
                      show th18 = th ∧ (((0 : Int64) = 0 ∧ sp_rok a.toInt b.toInt d.toInt lo18.toInt) ∨ (¬ (0 : Int64) = 0 ∧ sp_rno a.toInt b.toInt d.toInt))
                      exact ⟨e18.1.trans e9.1, ex_fin hd0 hQx hRx hN9 e98 rfl hMv e189 (by first | exact Or.inl ⟨c194, rfl⟩ | exact Or.inr ⟨c194, by decide⟩) (by first | exact Or.inl ⟨c207, rfl⟩ | exact Or.inr ⟨c207, e214⟩)⟩
                    · skip
                      refine lv_aload_n hx hb d_M_exact_210 rfl (lv_at hl 2 rfl) ?_
                      refine va_get (D := (dC, dI)) (ci := 1) (v := .long lo18) (C := R_M) (T := F_M) (N := 4) hx hb hts (fun w h => List.mem_cons_of_mem _ (i_M w h)) hown hK hP 0 rfl rfl 2 (by decide) (hts (.fieldLink R_M 20 R_M "lower" "J") (List.mem_cons_of_mem _ (tm (by decide +kernel) rfl))) (fun _ h9 => h9) rfl d_M_exact_211 ?_
                      refine lv_lneg hx hb d_M_exact_214 ?_
                      refine lv_topl (fun v214 e214 => ?_)
                      refine lv_goto (tgt := 222) hx hb d_M_exact_215 (by decide) ?_
                      refine W.lret (v := v214) hx hb hr (fun t ht hW => ⟨⟨_, (th18, up18, lo18, 0), rfl, ?_, by rw [ht]; exact hP, va_K.moved hW.alike hK, hD⟩, hS.F ht⟩) hS.2.2 d_M_exact_222
                      show th18 = th ∧ (((0 : Int64) = 0 ∧ sp_rok a.toInt b.toInt d.toInt v214.toInt) ∨ (¬ (0 : Int64) = 0 ∧ sp_rno a.toInt b.toInt d.toInt))
                      exact ⟨e18.1.trans e9.1, ex_fin hd0 hQx hRx hN9 e98 rfl hMv e189 (by first | exact Or.inl ⟨c194, rfl⟩ | exact Or.inr ⟨c194, by decide⟩) (by first | exact Or.inl ⟨c207, rfl⟩ | exact Or.inr ⟨c207, e214⟩)⟩
                · skip
                  refine lv_if_ne (tgt := 188) hx hb d_M_exact_156 (by decide) (fun c156 => ?_) (fun c156 => ?_)
                  · skip
                    have c156 := (not_congr (lg_cmp_eq _ _)).mp c156
                    refine lv_iconst (v := 0) hx hb d_M_exact_188 (by decide) ?_
                    exact K189 _ (by first | exact ex_hit ⟨c156, Or.inl c165⟩ | exact ex_hit ⟨c156, Or.inr ⟨c170, c181⟩⟩ | exact ex_miss (fun z => c156 z.1) | exact ex_miss (fun z => z.2.elim (fun y => c165 y) (fun y => y.1 c170)) | exact ex_miss (fun z => z.2.elim (fun y => c165 y) (fun y => c181 y.2)))
                  · skip
                    have c156 := (lg_cmp_eq _ _).mp c156
                    refine lv_aload_n hx hb d_M_exact_159 rfl (lv_at hl 1 rfl) ?_
                    refine va_get (D := (dC, dI)) (ci := 1) (v := .long lo18) (C := R_M) (T := F_M) (N := 4) hx hb hts (fun w h => List.mem_cons_of_mem _ (i_M w h)) hown hK hP 0 rfl rfl 2 (by decide) (hts (.fieldLink R_M 20 R_M "lower" "J") (List.mem_cons_of_mem _ (tm (by decide +kernel) rfl))) (fun _ h9 => h9) rfl d_M_exact_160 ?_
                    refine lv_lconst (v := 0) hx hb d_M_exact_163 (by decide) ?_
                    refine W.lcmp hx hb d_M_exact_164 ?_
                    refine lv_if_ge (tgt := 184) hx hb d_M_exact_165 (by decide) (fun c165 => ?_) (fun c165 => ?_)
                    · skip
                      have c165 := (lg_cmp_ge _ _).mp c165
                      refine lv_iconst (v := 1) hx hb d_M_exact_184 (by decide) ?_
                      refine lv_goto (tgt := 189) hx hb d_M_exact_185 (by decide) ?_
                      exact K189 _ (by first | exact ex_hit ⟨c156, Or.inl c165⟩ | exact ex_hit ⟨c156, Or.inr ⟨c170, c181⟩⟩ | exact ex_miss (fun z => c156 z.1) | exact ex_miss (fun z => z.2.elim (fun y => c165 y) (fun y => y.1 c170)) | exact ex_miss (fun z => z.2.elim (fun y => c165 y) (fun y => c181 y.2)))
                    · skip
                      have c165 := (not_congr (lg_cmp_ge _ _)).mp c165
                      refine lv_iload hx hb d_M_exact_168 (lv_at hl 0 rfl) ?_
                      refine lv_if_eq (tgt := 188) hx hb d_M_exact_170 (by decide) (fun c170 => ?_) (fun c170 => ?_)
                      · skip
                        refine lv_iconst (v := 0) hx hb d_M_exact_188 (by decide) ?_
                        exact K189 _ (by first | exact ex_hit ⟨c156, Or.inl c165⟩ | exact ex_hit ⟨c156, Or.inr ⟨c170, c181⟩⟩ | exact ex_miss (fun z => c156 z.1) | exact ex_miss (fun z => z.2.elim (fun y => c165 y) (fun y => y.1 c170)) | exact ex_miss (fun z => z.2.elim (fun y => c165 y) (fun y => c181 y.2)))
                      · skip
                        refine lv_aload_n hx hb d_M_exact_173 rfl (lv_at hl 1 rfl) ?_
                        refine va_get (D := (dC, dI)) (ci := 1) (v := .long lo18) (C := R_M) (T := F_M) (N := 4) hx hb hts (fun w h => List.mem_cons_of_mem _ (i_M w h)) hown hK hP 0 rfl rfl 2 (by decide) (hts (.fieldLink R_M 20 R_M "lower" "J") (List.mem_cons_of_mem _ (tm (by decide +kernel) rfl))) (fun _ h9 => h9) rfl d_M_exact_174 ?_
                        refine lv_ldc2 (v := (-9223372036854775808)) hx hb hown (hts (.constantLong R_M 14 (-9223372036854775808)) (List.mem_cons_of_mem _ (tm (by decide +kernel) rfl))) d_M_exact_177 ?_
                        refine W.lcmp hx hb d_M_exact_180 ?_
                        refine lv_if_ne (tgt := 188) hx hb d_M_exact_181 (by decide) (fun c181 => ?_) (fun c181 => ?_)
                        · skip
                          have c181 := (not_congr (lg_cmp_eq _ _)).mp c181
                          refine lv_iconst (v := 0) hx hb d_M_exact_188 (by decide) ?_
                          exact K189 _ (by first | exact ex_hit ⟨c156, Or.inl c165⟩ | exact ex_hit ⟨c156, Or.inr ⟨c170, c181⟩⟩ | exact ex_miss (fun z => c156 z.1) | exact ex_miss (fun z => z.2.elim (fun y => c165 y) (fun y => y.1 c170)) | exact ex_miss (fun z => z.2.elim (fun y => c165 y) (fun y => c181 y.2)))
                        · skip
                          have c181 := (lg_cmp_eq _ _).mp c181
                          refine lv_iconst (v := 1) hx hb d_M_exact_184 (by decide) ?_
                          refine lv_goto (tgt := 189) hx hb d_M_exact_185 (by decide) ?_
                          exact K189 _ (by first | exact ex_hit ⟨c156, Or.inl c165⟩ | exact ex_hit ⟨c156, Or.inr ⟨c170, c181⟩⟩ | exact ex_miss (fun z => c156 z.1) | exact ex_miss (fun z => z.2.elim (fun y => c165 y) (fun y => y.1 c170)) | exact ex_miss (fun z => z.2.elim (fun y => c165 y) (fun y => c181 y.2)))
              · skip
                have c111 := (not_congr (lg_cmp_eq _ _)).mp c111
                refine lv_aload_n hx hb d_M_exact_114 rfl (lv_at hl 1 rfl) ?_
                refine lv_aload_n hx hb d_M_exact_115 rfl (lv_at hl 1 rfl) ?_
                refine va_get (D := (dC, dI)) (ci := 1) (v := .long lo18) (C := R_M) (T := F_M) (N := 4) hx hb hts (fun w h => List.mem_cons_of_mem _ (i_M w h)) hown hK hP 0 rfl rfl 2 (by decide) (hts (.fieldLink R_M 20 R_M "lower" "J") (List.mem_cons_of_mem _ (tm (by decide +kernel) rfl))) (fun _ h9 => h9) rfl d_M_exact_116 ?_
                refine lv_lconst (v := 1) hx hb d_M_exact_119 (by decide) ?_
                refine lv_ladd hx hb d_M_exact_120 ?_
                refine lv_topl (fun v120 e120 => ?_)
                refine va_put (D := (dC, dI)) (ci := 1) (v := .long v120) (ty := .long) (C := R_M) (T := F_M) (N := 4) hx hb hts (fun w h => List.mem_cons_of_mem _ (i_M w h)) t_M t_M_ok n_M hown hK hP hD hS 0 rfl rfl 2 (by decide) (hts (.fieldLink R_M 20 R_M "lower" "J") (List.mem_cons_of_mem _ (tm (by decide +kernel) rfl))) (fun _ h9 => h9) rfl (by decide +kernel) rfl rfl (Nat.le_of_ble_eq_true rfl) d_M_exact_121 (fun H locs hP hD hS => ?_)
                have hP : va_P (dC, dI) classes [(h0, .inr (1, [.int th18, .long up18, .long v120, .long le18]))] H := hP
                have hD : va_D A [(h0, .inr (1, [.int th18, .long up18, .long v120, .long le18]))] := hD
                refine lv_aload_n hx hb d_M_exact_124 rfl (lv_at hl 1 rfl) ?_
                refine lv_aload_n hx hb d_M_exact_125 rfl (lv_at hl 1 rfl) ?_
                refine va_get (D := (dC, dI)) (ci := 1) (v := .long v120) (C := R_M) (T := F_M) (N := 4) hx hb hts (fun w h => List.mem_cons_of_mem _ (i_M w h)) hown hK hP 0 rfl rfl 2 (by decide) (hts (.fieldLink R_M 20 R_M "lower" "J") (List.mem_cons_of_mem _ (tm (by decide +kernel) rfl))) (fun _ h9 => h9) rfl d_M_exact_126 ?_
                refine lv_lconst (v := 0) hx hb d_M_exact_129 (by decide) ?_
                refine W.lcmp hx hb d_M_exact_130 ?_
                refine lv_if_ne (tgt := 143) hx hb d_M_exact_131 (by decide) (fun c131 => ?_) (fun c131 => ?_)
                · skip
                  have c131 := (not_congr (lg_cmp_eq _ _)).mp c131
                  refine lv_aload_n hx hb d_M_exact_143 rfl (lv_at hl 1 rfl) ?_
                  refine va_get (D := (dC, dI)) (ci := 1) (v := .long up18) (C := R_M) (T := F_M) (N := 4) hx hb hts (fun w h => List.mem_cons_of_mem _ (i_M w h)) hown hK hP 0 rfl rfl 1 (by decide) (hts (.fieldLink R_M 16 R_M "upper" "J") (List.mem_cons_of_mem _ (tm (by decide +kernel) rfl))) (fun _ h9 => h9) rfl d_M_exact_144 ?_
                  refine va_put (D := (dC, dI)) (ci := 1) (v := .long up18) (ty := .long) (C := R_M) (T := F_M) (N := 4) hx hb hts (fun w h => List.mem_cons_of_mem _ (i_M w h)) t_M t_M_ok n_M hown hK hP hD hS 0 rfl rfl 1 (by decide) (hts (.fieldLink R_M 16 R_M "upper" "J") (List.mem_cons_of_mem _ (tm (by decide +kernel) rfl))) (fun _ h9 => h9) rfl (by decide +kernel) rfl rfl (Nat.le_of_ble_eq_true rfl) d_M_exact_147 (fun H locs hP hD hS => ?_)
                  have hP : va_P (dC, dI) classes [(h0, .inr (1, [.int th18, .long up18, .long v120, .long le18]))] H := hP
                  have hD : va_D A [(h0, .inr (1, [.int th18, .long up18, .long v120, .long le18]))] := hD
                  have hM : uN up18 * 18446744073709551616 + uN v120 = Q + (if v98 = 0 then 0 else if R = 0 then 0 else 1) := by rw [if_neg c102, if_neg (fun z => c111 (hR0.mpr z))]; exact ex_inc0 hQ.symm e120 c131
                  have hMv := ex_Mv e98 hM
                  refine lv_aload_n hx hb d_M_exact_150 rfl (lv_at hl 1 rfl) ?_
                  refine va_get (D := (dC, dI)) (ci := 1) (v := .long up18) (C := R_M) (T := F_M) (N := 4) hx hb hts (fun w h => List.mem_cons_of_mem _ (i_M w h)) hown hK hP 0 rfl rfl 1 (by decide) (hts (.fieldLink R_M 16 R_M "upper" "J") (List.mem_cons_of_mem _ (tm (by decide +kernel) rfl))) (fun _ h9 => h9) rfl d_M_exact_151 ?_
                  refine lv_lconst (v := 0) hx hb d_M_exact_154 (by decide) ?_
                  refine W.lcmp hx hb d_M_exact_155 ?_
                  refine jn_i (J := 189) (rest := []) (fun v => v = if up18 = 0 ∧ (0 ≤ v120 ∨ (¬ v98 = 0 ∧ v120 = -9223372036854775808)) then 1 else 0) (fun v189 e189 => ?_) (fun K189 => ?_)
                  · skip
                    refine lv_istore (lv' := [(8, .int v189), (7, .int v98), (0, .ref h0), (1, .long a), (3, .long b), (5, .long d)]) hx hb d_M_exact_189 hl (by decide) rfl (fun ls hl => ?_)
                    refine lv_aload_n hx hb d_M_exact_191 rfl (lv_at hl 2 rfl) ?_
                    refine lv_iload hx hb d_M_exact_192 (lv_at hl 0 rfl) ?_
                    refine lv_if_eq (tgt := 201) hx hb d_M_exact_194 (by decide) (fun c194 => ?_) (fun c194 => ?_)
                    · skip
                      refine lv_lconst (v := 1) hx hb d_M_exact_201 (by decide) ?_
                      refine va_put (D := (dC, dI)) (ci := 1) (v := .long 1) (ty := .long) (C := R_M) (T := F_M) (N := 4) hx hb hts (fun w h => List.mem_cons_of_mem _ (i_M w h)) t_M t_M_ok n_M hown hK hP hD hS 0 rfl rfl 3 (by decide) (hts (.fieldLink R_M 27 R_M "left" "J") (List.mem_cons_of_mem _ (tm (by decide +kernel) rfl))) (fun _ h9 => h9) rfl (by decide +kernel) rfl rfl (Nat.le_of_ble_eq_true rfl) d_M_exact_202 (fun H locs hP hD hS => ?_)
                      have hP : va_P (dC, dI) classes [(h0, .inr (1, [.int th18, .long up18, .long v120, .long 1]))] H := hP
                      have hD : va_D A [(h0, .inr (1, [.int th18, .long up18, .long v120, .long 1]))] := hD
                      refine lv_iload hx hb d_M_exact_205 (lv_at hl 1 rfl) ?_
                      refine lv_if_eq (tgt := 218) hx hb d_M_exact_207 (by decide) (fun c207 => ?_) (fun c207 => ?_)
                      · skip
                        refine lv_aload_n hx hb d_M_exact_218 rfl (lv_at hl 2 rfl) ?_
                        refine va_get (D := (dC, dI)) (ci := 1) (v := .long v120) (C := R_M) (T := F_M) (N := 4) hx hb hts (fun w h => List.mem_cons_of_mem _ (i_M w h)) hown hK hP 0 rfl rfl 2 (by decide) (hts (.fieldLink R_M 20 R_M "lower" "J") (List.mem_cons_of_mem _ (tm (by decide +kernel) rfl))) (fun _ h9 => h9) rfl d_M_exact_219 ?_
                        refine W.lret (v := v120) hx hb hr (fun t ht hW => ⟨⟨_, (th18, up18, v120, 1), rfl, ?_, by rw [ht]; exact hP, va_K.moved hW.alike hK, hD⟩, hS.F ht⟩) hS.2.2 d_M_exact_222
                        show th18 = th ∧ (((1 : Int64) = 0 ∧ sp_rok a.toInt b.toInt d.toInt v120.toInt) ∨ (¬ (1 : Int64) = 0 ∧ sp_rno a.toInt b.toInt d.toInt))
                        exact ⟨e18.1.trans e9.1, ex_fin hd0 hQx hRx hN9 e98 rfl hMv e189 (by first | exact Or.inl ⟨c194, rfl⟩ | exact Or.inr ⟨c194, by decide⟩) (by first | exact Or.inl ⟨c207, rfl⟩ | exact Or.inr ⟨c207, e214⟩)⟩
                      · skip
                        refine lv_aload_n hx hb d_M_exact_210 rfl (lv_at hl 2 rfl) ?_
                        refine va_get (D := (dC, dI)) (ci := 1) (v := .long v120) (C := R_M) (T := F_M) (N := 4) hx hb hts (fun w h => List.mem_cons_of_mem _ (i_M w h)) hown hK hP 0 rfl rfl 2 (by decide) (hts (.fieldLink R_M 20 R_M "lower" "J") (List.mem_cons_of_mem _ (tm (by decide +kernel) rfl))) (fun _ h9 => h9) rfl d_M_exact_211 ?_
                        refine lv_lneg hx hb d_M_exact_214 ?_
                        refine lv_topl (fun v214 e214 => ?_)
                        refine lv_goto (tgt := 222) hx hb d_M_exact_215 (by decide) ?_
                        refine W.lret (v := v214) hx hb hr (fun t ht hW => ⟨⟨_, (th18, up18, v120, 1), rfl, ?_, by rw [ht]; exact hP, va_K.moved hW.alike hK, hD⟩, hS.F ht⟩) hS.2.2 d_M_exact_222
                        show th18 = th ∧ (((1 : Int64) = 0 ∧ sp_rok a.toInt b.toInt d.toInt v214.toInt) ∨ (¬ (1 : Int64) = 0 ∧ sp_rno a.toInt b.toInt d.toInt))
                        exact ⟨e18.1.trans e9.1, ex_fin hd0 hQx hRx hN9 e98 rfl hMv e189 (by first | exact Or.inl ⟨c194, rfl⟩ | exact Or.inr ⟨c194, by decide⟩) (by first | exact Or.inl ⟨c207, rfl⟩ | exact Or.inr ⟨c207, e214⟩)⟩
                    · skip
                      refine lv_lconst (v := 0) hx hb d_M_exact_197 (by decide) ?_
                      refine lv_goto (tgt := 202) hx hb d_M_exact_198 (by decide) ?_
                      refine va_put (D := (dC, dI)) (ci := 1) (v := .long 0) (ty := .long) (C := R_M) (T := F_M) (N := 4) hx hb hts (fun w h => List.mem_cons_of_mem _ (i_M w h)) t_M t_M_ok n_M hown hK hP hD hS 0 rfl rfl 3 (by decide) (hts (.fieldLink R_M 27 R_M "left" "J") (List.mem_cons_of_mem _ (tm (by decide +kernel) rfl))) (fun _ h9 => h9) rfl (by decide +kernel) rfl rfl (Nat.le_of_ble_eq_true rfl) d_M_exact_202 (fun H locs hP hD hS => ?_)
                      have hP : va_P (dC, dI) classes [(h0, .inr (1, [.int th18, .long up18, .long v120, .long 0]))] H := hP
                      have hD : va_D A [(h0, .inr (1, [.int th18, .long up18, .long v120, .long 0]))] := hD
                      refine lv_iload hx hb d_M_exact_205 (lv_at hl 1 rfl) ?_
                      refine lv_if_eq (tgt := 218) hx hb d_M_exact_207 (by decide) (fun c207 => ?_) (fun c207 => ?_)
                      · skip
                        refine lv_aload_n hx hb d_M_exact_218 rfl (lv_at hl 2 rfl) ?_
                        refine va_get (D := (dC, dI)) (ci := 1) (v := .long v120) (C := R_M) (T := F_M) (N := 4) hx hb hts (fun w h => List.mem_cons_of_mem _ (i_M w h)) hown hK hP 0 rfl rfl 2 (by decide) (hts (.fieldLink R_M 20 R_M "lower" "J") (List.mem_cons_of_mem _ (tm (by decide +kernel) rfl))) (fun _ h9 => h9) rfl d_M_exact_219 ?_
                        refine W.lret (v := v120) hx hb hr (fun t ht hW => ⟨⟨_, (th18, up18, v120, 0), rfl, ?_, by rw [ht]; exact hP, va_K.moved hW.alike hK, hD⟩, hS.F ht⟩) hS.2.2 d_M_exact_222
                        show th18 = th ∧ (((0 : Int64) = 0 ∧ sp_rok a.toInt b.toInt d.toInt v120.toInt) ∨ (¬ (0 : Int64) = 0 ∧ sp_rno a.toInt b.toInt d.toInt))
                        exact ⟨e18.1.trans e9.1, ex_fin hd0 hQx hRx hN9 e98 rfl hMv e189 (by first | exact Or.inl ⟨c194, rfl⟩ | exact Or.inr ⟨c194, by decide⟩) (by first | exact Or.inl ⟨c207, rfl⟩ | exact Or.inr ⟨c207, e214⟩)⟩
                      · skip
                        refine lv_aload_n hx hb d_M_exact_210 rfl (lv_at hl 2 rfl) ?_
                        refine va_get (D := (dC, dI)) (ci := 1) (v := .long v120) (C := R_M) (T := F_M) (N := 4) hx hb hts (fun w h => List.mem_cons_of_mem _ (i_M w h)) hown hK hP 0 rfl rfl 2 (by decide) (hts (.fieldLink R_M 20 R_M "lower" "J") (List.mem_cons_of_mem _ (tm (by decide +kernel) rfl))) (fun _ h9 => h9) rfl d_M_exact_211 ?_
                        refine lv_lneg hx hb d_M_exact_214 ?_
                        refine lv_topl (fun v214 e214 => ?_)
                        refine lv_goto (tgt := 222) hx hb d_M_exact_215 (by decide) ?_
                        refine W.lret (v := v214) hx hb hr (fun t ht hW => ⟨⟨_, (th18, up18, v120, 0), rfl, ?_, by rw [ht]; exact hP, va_K.moved hW.alike hK, hD⟩, hS.F ht⟩) hS.2.2 d_M_exact_222
                        show th18 = th ∧ (((0 : Int64) = 0 ∧ sp_rok a.toInt b.toInt d.toInt v214.toInt) ∨ (¬ (0 : Int64) = 0 ∧ sp_rno a.toInt b.toInt d.toInt))
                        exact ⟨e18.1.trans e9.1, ex_fin hd0 hQx hRx hN9 e98 rfl hMv e189 (by first | exact Or.inl ⟨c194, rfl⟩ | exact Or.inr ⟨c194, by decide⟩) (by first | exact Or.inl ⟨c207, rfl⟩ | exact Or.inr ⟨c207, e214⟩)⟩
                  · skip
                    refine lv_if_ne (tgt := 188) hx hb d_M_exact_156 (by decide) (fun c156 => ?_) (fun c156 => ?_)
                    · skip
                      have c156 := (not_congr (lg_cmp_eq _ _)).mp c156
                      refine lv_iconst (v := 0) hx hb d_M_exact_188 (by decide) ?_
                      exact K189 _ (by first | exact ex_hit ⟨c156, Or.inl c165⟩ | exact ex_hit ⟨c156, Or.inr ⟨c170, c181⟩⟩ | exact ex_miss (fun z => c156 z.1) | exact ex_miss (fun z => z.2.elim (fun y => c165 y) (fun y => y.1 c170)) | exact ex_miss (fun z => z.2.elim (fun y => c165 y) (fun y => c181 y.2)))
                    · skip
                      have c156 := (lg_cmp_eq _ _).mp c156
                      refine lv_aload_n hx hb d_M_exact_159 rfl (lv_at hl 1 rfl) ?_
                      refine va_get (D := (dC, dI)) (ci := 1) (v := .long v120) (C := R_M) (T := F_M) (N := 4) hx hb hts (fun w h => List.mem_cons_of_mem _ (i_M w h)) hown hK hP 0 rfl rfl 2 (by decide) (hts (.fieldLink R_M 20 R_M "lower" "J") (List.mem_cons_of_mem _ (tm (by decide +kernel) rfl))) (fun _ h9 => h9) rfl d_M_exact_160 ?_
                      refine lv_lconst (v := 0) hx hb d_M_exact_163 (by decide) ?_
                      refine W.lcmp hx hb d_M_exact_164 ?_
                      refine lv_if_ge (tgt := 184) hx hb d_M_exact_165 (by decide) (fun c165 => ?_) (fun c165 => ?_)
                      · skip
                        have c165 := (lg_cmp_ge _ _).mp c165
                        refine lv_iconst (v := 1) hx hb d_M_exact_184 (by decide) ?_
                        refine lv_goto (tgt := 189) hx hb d_M_exact_185 (by decide) ?_
                        exact K189 _ (by first | exact ex_hit ⟨c156, Or.inl c165⟩ | exact ex_hit ⟨c156, Or.inr ⟨c170, c181⟩⟩ | exact ex_miss (fun z => c156 z.1) | exact ex_miss (fun z => z.2.elim (fun y => c165 y) (fun y => y.1 c170)) | exact ex_miss (fun z => z.2.elim (fun y => c165 y) (fun y => c181 y.2)))
                      · skip
                        have c165 := (not_congr (lg_cmp_ge _ _)).mp c165
                        refine lv_iload hx hb d_M_exact_168 (lv_at hl 0 rfl) ?_
                        refine lv_if_eq (tgt := 188) hx hb d_M_exact_170 (by decide) (fun c170 => ?_) (fun c170 => ?_)
                        · skip
                          refine lv_iconst (v := 0) hx hb d_M_exact_188 (by decide) ?_
                          exact K189 _ (by first | exact ex_hit ⟨c156, Or.inl c165⟩ | exact ex_hit ⟨c156, Or.inr ⟨c170, c181⟩⟩ | exact ex_miss (fun z => c156 z.1) | exact ex_miss (fun z => z.2.elim (fun y => c165 y) (fun y => y.1 c170)) | exact ex_miss (fun z => z.2.elim (fun y => c165 y) (fun y => c181 y.2)))
                        · skip
                          refine lv_aload_n hx hb d_M_exact_173 rfl (lv_at hl 1 rfl) ?_
                          refine va_get (D := (dC, dI)) (ci := 1) (v := .long v120) (C := R_M) (T := F_M) (N := 4) hx hb hts (fun w h => List.mem_cons_of_mem _ (i_M w h)) hown hK hP 0 rfl rfl 2 (by decide) (hts (.fieldLink R_M 20 R_M "lower" "J") (List.mem_cons_of_mem _ (tm (by decide +kernel) rfl))) (fun _ h9 => h9) rfl d_M_exact_174 ?_
                          refine lv_ldc2 (v := (-9223372036854775808)) hx hb hown (hts (.constantLong R_M 14 (-9223372036854775808)) (List.mem_cons_of_mem _ (tm (by decide +kernel) rfl))) d_M_exact_177 ?_
                          refine W.lcmp hx hb d_M_exact_180 ?_
                          refine lv_if_ne (tgt := 188) hx hb d_M_exact_181 (by decide) (fun c181 => ?_) (fun c181 => ?_)
                          · skip
                            have c181 := (not_congr (lg_cmp_eq _ _)).mp c181
                            refine lv_iconst (v := 0) hx hb d_M_exact_188 (by decide) ?_
                            exact K189 _ (by first | exact ex_hit ⟨c156, Or.inl c165⟩ | exact ex_hit ⟨c156, Or.inr ⟨c170, c181⟩⟩ | exact ex_miss (fun z => c156 z.1) | exact ex_miss (fun z => z.2.elim (fun y => c165 y) (fun y => y.1 c170)) | exact ex_miss (fun z => z.2.elim (fun y => c165 y) (fun y => c181 y.2)))
                          · skip
                            have c181 := (lg_cmp_eq _ _).mp c181
                            refine lv_iconst (v := 1) hx hb d_M_exact_184 (by decide) ?_
                            refine lv_goto (tgt := 189) hx hb d_M_exact_185 (by decide) ?_
                            exact K189 _ (by first | exact ex_hit ⟨c156, Or.inl c165⟩ | exact ex_hit ⟨c156, Or.inr ⟨c170, c181⟩⟩ | exact ex_miss (fun z => c156 z.1) | exact ex_miss (fun z => z.2.elim (fun y => c165 y) (fun y => y.1 c170)) | exact ex_miss (fun z => z.2.elim (fun y => c165 y) (fun y => c181 y.2)))
                · skip
                  have c131 := (lg_cmp_eq _ _).mp c131
                  refine lv_aload_n hx hb d_M_exact_134 rfl (lv_at hl 1 rfl) ?_
                  refine va_get (D := (dC, dI)) (ci := 1) (v := .long up18) (C := R_M) (T := F_M) (N := 4) hx hb hts (fun w h => List.mem_cons_of_mem _ (i_M w h)) hown hK hP 0 rfl rfl 1 (by decide) (hts (.fieldLink R_M 16 R_M "upper" "J") (List.mem_cons_of_mem _ (tm (by decide +kernel) rfl))) (fun _ h9 => h9) rfl d_M_exact_135 ?_
                  refine lv_lconst (v := 1) hx hb d_M_exact_138 (by decide) ?_
                  refine lv_ladd hx hb d_M_exact_139 ?_
                  refine lv_topl (fun v139 e139 => ?_)
                  refine lv_goto (tgt := 147) hx hb d_M_exact_140 (by decide) ?_
                  refine va_put (D := (dC, dI)) (ci := 1) (v := .long v139) (ty := .long) (C := R_M) (T := F_M) (N := 4) hx hb hts (fun w h => List.mem_cons_of_mem _ (i_M w h)) t_M t_M_ok n_M hown hK hP hD hS 0 rfl rfl 1 (by decide) (hts (.fieldLink R_M 16 R_M "upper" "J") (List.mem_cons_of_mem _ (tm (by decide +kernel) rfl))) (fun _ h9 => h9) rfl (by decide +kernel) rfl rfl (Nat.le_of_ble_eq_true rfl) d_M_exact_147 (fun H locs hP hD hS => ?_)
                  have hP : va_P (dC, dI) classes [(h0, .inr (1, [.int th18, .long v139, .long v120, .long le18]))] H := hP
                  have hD : va_D A [(h0, .inr (1, [.int th18, .long v139, .long v120, .long le18]))] := hD
                  have hM : uN v139 * 18446744073709551616 + uN v120 = Q + (if v98 = 0 then 0 else if R = 0 then 0 else 1) := by rw [if_neg c102, if_neg (fun z => c111 (hR0.mpr z))]; exact ex_inc1 hQ.symm (by rw [hQx]; exact ex_Qb hd0) e120 c131 e139
                  have hMv := ex_Mv e98 hM
                  refine lv_aload_n hx hb d_M_exact_150 rfl (lv_at hl 1 rfl) ?_
                  refine va_get (D := (dC, dI)) (ci := 1) (v := .long v139) (C := R_M) (T := F_M) (N := 4) hx hb hts (fun w h => List.mem_cons_of_mem _ (i_M w h)) hown hK hP 0 rfl rfl 1 (by decide) (hts (.fieldLink R_M 16 R_M "upper" "J") (List.mem_cons_of_mem _ (tm (by decide +kernel) rfl))) (fun _ h9 => h9) rfl d_M_exact_151 ?_
                  refine lv_lconst (v := 0) hx hb d_M_exact_154 (by decide) ?_
                  refine W.lcmp hx hb d_M_exact_155 ?_
                  refine jn_i (J := 189) (rest := []) (fun v => v = if v139 = 0 ∧ (0 ≤ v120 ∨ (¬ v98 = 0 ∧ v120 = -9223372036854775808)) then 1 else 0) (fun v189 e189 => ?_) (fun K189 => ?_)
                  · skip
                    refine lv_istore (lv' := [(8, .int v189), (7, .int v98), (0, .ref h0), (1, .long a), (3, .long b), (5, .long d)]) hx hb d_M_exact_189 hl (by decide) rfl (fun ls hl => ?_)
                    refine lv_aload_n hx hb d_M_exact_191 rfl (lv_at hl 2 rfl) ?_
                    refine lv_iload hx hb d_M_exact_192 (lv_at hl 0 rfl) ?_
                    refine lv_if_eq (tgt := 201) hx hb d_M_exact_194 (by decide) (fun c194 => ?_) (fun c194 => ?_)
                    · skip
                      refine lv_lconst (v := 1) hx hb d_M_exact_201 (by decide) ?_
                      refine va_put (D := (dC, dI)) (ci := 1) (v := .long 1) (ty := .long) (C := R_M) (T := F_M) (N := 4) hx hb hts (fun w h => List.mem_cons_of_mem _ (i_M w h)) t_M t_M_ok n_M hown hK hP hD hS 0 rfl rfl 3 (by decide) (hts (.fieldLink R_M 27 R_M "left" "J") (List.mem_cons_of_mem _ (tm (by decide +kernel) rfl))) (fun _ h9 => h9) rfl (by decide +kernel) rfl rfl (Nat.le_of_ble_eq_true rfl) d_M_exact_202 (fun H locs hP hD hS => ?_)
                      have hP : va_P (dC, dI) classes [(h0, .inr (1, [.int th18, .long v139, .long v120, .long 1]))] H := hP
                      have hD : va_D A [(h0, .inr (1, [.int th18, .long v139, .long v120, .long 1]))] := hD
                      refine lv_iload hx hb d_M_exact_205 (lv_at hl 1 rfl) ?_
                      refine lv_if_eq (tgt := 218) hx hb d_M_exact_207 (by decide) (fun c207 => ?_) (fun c207 => ?_)
                      · skip
                        refine lv_aload_n hx hb d_M_exact_218 rfl (lv_at hl 2 rfl) ?_
                        refine va_get (D := (dC, dI)) (ci := 1) (v := .long v120) (C := R_M) (T := F_M) (N := 4) hx hb hts (fun w h => List.mem_cons_of_mem _ (i_M w h)) hown hK hP 0 rfl rfl 2 (by decide) (hts (.fieldLink R_M 20 R_M "lower" "J") (List.mem_cons_of_mem _ (tm (by decide +kernel) rfl))) (fun _ h9 => h9) rfl d_M_exact_219 ?_
                        refine W.lret (v := v120) hx hb hr (fun t ht hW => ⟨⟨_, (th18, v139, v120, 1), rfl, ?_, by rw [ht]; exact hP, va_K.moved hW.alike hK, hD⟩, hS.F ht⟩) hS.2.2 d_M_exact_222
                        show th18 = th ∧ (((1 : Int64) = 0 ∧ sp_rok a.toInt b.toInt d.toInt v120.toInt) ∨ (¬ (1 : Int64) = 0 ∧ sp_rno a.toInt b.toInt d.toInt))
                        exact ⟨e18.1.trans e9.1, ex_fin hd0 hQx hRx hN9 e98 rfl hMv e189 (by first | exact Or.inl ⟨c194, rfl⟩ | exact Or.inr ⟨c194, by decide⟩) (by first | exact Or.inl ⟨c207, rfl⟩ | exact Or.inr ⟨c207, e214⟩)⟩
                      · skip
                        refine lv_aload_n hx hb d_M_exact_210 rfl (lv_at hl 2 rfl) ?_
                        refine va_get (D := (dC, dI)) (ci := 1) (v := .long v120) (C := R_M) (T := F_M) (N := 4) hx hb hts (fun w h => List.mem_cons_of_mem _ (i_M w h)) hown hK hP 0 rfl rfl 2 (by decide) (hts (.fieldLink R_M 20 R_M "lower" "J") (List.mem_cons_of_mem _ (tm (by decide +kernel) rfl))) (fun _ h9 => h9) rfl d_M_exact_211 ?_
                        refine lv_lneg hx hb d_M_exact_214 ?_
                        refine lv_topl (fun v214 e214 => ?_)
                        refine lv_goto (tgt := 222) hx hb d_M_exact_215 (by decide) ?_
                        refine W.lret (v := v214) hx hb hr (fun t ht hW => ⟨⟨_, (th18, v139, v120, 1), rfl, ?_, by rw [ht]; exact hP, va_K.moved hW.alike hK, hD⟩, hS.F ht⟩) hS.2.2 d_M_exact_222
                        show th18 = th ∧ (((1 : Int64) = 0 ∧ sp_rok a.toInt b.toInt d.toInt v214.toInt) ∨ (¬ (1 : Int64) = 0 ∧ sp_rno a.toInt b.toInt d.toInt))
                        exact ⟨e18.1.trans e9.1, ex_fin hd0 hQx hRx hN9 e98 rfl hMv e189 (by first | exact Or.inl ⟨c194, rfl⟩ | exact Or.inr ⟨c194, by decide⟩) (by first | exact Or.inl ⟨c207, rfl⟩ | exact Or.inr ⟨c207, e214⟩)⟩
                    · skip
                      refine lv_lconst (v := 0) hx hb d_M_exact_197 (by decide) ?_
                      refine lv_goto (tgt := 202) hx hb d_M_exact_198 (by decide) ?_
                      refine va_put (D := (dC, dI)) (ci := 1) (v := .long 0) (ty := .long) (C := R_M) (T := F_M) (N := 4) hx hb hts (fun w h => List.mem_cons_of_mem _ (i_M w h)) t_M t_M_ok n_M hown hK hP hD hS 0 rfl rfl 3 (by decide) (hts (.fieldLink R_M 27 R_M "left" "J") (List.mem_cons_of_mem _ (tm (by decide +kernel) rfl))) (fun _ h9 => h9) rfl (by decide +kernel) rfl rfl (Nat.le_of_ble_eq_true rfl) d_M_exact_202 (fun H locs hP hD hS => ?_)
                      have hP : va_P (dC, dI) classes [(h0, .inr (1, [.int th18, .long v139, .long v120, .long 0]))] H := hP
                      have hD : va_D A [(h0, .inr (1, [.int th18, .long v139, .long v120, .long 0]))] := hD
                      refine lv_iload hx hb d_M_exact_205 (lv_at hl 1 rfl) ?_
                      refine lv_if_eq (tgt := 218) hx hb d_M_exact_207 (by decide) (fun c207 => ?_) (fun c207 => ?_)
                      · skip
                        refine lv_aload_n hx hb d_M_exact_218 rfl (lv_at hl 2 rfl) ?_
                        refine va_get (D := (dC, dI)) (ci := 1) (v := .long v120) (C := R_M) (T := F_M) (N := 4) hx hb hts (fun w h => List.mem_cons_of_mem _ (i_M w h)) hown hK hP 0 rfl rfl 2 (by decide) (hts (.fieldLink R_M 20 R_M "lower" "J") (List.mem_cons_of_mem _ (tm (by decide +kernel) rfl))) (fun _ h9 => h9) rfl d_M_exact_219 ?_
                        refine W.lret (v := v120) hx hb hr (fun t ht hW => ⟨⟨_, (th18, v139, v120, 0), rfl, ?_, by rw [ht]; exact hP, va_K.moved hW.alike hK, hD⟩, hS.F ht⟩) hS.2.2 d_M_exact_222
                        show th18 = th ∧ (((0 : Int64) = 0 ∧ sp_rok a.toInt b.toInt d.toInt v120.toInt) ∨ (¬ (0 : Int64) = 0 ∧ sp_rno a.toInt b.toInt d.toInt))
                        exact ⟨e18.1.trans e9.1, ex_fin hd0 hQx hRx hN9 e98 rfl hMv e189 (by first | exact Or.inl ⟨c194, rfl⟩ | exact Or.inr ⟨c194, by decide⟩) (by first | exact Or.inl ⟨c207, rfl⟩ | exact Or.inr ⟨c207, e214⟩)⟩
                      · skip
                        refine lv_aload_n hx hb d_M_exact_210 rfl (lv_at hl 2 rfl) ?_
                        refine va_get (D := (dC, dI)) (ci := 1) (v := .long v120) (C := R_M) (T := F_M) (N := 4) hx hb hts (fun w h => List.mem_cons_of_mem _ (i_M w h)) hown hK hP 0 rfl rfl 2 (by decide) (hts (.fieldLink R_M 20 R_M "lower" "J") (List.mem_cons_of_mem _ (tm (by decide +kernel) rfl))) (fun _ h9 => h9) rfl d_M_exact_211 ?_
                        refine lv_lneg hx hb d_M_exact_214 ?_
                        refine lv_topl (fun v214 e214 => ?_)
                        refine lv_goto (tgt := 222) hx hb d_M_exact_215 (by decide) ?_
                        refine W.lret (v := v214) hx hb hr (fun t ht hW => ⟨⟨_, (th18, v139, v120, 0), rfl, ?_, by rw [ht]; exact hP, va_K.moved hW.alike hK, hD⟩, hS.F ht⟩) hS.2.2 d_M_exact_222
                        show th18 = th ∧ (((0 : Int64) = 0 ∧ sp_rok a.toInt b.toInt d.toInt v214.toInt) ∨ (¬ (0 : Int64) = 0 ∧ sp_rno a.toInt b.toInt d.toInt))
                        exact ⟨e18.1.trans e9.1, ex_fin hd0 hQx hRx hN9 e98 rfl hMv e189 (by first | exact Or.inl ⟨c194, rfl⟩ | exact Or.inr ⟨c194, by decide⟩) (by first | exact Or.inl ⟨c207, rfl⟩ | exact Or.inr ⟨c207, e214⟩)⟩
                  · skip
                    refine lv_if_ne (tgt := 188) hx hb d_M_exact_156 (by decide) (fun c156 => ?_) (fun c156 => ?_)
                    · skip
                      have c156 := (not_congr (lg_cmp_eq _ _)).mp c156
                      refine lv_iconst (v := 0) hx hb d_M_exact_188 (by decide) ?_
                      exact K189 _ (by first | exact ex_hit ⟨c156, Or.inl c165⟩ | exact ex_hit ⟨c156, Or.inr ⟨c170, c181⟩⟩ | exact ex_miss (fun z => c156 z.1) | exact ex_miss (fun z => z.2.elim (fun y => c165 y) (fun y => y.1 c170)) | exact ex_miss (fun z => z.2.elim (fun y => c165 y) (fun y => c181 y.2)))
                    · skip
                      have c156 := (lg_cmp_eq _ _).mp c156
                      refine lv_aload_n hx hb d_M_exact_159 rfl (lv_at hl 1 rfl) ?_
                      refine va_get (D := (dC, dI)) (ci := 1) (v := .long v120) (C := R_M) (T := F_M) (N := 4) hx hb hts (fun w h => List.mem_cons_of_mem _ (i_M w h)) hown hK hP 0 rfl rfl 2 (by decide) (hts (.fieldLink R_M 20 R_M "lower" "J") (List.mem_cons_of_mem _ (tm (by decide +kernel) rfl))) (fun _ h9 => h9) rfl d_M_exact_160 ?_
                      refine lv_lconst (v := 0) hx hb d_M_exact_163 (by decide) ?_
                      refine W.lcmp hx hb d_M_exact_164 ?_
                      refine lv_if_ge (tgt := 184) hx hb d_M_exact_165 (by decide) (fun c165 => ?_) (fun c165 => ?_)
                      · skip
                        have c165 := (lg_cmp_ge _ _).mp c165
                        refine lv_iconst (v := 1) hx hb d_M_exact_184 (by decide) ?_
                        refine lv_goto (tgt := 189) hx hb d_M_exact_185 (by decide) ?_
                        exact K189 _ (by first | exact ex_hit ⟨c156, Or.inl c165⟩ | exact ex_hit ⟨c156, Or.inr ⟨c170, c181⟩⟩ | exact ex_miss (fun z => c156 z.1) | exact ex_miss (fun z => z.2.elim (fun y => c165 y) (fun y => y.1 c170)) | exact ex_miss (fun z => z.2.elim (fun y => c165 y) (fun y => c181 y.2)))
                      · skip
                        have c165 := (not_congr (lg_cmp_ge _ _)).mp c165
                        refine lv_iload hx hb d_M_exact_168 (lv_at hl 0 rfl) ?_
                        refine lv_if_eq (tgt := 188) hx hb d_M_exact_170 (by decide) (fun c170 => ?_) (fun c170 => ?_)
                        · skip
                          refine lv_iconst (v := 0) hx hb d_M_exact_188 (by decide) ?_
                          exact K189 _ (by first | exact ex_hit ⟨c156, Or.inl c165⟩ | exact ex_hit ⟨c156, Or.inr ⟨c170, c181⟩⟩ | exact ex_miss (fun z => c156 z.1) | exact ex_miss (fun z => z.2.elim (fun y => c165 y) (fun y => y.1 c170)) | exact ex_miss (fun z => z.2.elim (fun y => c165 y) (fun y => c181 y.2)))
                        · skip
                          refine lv_aload_n hx hb d_M_exact_173 rfl (lv_at hl 1 rfl) ?_
                          refine va_get (D := (dC, dI)) (ci := 1) (v := .long v120) (C := R_M) (T := F_M) (N := 4) hx hb hts (fun w h => List.mem_cons_of_mem _ (i_M w h)) hown hK hP 0 rfl rfl 2 (by decide) (hts (.fieldLink R_M 20 R_M "lower" "J") (List.mem_cons_of_mem _ (tm (by decide +kernel) rfl))) (fun _ h9 => h9) rfl d_M_exact_174 ?_
                          refine lv_ldc2 (v := (-9223372036854775808)) hx hb hown (hts (.constantLong R_M 14 (-9223372036854775808)) (List.mem_cons_of_mem _ (tm (by decide +kernel) rfl))) d_M_exact_177 ?_
                          refine W.lcmp hx hb d_M_exact_180 ?_
                          refine lv_if_ne (tgt := 188) hx hb d_M_exact_181 (by decide) (fun c181 => ?_) (fun c181 => ?_)
                          · skip
                            have c181 := (not_congr (lg_cmp_eq _ _)).mp c181
                            refine lv_iconst (v := 0) hx hb d_M_exact_188 (by decide) ?_
                            exact K189 _ (by first | exact ex_hit ⟨c156, Or.inl c165⟩ | exact ex_hit ⟨c156, Or.inr ⟨c170, c181⟩⟩ | exact ex_miss (fun z => c156 z.1) | exact ex_miss (fun z => z.2.elim (fun y => c165 y) (fun y => y.1 c170)) | exact ex_miss (fun z => z.2.elim (fun y => c165 y) (fun y => c181 y.2)))
                          · skip
                            have c181 := (lg_cmp_eq _ _).mp c181
                            refine lv_iconst (v := 1) hx hb d_M_exact_184 (by decide) ?_
                            refine lv_goto (tgt := 189) hx hb d_M_exact_185 (by decide) ?_
                            exact K189 _ (by first | exact ex_hit ⟨c156, Or.inl c165⟩ | exact ex_hit ⟨c156, Or.inr ⟨c170, c181⟩⟩ | exact ex_miss (fun z => c156 z.1) | exact ex_miss (fun z => z.2.elim (fun y => c165 y) (fun y => y.1 c170)) | exact ex_miss (fun z => z.2.elim (fun y => c165 y) (fun y => c181 y.2)))
          · skip
            refine lv_icmp_eq (tgt := 97) hx hb d_M_exact_63 (by decide) (fun c63 => ?_) (fun c63 => ?_)
            · skip
              refine lv_iconst (v := 0) hx hb d_M_exact_97 (by decide) ?_
              exact K98 _ (by first | exact ex_miss (fun z => hng.mp c63 z.1) | exact ex_hit ⟨Classical.byContradiction (fun z => c63 (hng.mpr z)), Or.inl c72⟩ | exact ex_hit ⟨Classical.byContradiction (fun z => c63 (hng.mpr z)), Or.inr (Or.inl c81)⟩ | exact ex_hit ⟨Classical.byContradiction (fun z => c63 (hng.mpr z)), Or.inr (Or.inr c90)⟩ | exact ex_miss (fun z => z.2.elim (fun y => y c72) (fun y => y.elim (fun x => x c81) (fun x => x c90))))
            · skip
              refine lv_aload_n hx hb d_M_exact_66 rfl (lv_at hl 0 rfl) ?_
              refine va_get (D := (dC, dI)) (ci := 1) (v := .long up18) (C := R_M) (T := F_M) (N := 4) hx hb hts (fun w h => List.mem_cons_of_mem _ (i_M w h)) hown hK hP 0 rfl rfl 1 (by decide) (hts (.fieldLink R_M 16 R_M "upper" "J") (List.mem_cons_of_mem _ (tm (by decide +kernel) rfl))) (fun _ h9 => h9) rfl d_M_exact_67 ?_
              refine lv_lconst (v := 0) hx hb d_M_exact_70 (by decide) ?_
              refine W.lcmp hx hb d_M_exact_71 ?_
              refine lv_if_ne (tgt := 93) hx hb d_M_exact_72 (by decide) (fun c72 => ?_) (fun c72 => ?_)
              · skip
                have c72 := (not_congr (lg_cmp_eq _ _)).mp c72
                refine lv_iconst (v := 1) hx hb d_M_exact_93 (by decide) ?_
                refine lv_goto (tgt := 98) hx hb d_M_exact_94 (by decide) ?_
                exact K98 _ (by first | exact ex_miss (fun z => hng.mp c63 z.1) | exact ex_hit ⟨Classical.byContradiction (fun z => c63 (hng.mpr z)), Or.inl c72⟩ | exact ex_hit ⟨Classical.byContradiction (fun z => c63 (hng.mpr z)), Or.inr (Or.inl c81)⟩ | exact ex_hit ⟨Classical.byContradiction (fun z => c63 (hng.mpr z)), Or.inr (Or.inr c90)⟩ | exact ex_miss (fun z => z.2.elim (fun y => y c72) (fun y => y.elim (fun x => x c81) (fun x => x c90))))
              · skip
                have c72 := (lg_cmp_eq _ _).mp c72
                refine lv_aload_n hx hb d_M_exact_75 rfl (lv_at hl 0 rfl) ?_
                refine va_get (D := (dC, dI)) (ci := 1) (v := .long lo18) (C := R_M) (T := F_M) (N := 4) hx hb hts (fun w h => List.mem_cons_of_mem _ (i_M w h)) hown hK hP 0 rfl rfl 2 (by decide) (hts (.fieldLink R_M 20 R_M "lower" "J") (List.mem_cons_of_mem _ (tm (by decide +kernel) rfl))) (fun _ h9 => h9) rfl d_M_exact_76 ?_
                refine lv_lconst (v := 0) hx hb d_M_exact_79 (by decide) ?_
                refine W.lcmp hx hb d_M_exact_80 ?_
                refine lv_if_ne (tgt := 93) hx hb d_M_exact_81 (by decide) (fun c81 => ?_) (fun c81 => ?_)
                · skip
                  have c81 := (not_congr (lg_cmp_eq _ _)).mp c81
                  refine lv_iconst (v := 1) hx hb d_M_exact_93 (by decide) ?_
                  refine lv_goto (tgt := 98) hx hb d_M_exact_94 (by decide) ?_
                  exact K98 _ (by first | exact ex_miss (fun z => hng.mp c63 z.1) | exact ex_hit ⟨Classical.byContradiction (fun z => c63 (hng.mpr z)), Or.inl c72⟩ | exact ex_hit ⟨Classical.byContradiction (fun z => c63 (hng.mpr z)), Or.inr (Or.inl c81)⟩ | exact ex_hit ⟨Classical.byContradiction (fun z => c63 (hng.mpr z)), Or.inr (Or.inr c90)⟩ | exact ex_miss (fun z => z.2.elim (fun y => y c72) (fun y => y.elim (fun x => x c81) (fun x => x c90))))
                · skip
                  have c81 := (lg_cmp_eq _ _).mp c81
                  refine lv_aload_n hx hb d_M_exact_84 rfl (lv_at hl 0 rfl) ?_
                  refine va_get (D := (dC, dI)) (ci := 1) (v := .long le18) (C := R_M) (T := F_M) (N := 4) hx hb hts (fun w h => List.mem_cons_of_mem _ (i_M w h)) hown hK hP 0 rfl rfl 3 (by decide) (hts (.fieldLink R_M 27 R_M "left" "J") (List.mem_cons_of_mem _ (tm (by decide +kernel) rfl))) (fun _ h9 => h9) rfl d_M_exact_85 ?_
                  refine lv_lconst (v := 0) hx hb d_M_exact_88 (by decide) ?_
                  refine W.lcmp hx hb d_M_exact_89 ?_
                  refine lv_if_eq (tgt := 97) hx hb d_M_exact_90 (by decide) (fun c90 => ?_) (fun c90 => ?_)
                  · skip
                    have c90 := (lg_cmp_eq _ _).mp c90
                    refine lv_iconst (v := 0) hx hb d_M_exact_97 (by decide) ?_
                    exact K98 _ (by first | exact ex_miss (fun z => hng.mp c63 z.1) | exact ex_hit ⟨Classical.byContradiction (fun z => c63 (hng.mpr z)), Or.inl c72⟩ | exact ex_hit ⟨Classical.byContradiction (fun z => c63 (hng.mpr z)), Or.inr (Or.inl c81)⟩ | exact ex_hit ⟨Classical.byContradiction (fun z => c63 (hng.mpr z)), Or.inr (Or.inr c90)⟩ | exact ex_miss (fun z => z.2.elim (fun y => y c72) (fun y => y.elim (fun x => x c81) (fun x => x c90))))
                  · skip
                    have c90 := (not_congr (lg_cmp_eq _ _)).mp c90
                    refine lv_iconst (v := 1) hx hb d_M_exact_93 (by decide) ?_
                    refine lv_goto (tgt := 98) hx hb d_M_exact_94 (by decide) ?_
                    exact K98 _ (by first | exact ex_miss (fun z => hng.mp c63 z.1) | exact ex_hit ⟨Classical.byContradiction (fun z => c63 (hng.mpr z)), Or.inl c72⟩ | exact ex_hit ⟨Classical.byContradiction (fun z => c63 (hng.mpr z)), Or.inr (Or.inl c81)⟩ | exact ex_hit ⟨Classical.byContradiction (fun z => c63 (hng.mpr z)), Or.inr (Or.inr c90)⟩ | exact ex_miss (fun z => z.2.elim (fun y => y c72) (fun y => y.elim (fun x => x c81) (fun x => x c90))))
        · skip
          refine lv_if_ge (tgt := 62) hx hb d_M_exact_55 (by decide) (fun c55 => ?_) (fun c55 => ?_)
          · skip
            have c55 := (lg_cmp_ge _ _).mp c55
            refine lv_iconst (v := 0) hx hb d_M_exact_62 (by decide) ?_
            exact K63 _ (by first | exact be_s0 c55 | exact be_s1 c55)
          · skip
            have c55 := (not_congr (lg_cmp_ge _ _)).mp c55
            refine lv_iconst (v := 1) hx hb d_M_exact_58 (by decide) ?_
            refine lv_goto (tgt := 63) hx hb d_M_exact_59 (by decide) ?_
            exact K63 _ (by first | exact be_s0 c55 | exact be_s1 c55)
      · skip
        refine lv_icmp_eq (tgt := 50) hx hb d_M_exact_43 (by decide) (fun c43 => ?_) (fun c43 => ?_)
        · skip
          refine lv_iconst (v := 0) hx hb d_M_exact_50 (by decide) ?_
          exact K51 _ (by first | (rw [if_pos c43]) | (rw [if_neg c43]))
        · skip
          refine lv_iconst (v := 1) hx hb d_M_exact_46 (by decide) ?_
          refine lv_goto (tgt := 51) hx hb d_M_exact_47 (by decide) ?_
          exact K51 _ (by first | (rw [if_pos c43]) | (rw [if_neg c43]))
    · skip
      refine lv_if_ge (tgt := 42) hx hb d_M_exact_35 (by decide) (fun c35 => ?_) (fun c35 => ?_)
      · skip
        have c35 := (lg_cmp_ge _ _).mp c35
        refine lv_iconst (v := 0) hx hb d_M_exact_42 (by decide) ?_
        exact K43 _ (by first | exact be_s0 c35 | exact be_s1 c35)
      · skip
        have c35 := (not_congr (lg_cmp_ge _ _)).mp c35
        refine lv_iconst (v := 1) hx hb d_M_exact_38 (by decide) ?_
        refine lv_goto (tgt := 43) hx hb d_M_exact_39 (by decide) ?_
        exact K43 _ (by first | exact be_s0 c35 | exact be_s1 c35)
  · skip
    refine lv_if_ge (tgt := 31) hx hb d_M_exact_24 (by decide) (fun c24 => ?_) (fun c24 => ?_)
    · skip
      have c24 := (lg_cmp_ge _ _).mp c24
      refine lv_iconst (v := 0) hx hb d_M_exact_31 (by decide) ?_
      exact K32 _ (by first | exact be_s0 c24 | exact be_s1 c24)
    · skip
      have c24 := (not_congr (lg_cmp_ge _ _)).mp c24
      refine lv_iconst (v := 1) hx hb d_M_exact_27 (by decide) ?_
      refine lv_goto (tgt := 32) hx hb d_M_exact_28 (by decide) ?_
      exact K32 _ (by first | exact be_s0 c24 | exact be_s1 c24)
set_option maxHeartbeats 4000000 in
set_option maxRecDepth 100000 in
theorem c_M_ratio (l : Launch) (dC : Nat → ClassId) (dI : Nat → Nat → Nat) (h0 sz : Nat) (th : Int32) (up lo le : Int64) (a b d : Int64)  : Met l y_M_ratio w_M_ratio ({ frames := 3, cells := 0, slots := 0, locals := 130 }) (va_Pc [.ref h0, .long a, .long b, .long d] (fun U => U.heap.size = sz ∧ va_P (dC, dI) classes [(h0, .inr (1, [.int th, .long up, .long lo, .long le]))] U.heap ∧ va_K (dC, dI) classes [] U ∧ va_D (fun _ => True) [(h0, .inr (1, [.int th, .long up, .long lo, .long le]))])) (va_Ql (fun (r : Int64) (u : MS) => (u.1 = 0 ∧ sp_rok a.toInt b.toInt d.toInt r.toInt) ∨ (u.1 = 1 ∧ sp_rno a.toInt b.toInt d.toInt)) (at_M dC dI (va_A [(h0, .inr (1, [.int th, .long up, .long lo, .long le]))] sz) h0) (va_A [(h0, .inr (1, [.int th, .long up, .long lo, .long le]))] sz)) 0 0 (va_A [(h0, .inr (1, [.int th, .long up, .long lo, .long le]))] sz) := by
  refine Met.ofW (cc := b_M_ratio) (maxL := 9) (ret := some .long) (by decide) rfl ?_
  intro p e s m args below meth c s₁ B hml hv
  obtain ⟨rfl, hsz, hP, hK, hD0⟩ := hv
  have hx := B.exec
  have hb := B.bytes
  have hr := B.returns
  have hts := atoms_spec (ws := w_M_ratio) B.pre
  have hown : s.vm.findClass R_M = some m.cls := findClass_of_methodNamed B.named
  have hlocks := B.notSynchronized
  subst hsz
  have hD := hD0.self (sz := s.heap.size)
  generalize hAe : va_A [(h0, .inr (1, [.int th, .long up, .long lo, .long le]))] s.heap.size = A at hD ⊢
  have hA : ∀ q : Nat, s.heap.size ≤ q → A q := fun q h => by rw [← hAe]; exact Or.inr h
  have hS : va_S A s.heap s.heap [] := va_S.rf
  have hP : va_P (dC, dI) classes [(h0, .inr (1, [.int th, .long up, .long lo, .long le]))] s.heap := hP
  have hl := lv_entry ([.ref h0, .long a, .long b, .long d]) (n := 9) (Nat.le_of_ble_eq_true rfl)
  rw [lg_entry_eq]
  generalize (lg_sl ([.ref h0, .long a, .long b, .long d]) ++ List.replicate (9 - (lg_sl ([.ref h0, .long a, .long b, .long d])).length) Slot.unset).toArray = ls at hl ⊢
  have hl : lv_has ls 9 [(0, .ref h0), (1, .long a), (3, .long b), (5, .long d)] := hl
  refine lv_aload_n hx hb d_M_ratio_0 rfl (lv_at hl 0 rfl) ?_
  refine lv_iconst (v := 1) hx hb d_M_ratio_1 (by decide) ?_
  refine va_put (D := (dC, dI)) (ci := 1) (v := .int 1) (ty := .int) (C := R_M) (T := F_M) (N := 4) hx hb hts (fun w h => List.mem_cons_of_mem _ (i_M w h)) t_M t_M_ok n_M hown hK hP hD hS 0 rfl rfl 0 (by decide) (hts (.fieldLink R_M 7 R_M "thrown" "I") (List.mem_cons_of_mem _ (tm (by decide +kernel) rfl))) (fun _ h9 => h9) rfl (by decide +kernel) rfl rfl (Nat.le_of_ble_eq_true rfl) d_M_ratio_2 (fun H locs hP hD hS => ?_)
  have hP : va_P (dC, dI) classes [(h0, .inr (1, [.int 1, .long up, .long lo, .long le]))] H := hP
  have hD : va_D A [(h0, .inr (1, [.int 1, .long up, .long lo, .long le]))] := hD
  refine lv_lload hx hb d_M_ratio_5 (lv_at hl 3 rfl) ?_
  refine lv_lconst (v := 0) hx hb d_M_ratio_7 (by decide) ?_
  refine W.lcmp hx hb d_M_ratio_8 ?_
  refine lv_if_ne (tgt := 14) hx hb d_M_ratio_9 (by decide) (fun c9 => ?_) (fun c9 => ?_)
  · skip
    have c9 := (not_congr (lg_cmp_eq _ _)).mp c9
    have hd0 : d.toInt ≠ 0 := fun q => c9 (Int64.toInt_inj.mp (by rw [q]; decide))
    refine lv_aload_n hx hb d_M_ratio_14 rfl (lv_at hl 0 rfl) ?_
    refine lv_lload_n hx hb d_M_ratio_15 rfl (lv_at hl 1 rfl) ?_
    refine lv_lload_n hx hb d_M_ratio_16 rfl (lv_at hl 2 rfl) ?_
    refine lv_lload hx hb d_M_ratio_17 (lv_at hl 3 rfl) ?_
    have hPc := hP.sub (ws' := [(h0, .inr (1, [.int 1, .long up, .long lo, .long le]))]) [0] rfl
    have hDc := hD.sub (ws' := [(h0, .inr (1, [.int 1, .long up, .long lo, .long le]))]) [0] (by decide) rfl
    have hKc := hK.sub (tys' := []) [] rfl
    have hFc := va_free (wc := [(h0, .inr (1, [.int 1, .long up, .long lo, .long le]))]) hD hS hA [0] rfl
    refine va_calll (va_runV (As := [.long a, .long b, .long d]) (rest := []) ⟨hx, hb, hml, hown, hts⟩ (c_M_exact l dC dI h0 H.size 1 up lo le a b d hd0) (cwV 3 hts g_M_54 rfl rfl rfl (by decide +kernel) ⟨Nat.le_of_ble_eq_true rfl, Nat.le_of_ble_eq_true rfl⟩) ⟨fun a U g mk q => by obtain ⟨q0, q1, qP, qK, qD⟩ := q; exact ⟨q0, q1, qP, va_K.moved (u := U) (U := U.calling g mk a) (Vm.Alike.refl U.vm) qK, qD⟩, va_recv hKc hPc (ci := 1) (q0 := 0) rfl rfl, fun U hU hW => ⟨rfl, by rw [hU], by rw [hU]; exact hPc, va_K.moved hW.alike hKc, hDc.weaken (fun _ _ _ _ => trivial)⟩⟩ rfl rfl hl.1 rfl (lv_room (Nat.le_of_ble_eq_true rfl)) d_M_ratio_19 ⟨Nat.le_of_ble_eq_true rfl, Nat.le_of_ble_eq_true rfl⟩) hS (fun q _ h => hFc q h) hFc (fun v19 u t H1 locs ht hvm hw hB hz1 hk1 hS => ?_)
    obtain ⟨th19, up19, lo19, le19⟩ := u
    obtain ⟨hP1, hK1, hD1⟩ := hB
    rw [ht] at hP1
    have hK1 := va_K.moved hvm.symm hK1
    have e19 := hw
    dsimp only at e19
    obtain ⟨hP, hD⟩ := va_join (wr := []) (w1 := [(h0, .inr (1, [.int th19, .long up19, .long lo19, .long le19]))]) hP hD [0] [] rfl rfl (by decide) (by decide) hk1 hFc hP1 hD1
    have hK := (hK.sub (tys' := []) [] rfl).app hK1
    generalize H1 = H at hP hS ⊢
    have hP : va_P (dC, dI) classes [(h0, .inr (1, [.int th19, .long up19, .long lo19, .long le19]))] H := hP
    have hD : va_D A [(h0, .inr (1, [.int th19, .long up19, .long lo19, .long le19]))] := hD
    have hK : va_K (dC, dI) classes [] s := hK
    refine lv_lstore (lv' := [(7, .long v19), (0, .ref h0), (1, .long a), (3, .long b), (5, .long d)]) hx hb d_M_ratio_22 hl (by decide) rfl (fun ls hl => ?_)
    refine lv_aload_n hx hb d_M_ratio_24 rfl (lv_at hl 1 rfl) ?_
    refine lv_aload_n hx hb d_M_ratio_25 rfl (lv_at hl 1 rfl) ?_
    refine va_get (D := (dC, dI)) (ci := 1) (v := .long le19) (C := R_M) (T := F_M) (N := 4) hx hb hts (fun w h => List.mem_cons_of_mem _ (i_M w h)) hown hK hP 0 rfl rfl 3 (by decide) (hts (.fieldLink R_M 27 R_M "left" "J") (List.mem_cons_of_mem _ (tm (by decide +kernel) rfl))) (fun _ h9 => h9) rfl d_M_ratio_26 ?_
    refine lv_lconst (v := 0) hx hb d_M_ratio_29 (by decide) ?_
    refine W.lcmp hx hb d_M_ratio_30 ?_
    refine jn_i (J := 39) (rest := [.ref h0]) (fun v => (le19 = 0 ∧ v = 0) ∨ (¬ le19 = 0 ∧ v = 1)) (fun v39 e39 => ?_) (fun K39 => ?_)
    · skip
      refine va_put (D := (dC, dI)) (ci := 1) (v := .int v39) (ty := .int) (C := R_M) (T := F_M) (N := 4) hx hb hts (fun w h => List.mem_cons_of_mem _ (i_M w h)) t_M t_M_ok n_M hown hK hP hD hS 0 rfl rfl 0 (by decide) (hts (.fieldLink R_M 7 R_M "thrown" "I") (List.mem_cons_of_mem _ (tm (by decide +kernel) rfl))) (fun _ h9 => h9) rfl (by decide +kernel) rfl rfl (Nat.le_of_ble_eq_true rfl) d_M_ratio_39 (fun H locs hP hD hS => ?_)
      have hP : va_P (dC, dI) classes [(h0, .inr (1, [.int v39, .long up19, .long lo19, .long le19]))] H := hP
      have hD : va_D A [(h0, .inr (1, [.int v39, .long up19, .long lo19, .long le19]))] := hD
      refine lv_aload_n hx hb d_M_ratio_42 rfl (lv_at hl 1 rfl) ?_
      refine va_get (D := (dC, dI)) (ci := 1) (v := .long le19) (C := R_M) (T := F_M) (N := 4) hx hb hts (fun w h => List.mem_cons_of_mem _ (i_M w h)) hown hK hP 0 rfl rfl 3 (by decide) (hts (.fieldLink R_M 27 R_M "left" "J") (List.mem_cons_of_mem _ (tm (by decide +kernel) rfl))) (fun _ h9 => h9) rfl d_M_ratio_43 ?_
      refine lv_lconst (v := 0) hx hb d_M_ratio_46 (by decide) ?_
      refine W.lcmp hx hb d_M_ratio_47 ?_
      refine lv_if_ne (tgt := 56) hx hb d_M_ratio_48 (by decide) (fun c48 => ?_) (fun c48 => ?_)
      · skip
        have c48 := (not_congr (lg_cmp_eq _ _)).mp c48
        refine lv_lconst (v := 0) hx hb d_M_ratio_56 (by decide) ?_
        refine W.lret (v := 0) hx hb hr (fun t ht hW => ⟨⟨_, (v39, up19, lo19, le19), rfl, ?_, by rw [ht]; exact hP, va_K.moved hW.alike hK, hD⟩, hS.F ht⟩) hS.2.2 d_M_ratio_57
        show (v39 = 0 ∧ sp_rok a.toInt b.toInt d.toInt (0 : Int64).toInt) ∨ (v39 = 1 ∧ sp_rno a.toInt b.toInt d.toInt)
        exact by first | exact Or.inl ⟨e39.resolve_right (fun z => z.1 c48) |>.2, (e19.2.resolve_right (fun z => z.1 c48)).2⟩ | exact Or.inr ⟨(e39.resolve_left (fun z => c48 z.1)).2, (e19.2.resolve_left (fun z => c48 z.1)).2⟩
      · skip
        have c48 := (lg_cmp_eq _ _).mp c48
        refine lv_lload hx hb d_M_ratio_51 (lv_at hl 0 rfl) ?_
        refine lv_goto (tgt := 57) hx hb d_M_ratio_53 (by decide) ?_
        refine W.lret (v := v19) hx hb hr (fun t ht hW => ⟨⟨_, (v39, up19, lo19, le19), rfl, ?_, by rw [ht]; exact hP, va_K.moved hW.alike hK, hD⟩, hS.F ht⟩) hS.2.2 d_M_ratio_57
        show (v39 = 0 ∧ sp_rok a.toInt b.toInt d.toInt v19.toInt) ∨ (v39 = 1 ∧ sp_rno a.toInt b.toInt d.toInt)
        exact by first | exact Or.inl ⟨e39.resolve_right (fun z => z.1 c48) |>.2, (e19.2.resolve_right (fun z => z.1 c48)).2⟩ | exact Or.inr ⟨(e39.resolve_left (fun z => c48 z.1)).2, (e19.2.resolve_left (fun z => c48 z.1)).2⟩
    · skip
      refine lv_if_ne (tgt := 38) hx hb d_M_ratio_31 (by decide) (fun c31 => ?_) (fun c31 => ?_)
      · skip
        have c31 := (not_congr (lg_cmp_eq _ _)).mp c31
        refine lv_iconst (v := 1) hx hb d_M_ratio_38 (by decide) ?_
        exact K39 _ (by first | exact Or.inl ⟨c31, rfl⟩ | exact Or.inr ⟨c31, rfl⟩)
      · skip
        have c31 := (lg_cmp_eq _ _).mp c31
        refine lv_iconst (v := 0) hx hb d_M_ratio_34 (by decide) ?_
        refine lv_goto (tgt := 39) hx hb d_M_ratio_35 (by decide) ?_
        exact K39 _ (by first | exact Or.inl ⟨c31, rfl⟩ | exact Or.inr ⟨c31, rfl⟩)
  · skip
    have c9 := (lg_cmp_eq _ _).mp c9
    refine lv_lconst (v := 0) hx hb d_M_ratio_12 (by decide) ?_
    refine W.lret (v := 0) hx hb hr (fun t ht hW => ⟨⟨_, (1, up, lo, le), rfl, ?_, by rw [ht]; exact hP, va_K.moved hW.alike hK, hD⟩, hS.F ht⟩) hS.2.2 d_M_ratio_13
    show ((1 : Int32) = 0 ∧ sp_rok a.toInt b.toInt d.toInt (0 : Int64).toInt) ∨ ((1 : Int32) = 1 ∧ sp_rno a.toInt b.toInt d.toInt)
    exact Or.inr ⟨rfl, Or.inl (by rw [c9]; decide)⟩
set_option maxHeartbeats 4000000 in
set_option maxRecDepth 100000 in
theorem c_M_between (l : Launch) (dC : Nat → ClassId) (dI : Nat → Nat → Nat) (h0 sz : Nat) (th : Int32) (up lo le : Int64) (a b : Int32) (n d : Int64)  : Met l y_M_between w_M_between ({ frames := 3, cells := 0, slots := 0, locals := 130 }) (va_Pc [.ref h0, .int a, .int b, .long n, .long d] (fun U => U.heap.size = sz ∧ va_P (dC, dI) classes [(h0, .inr (1, [.int th, .long up, .long lo, .long le]))] U.heap ∧ va_K (dC, dI) classes [] U ∧ va_D (fun _ => True) [(h0, .inr (1, [.int th, .long up, .long lo, .long le]))])) (va_Qi (fun (r : Int32) (u : MS) => (u.1 = 0 ∧ (0 < d.toInt ∧ 0 ≤ n.toInt ∧ n.toInt ≤ d.toInt) ∧ r.toInt = sp_betw a.toInt b.toInt n.toInt d.toInt) ∨ (u.1 = 1 ∧ sp_bno n.toInt d.toInt)) (at_M dC dI (va_A [(h0, .inr (1, [.int th, .long up, .long lo, .long le]))] sz) h0) (va_A [(h0, .inr (1, [.int th, .long up, .long lo, .long le]))] sz)) 0 0 (va_A [(h0, .inr (1, [.int th, .long up, .long lo, .long le]))] sz) := by
  refine Met.ofW (cc := b_M_between) (maxL := 7) (ret := some .int) (by decide) rfl ?_
  intro p e s m args below meth c s₁ B hml hv
  obtain ⟨rfl, hsz, hP, hK, hD0⟩ := hv
  have hx := B.exec
  have hb := B.bytes
  have hr := B.returns
  have hts := atoms_spec (ws := w_M_between) B.pre
  have hown : s.vm.findClass R_M = some m.cls := findClass_of_methodNamed B.named
  have hlocks := B.notSynchronized
  subst hsz
  have hD := hD0.self (sz := s.heap.size)
  generalize hAe : va_A [(h0, .inr (1, [.int th, .long up, .long lo, .long le]))] s.heap.size = A at hD ⊢
  have hA : ∀ q : Nat, s.heap.size ≤ q → A q := fun q h => by rw [← hAe]; exact Or.inr h
  have hS : va_S A s.heap s.heap [] := va_S.rf
  have hP : va_P (dC, dI) classes [(h0, .inr (1, [.int th, .long up, .long lo, .long le]))] s.heap := hP
  have hl := lv_entry ([.ref h0, .int a, .int b, .long n, .long d]) (n := 7) (Nat.le_of_ble_eq_true rfl)
  rw [lg_entry_eq]
  generalize (lg_sl ([.ref h0, .int a, .int b, .long n, .long d]) ++ List.replicate (7 - (lg_sl ([.ref h0, .int a, .int b, .long n, .long d])).length) Slot.unset).toArray = ls at hl ⊢
  have hl : lv_has ls 7 [(0, .ref h0), (1, .int a), (2, .int b), (3, .long n), (5, .long d)] := hl
  refine lv_aload_n hx hb d_M_between_0 rfl (lv_at hl 0 rfl) ?_
  refine lv_lload hx hb d_M_between_1 (lv_at hl 4 rfl) ?_
  refine lv_lconst (v := 0) hx hb d_M_between_3 (by decide) ?_
  refine W.lcmp hx hb d_M_between_4 ?_
  refine jn_i (J := 26) (rest := [.ref h0]) (fun v => v = if (0 < d.toInt ∧ 0 ≤ n.toInt ∧ n.toInt ≤ d.toInt) then 0 else 1) (fun v26 e26 => ?_) (fun K26 => ?_)
  · skip
    refine va_put (D := (dC, dI)) (ci := 1) (v := .int v26) (ty := .int) (C := R_M) (T := F_M) (N := 4) hx hb hts (fun w h => List.mem_cons_of_mem _ (i_M w h)) t_M t_M_ok n_M hown hK hP hD hS 0 rfl rfl 0 (by decide) (hts (.fieldLink R_M 7 R_M "thrown" "I") (List.mem_cons_of_mem _ (tm (by decide +kernel) rfl))) (fun _ h9 => h9) rfl (by decide +kernel) rfl rfl (Nat.le_of_ble_eq_true rfl) d_M_between_26 (fun H locs hP hD hS => ?_)
    have hP : va_P (dC, dI) classes [(h0, .inr (1, [.int v26, .long up, .long lo, .long le]))] H := hP
    have hD : va_D A [(h0, .inr (1, [.int v26, .long up, .long lo, .long le]))] := hD
    refine lv_aload_n hx hb d_M_between_29 rfl (lv_at hl 0 rfl) ?_
    refine va_get (D := (dC, dI)) (ci := 1) (v := .int v26) (C := R_M) (T := F_M) (N := 4) hx hb hts (fun w h => List.mem_cons_of_mem _ (i_M w h)) hown hK hP 0 rfl rfl 0 (by decide) (hts (.fieldLink R_M 7 R_M "thrown" "I") (List.mem_cons_of_mem _ (tm (by decide +kernel) rfl))) (fun _ h9 => h9) rfl d_M_between_30 ?_
    refine lv_if_le (tgt := 38) hx hb d_M_between_33 (by decide) (fun c33 => ?_) (fun c33 => ?_)
    · skip
      have hok := (mb_t e26).2.2.2 c33
      refine lv_iload_n hx hb d_M_between_38 rfl (lv_at hl 1 rfl) ?_
      refine lv_i2l hx hb d_M_between_39 rfl ?_
      refine lv_topl (fun v39 e39 => ?_)
      refine lv_aload_n hx hb d_M_between_40 rfl (lv_at hl 0 rfl) ?_
      refine lv_iload_n hx hb d_M_between_41 rfl (lv_at hl 2 rfl) ?_
      refine lv_i2l hx hb d_M_between_42 rfl ?_
      refine lv_topl (fun v42 e42 => ?_)
      refine lv_iload_n hx hb d_M_between_43 rfl (lv_at hl 1 rfl) ?_
      refine lv_i2l hx hb d_M_between_44 rfl ?_
      refine lv_topl (fun v44 e44 => ?_)
      refine lv_lsub hx hb d_M_between_45 ?_
      refine lv_topl (fun v45 e45 => ?_)
      have hspan := be_span a b v42 v44 v45 e42 e44 e45
      refine lv_lload_n hx hb d_M_between_46 rfl (lv_at hl 3 rfl) ?_
      refine lv_lload hx hb d_M_between_47 (lv_at hl 4 rfl) ?_
      have hPc := hP.sub (ws' := [(h0, .inr (1, [.int v26, .long up, .long lo, .long le]))]) [0] rfl
      have hDc := hD.sub (ws' := [(h0, .inr (1, [.int v26, .long up, .long lo, .long le]))]) [0] (by decide) rfl
      have hKc := hK.sub (tys' := []) [] rfl
      have hFc := va_free (wc := [(h0, .inr (1, [.int v26, .long up, .long lo, .long le]))]) hD hS hA [0] rfl
      refine va_calll (va_runV (As := [.long v45, .long n, .long d]) (rest := [.long v39]) ⟨hx, hb, hml, hown, hts⟩ (c_M_exact l dC dI h0 H.size v26 up lo le v45 n d (by omega)) (cwV 3 hts g_M_54 rfl rfl rfl (by decide +kernel) ⟨Nat.le_of_ble_eq_true rfl, Nat.le_of_ble_eq_true rfl⟩) ⟨fun a U g mk q => by obtain ⟨q0, q1, qP, qK, qD⟩ := q; exact ⟨q0, q1, qP, va_K.moved (u := U) (U := U.calling g mk a) (Vm.Alike.refl U.vm) qK, qD⟩, va_recv hKc hPc (ci := 1) (q0 := 0) rfl rfl, fun U hU hW => ⟨rfl, by rw [hU], by rw [hU]; exact hPc, va_K.moved hW.alike hKc, hDc.weaken (fun _ _ _ _ => trivial)⟩⟩ rfl rfl hl.1 rfl (lv_room (Nat.le_of_ble_eq_true rfl)) d_M_between_49 ⟨Nat.le_of_ble_eq_true rfl, Nat.le_of_ble_eq_true rfl⟩) hS (fun q _ h => hFc q h) hFc (fun v49 u t H1 locs ht hvm hw hB hz1 hk1 hS => ?_)
      obtain ⟨th49, up49, lo49, le49⟩ := u
      obtain ⟨hP1, hK1, hD1⟩ := hB
      rw [ht] at hP1
      have hK1 := va_K.moved hvm.symm hK1
      have e49 := hw
      dsimp only at e49
      obtain ⟨hP, hD⟩ := va_join (wr := []) (w1 := [(h0, .inr (1, [.int th49, .long up49, .long lo49, .long le49]))]) hP hD [0] [] rfl rfl (by decide) (by decide) hk1 hFc hP1 hD1
      have hK := (hK.sub (tys' := []) [] rfl).app hK1
      generalize H1 = H at hP hS ⊢
      have hP : va_P (dC, dI) classes [(h0, .inr (1, [.int th49, .long up49, .long lo49, .long le49]))] H := hP
      have hD : va_D A [(h0, .inr (1, [.int th49, .long up49, .long lo49, .long le49]))] := hD
      have hK : va_K (dC, dI) classes [] s := hK
      refine lv_ladd hx hb d_M_between_52 ?_
      refine lv_topl (fun v52 e52 => ?_)
      refine lv_l2i hx hb d_M_between_53 rfl ?_
      refine lv_topi (fun v53 e53 => ?_)
      refine W.iret (v := v53) hx hb hr (fun t ht hW => ⟨⟨_, (th49, up49, lo49, le49), rfl, ?_, by rw [ht]; exact hP, va_K.moved hW.alike hK, hD⟩, hS.F ht⟩) hS.2.2 d_M_between_54
      show (th49 = 0 ∧ (0 < d.toInt ∧ 0 ≤ n.toInt ∧ n.toInt ≤ d.toInt) ∧ v53.toInt = sp_betw a.toInt b.toInt n.toInt d.toInt) ∨ (th49 = 1 ∧ sp_bno n.toInt d.toInt)
      exact Or.inl ⟨e49.1.trans ((mb_t e26).2.2.1 c33), hok, mbw_fin a b n d v45 v49 v52 v53 hspan hok e49.2 (by rw [e52, e39]) e53⟩
    · skip
      refine lv_iconst (v := 0) hx hb d_M_between_36 (by decide) ?_
      refine W.iret (v := 0) hx hb hr (fun t ht hW => ⟨⟨_, (v26, up, lo, le), rfl, ?_, by rw [ht]; exact hP, va_K.moved hW.alike hK, hD⟩, hS.F ht⟩) hS.2.2 d_M_between_37
      show (v26 = 0 ∧ (0 < d.toInt ∧ 0 ≤ n.toInt ∧ n.toInt ≤ d.toInt) ∧ (0 : Int32).toInt = sp_betw a.toInt b.toInt n.toInt d.toInt) ∨ (v26 = 1 ∧ sp_bno n.toInt d.toInt)
      exact Or.inr ⟨(mb_t e26).1 c33, mbw_no ((mb_t e26).2.1 c33)⟩
  · skip
    refine lv_if_le (tgt := 21) hx hb d_M_between_5 (by decide) (fun c5 => ?_) (fun c5 => ?_)
    · skip
      have c5 := (lg_cmp_le _ _).mp c5
      refine lv_iconst (v := 1) hx hb d_M_between_21 (by decide) ?_
      refine lv_goto (tgt := 26) hx hb d_M_between_22 (by decide) ?_
      exact K26 _ (by first | exact mbw_1 (Or.inl c5) | exact mbw_1 (Or.inr (Or.inl c11)) | exact mbw_1 (Or.inr (Or.inr c18)) | exact mbw_0 c5 c11 c18)
    · skip
      have c5 := (not_congr (lg_cmp_le _ _)).mp c5
      refine lv_lload_n hx hb d_M_between_8 rfl (lv_at hl 3 rfl) ?_
      refine lv_lconst (v := 0) hx hb d_M_between_9 (by decide) ?_
      refine W.lcmp hx hb d_M_between_10 ?_
      refine lv_if_lt (tgt := 21) hx hb d_M_between_11 (by decide) (fun c11 => ?_) (fun c11 => ?_)
      · skip
        have c11 := (lg_cmp_lt _ _).mp c11
        refine lv_iconst (v := 1) hx hb d_M_between_21 (by decide) ?_
        refine lv_goto (tgt := 26) hx hb d_M_between_22 (by decide) ?_
        exact K26 _ (by first | exact mbw_1 (Or.inl c5) | exact mbw_1 (Or.inr (Or.inl c11)) | exact mbw_1 (Or.inr (Or.inr c18)) | exact mbw_0 c5 c11 c18)
      · skip
        have c11 := (not_congr (lg_cmp_lt _ _)).mp c11
        refine lv_lload_n hx hb d_M_between_14 rfl (lv_at hl 3 rfl) ?_
        refine lv_lload hx hb d_M_between_15 (lv_at hl 4 rfl) ?_
        refine W.lcmp hx hb d_M_between_17 ?_
        refine lv_if_le (tgt := 25) hx hb d_M_between_18 (by decide) (fun c18 => ?_) (fun c18 => ?_)
        · skip
          have c18 := (lg_cmp_le _ _).mp c18
          refine lv_iconst (v := 0) hx hb d_M_between_25 (by decide) ?_
          exact K26 _ (by first | exact mbw_1 (Or.inl c5) | exact mbw_1 (Or.inr (Or.inl c11)) | exact mbw_1 (Or.inr (Or.inr c18)) | exact mbw_0 c5 c11 c18)
        · skip
          have c18 := (not_congr (lg_cmp_le _ _)).mp c18
          refine lv_iconst (v := 1) hx hb d_M_between_21 (by decide) ?_
          refine lv_goto (tgt := 26) hx hb d_M_between_22 (by decide) ?_
          exact K26 _ (by first | exact mbw_1 (Or.inl c5) | exact mbw_1 (Or.inr (Or.inl c11)) | exact mbw_1 (Or.inr (Or.inr c18)) | exact mbw_0 c5 c11 c18)
end
section
/-! the reference's toHalf: the search among the halves -/
set_option maxRecDepth 100000 in
theorem tm_step {n : Nat} (h : n < 31744) : sp_sc (n + 1) = sp_sc n + 2 ^ (n / 1024 - 1) := by
  unfold sp_sc
  obtain ⟨e, f, hf, rfl⟩ : ∃ e f, f < 1024 ∧ n = e * 1024 + f := ⟨n / 1024, n % 1024, Nat.mod_lt _ (by decide), by omega⟩
  have he : e < 31 := by omega
  have d1 : (e * 1024 + f) / 1024 = e := by omega
  have d2 : (e * 1024 + f) % 1024 = f := by omega
  rw [d1, d2, Nat.mod_eq_of_lt (show e < 32 by omega)]
  rcases Nat.lt_or_ge f 1023 with hlt | hge
  · have d3 : (e * 1024 + f + 1) / 1024 = e := by omega
    have d4 : (e * 1024 + f + 1) % 1024 = f + 1 := by omega
    rw [d3, d4, Nat.mod_eq_of_lt (show e < 32 by omega)]
    by_cases z : e = 0
    · subst z
      rfl
    · rw [if_neg z, if_neg z, ← Nat.add_assoc, Nat.add_mul _ 1, Nat.one_mul]
  · have d3 : (e * 1024 + f + 1) / 1024 = e + 1 := by omega
    have d4 : (e * 1024 + f + 1) % 1024 = 0 := by omega
    have hf2 : f = 1023 := by omega
    subst hf2
    rw [d3, d4, Nat.mod_eq_of_lt (show e + 1 < 32 by omega), if_neg (by omega)]
    by_cases z : e = 0
    · subst z
      rfl
    · obtain ⟨j, rfl⟩ : ∃ j, e = j + 1 := ⟨e - 1, by omega⟩
      rw [if_neg z, Nat.add_sub_cancel, Nat.add_sub_cancel, Nat.pow_succ]
      generalize 2 ^ j = P
      omega
theorem tm_mono (m : Nat) : ∀ k, m + k ≤ 31744 → sp_sc m ≤ sp_sc (m + k)
  | 0, _ => Nat.le_refl _
  | k + 1, h => by
    have h1 := tm_mono m k (by omega)
    have h2 := tm_step (n := m + k) (by omega)
    rw [← Nat.add_assoc, h2]
    exact Nat.le_trans h1 (Nat.le_add_right _ _)
theorem tm_one {L n d : Nat} (hL : L < 31744) (hn : n < 31744) (a1 : sp_sc L ≤ d) (a2 : d < sp_sc (L + 1)) (b1 : sp_sc n ≤ d) (b2 : d < sp_sc (n + 1)) : L = n := by
  rcases Nat.lt_trichotomy L n with z | z | z
  · obtain ⟨k, rfl⟩ : ∃ k, n = L + 1 + k := ⟨n - (L + 1), by omega⟩
    have := tm_mono (L + 1) k (by omega)
    omega
  · exact z
  · obtain ⟨k, rfl⟩ : ∃ k, L = n + 1 + k := ⟨L - (n + 1), by omega⟩
    have := tm_mono (n + 1) k (by omega)
    omega
theorem tm_val {n t D : Nat} (ht : 2 ≤ t) (ht2 : t ≤ 31) (h1 : 1024 ≤ D) (h2 : D < 2048) (hn : n = (t - 1) * 1024 + (D - 1024)) : sp_sc n = D * 2 ^ (t - 2) ∧ sp_sc (n + 1) = D * 2 ^ (t - 2) + 2 ^ (t - 2) ∧ n < 31744 ∧ n % 2 = D % 2 := by
  have d1 : n / 1024 = t - 1 := by omega
  have d2 : n % 1024 = D - 1024 := by omega
  have v : sp_sc n = D * 2 ^ (t - 2) := by
    unfold sp_sc
    rw [d1, d2, Nat.mod_eq_of_lt (by omega), if_neg (by omega), show 1024 + (D - 1024) = D by omega, show t - 1 - 1 = t - 2 by omega]
  refine ⟨v, ?_, by omega, by omega⟩
  rw [tm_step (by omega), v, d1, show t - 1 - 1 = t - 2 by omega]
def tm_h (s : Nat) : Nat := if s < 4 then s * 256 else sp_hv s (Nat.log2 s)
theorem tm_pow {s : Nat} (h4 : 4 ≤ s) (hs : s ≤ 2147483648) : ∃ t, Nat.log2 s = t ∧ 2 ≤ t ∧ t ≤ 31 ∧ 2 ^ t ≤ s ∧ s < 2 ^ (t + 1) := by
  have p1 := Nat.log2_self_le (n := s) (by omega)
  have p2 := Nat.lt_log2_self (n := s)
  refine ⟨_, rfl, th_t2 h4 p2, ?_, p1, p2⟩
  rcases Nat.lt_or_ge 31 (Nat.log2 s) with z | z
  · have := Nat.pow_le_pow_right (n := 2) (by decide) (show 32 ≤ Nat.log2 s by omega)
    omega
  · exact z
theorem tm_pos {s : Nat} (h : 0 < s) (hs : s ≤ 2147483648) : 0 < tm_h s := by
  unfold tm_h
  by_cases z : s < 4
  · rw [if_pos z]
    omega
  · rw [if_neg z]
    obtain ⟨t, e, t2, t31, p1, p2⟩ := tm_pow (by omega) hs
    have hd := th_dig t2 t31 p1 p2
    rw [e]
    unfold sp_hv
    generalize (if t ≤ 10 then s * 2 ^ (10 - t) else sp_ne s (t - 10)) = D at hd ⊢
    omega
set_option maxRecDepth 100000 in
theorem tm_fin {s L : Nat} {P : Prop} [Decidable P] (hs : s ≤ 2147483648) (hL : L < 31744) (a1 : sp_sc L ≤ s * 256) (a2 : s * 256 < sp_sc (L + 1)) (hP : P ↔ (s * 256 - sp_sc L < sp_sc (L + 1) - s * 256 ∨ (s * 256 - sp_sc L = sp_sc (L + 1) - s * 256 ∧ L % 2 = 0))) : (if P then L else L + 1) = tm_h s := by
  unfold tm_h
  by_cases z : s < 4
  · rw [if_pos z]
    have v : sp_sc (s * 256) = s * 256 := by
      unfold sp_sc
      rw [show s * 256 / 1024 % 32 = 0 by omega, if_pos rfl, Nat.mod_eq_of_lt (by omega)]
    have v2 := tm_step (n := s * 256) (by omega)
    rw [show s * 256 / 1024 - 1 = 0 by omega, v] at v2
    have e := tm_one hL (by omega) a1 a2 (n := s * 256) (by omega) (by omega)
    rw [if_pos (hP.mpr (by rw [e, v, v2]; omega)), e]
  · rw [if_neg z]
    obtain ⟨t, e, t2, t31, p1, p2⟩ := tm_pow (by omega) hs
    rw [e]
    unfold sp_hv
    by_cases y : t ≤ 10
    · rw [if_pos y]
      have b1 := Nat.mul_le_mul_right (2 ^ (10 - t)) p1
      have b2 := Nat.mul_lt_mul_of_pos_right p2 (Nat.two_pow_pos (10 - t))
      rw [← Nat.pow_add, show t + (10 - t) = 10 by omega] at b1
      rw [← Nat.pow_add, show t + 1 + (10 - t) = 11 by omega] at b2
      obtain ⟨v1, v2, v3, v4⟩ := tm_val t2 t31 b1 b2 rfl
      have w : s * 2 ^ (10 - t) * 2 ^ (t - 2) = s * 256 := by
        rw [Nat.mul_assoc, ← Nat.pow_add, show 10 - t + (t - 2) = 8 by omega]
      rw [w] at v1 v2
      have pp := Nat.two_pow_pos (t - 2)
      have e9 := tm_one hL v3 a1 a2 (by omega) (by omega)
      rw [if_pos (hP.mpr (by rw [e9, v1, v2]; omega)), e9]
      omega
    · rw [if_neg y]
      obtain ⟨k, rfl⟩ : ∃ k, t = k + 10 := ⟨t - 10, by omega⟩
      rw [Nat.add_sub_cancel]
      have p := Nat.two_pow_pos k
      have c1 : 1024 ≤ s / 2 ^ k := (Nat.le_div_iff_mul_le p).mpr (by rw [show 1024 = 2 ^ 10 from rfl, ← Nat.pow_add, Nat.add_comm]; exact p1)
      have c2 : s / 2 ^ k < 2048 := (Nat.div_lt_iff_lt_mul p).mpr (by rw [show 2048 = 2 ^ 11 from rfl, ← Nat.pow_add, Nat.add_comm]; exact p2)
      obtain ⟨v1, v2, v3, v4⟩ := tm_val t2 t31 c1 c2 rfl
      have w : 2 ^ (k + 10 - 2) = 2 ^ k * 256 := by rw [show k + 10 - 2 = k + 8 by omega, Nat.pow_add]
      rw [w] at v1 v2
      have dm := Nat.div_add_mod s (2 ^ k)
      have ml := Nat.mod_lt s p
      have w2 : s / 2 ^ k * (2 ^ k * 256) = 2 ^ k * (s / 2 ^ k) * 256 := by rw [← Nat.mul_assoc, Nat.mul_comm (s / 2 ^ k)]
      rw [w2] at v1 v2
      unfold sp_ne
      generalize s / 2 ^ k = q at *
      generalize s % 2 ^ k = r at *
      generalize 2 ^ k * q = X at *
      generalize 2 ^ k = Y at *
      have e9 := tm_one hL v3 a1 a2 (by omega) (by omega)
      by_cases x : P
      · have hp := hP.mp x
        rw [e9, v1, v2] at hp
        rw [if_pos x, if_neg (by omega), e9]
        omega
      · have hp := mt hP.mpr x
        rw [e9, v1, v2] at hp
        rw [if_neg x, if_pos (by omega), e9]
        omega
def tm_I (d : Nat) (n : Nat) (z : Int32 × Int32) : Prop := ∃ L H, z.1 = nI L ∧ z.2 = nI H ∧ L < H ∧ H ≤ 31744 ∧ n = H - L ∧ sp_sc L ≤ d ∧ d < sp_sc H
set_option maxRecDepth 100000 in
theorem tm_0 {s : Nat} (hs : s ≤ 2147483648) : tm_I (s * 256) 31744 (0, 31744) := by
  refine ⟨0, 31744, rfl, rfl, by decide, by decide, rfl, ?_, ?_⟩
  · rw [show sp_sc 0 = 0 by decide]
    exact Nat.zero_le _
  · rw [show sp_sc 31744 = 1099511627776 by decide]
    omega
theorem tm_mid {L H : Nat} {low high v35 v37 : Int32} (e1 : low = nI L) (e2 : high = nI H) (hH : H ≤ 31744) (hL : L < H) (e35 : v35 = low + high) (e37 : v37 = v35 >>> ((1 : Int32) &&& 31)) : v37 = nI ((L + H) / 2) := by
  rw [e37, e35, e1, e2, nI_add]
  exact pk_shrN (by omega) _ 1 (by decide)
theorem tm_sc {v37 : Int32} {v42 : Int64} {M : Nat} (hM : M ≤ 31744) (e37 : v37 = nI M) (e42 : v42 = lN (sp_sc v37.toBitVec.toNat)) : v42 = lN (sp_sc M) := by
  rw [e42, e37, pk_tn (by omega)]
theorem tm_gap {L H : Nat} {low high v26 : Int32} (e1 : low = nI L) (e2 : high = nI H) (hH : H ≤ 31744) (hL : L < H) (e26 : v26 = high - low) : v26 ≤ 1 ↔ H = L + 1 := by
  rw [e26, e1, e2, pk_sub (by omega), show (1 : Int32) = nI 1 from rfl, nI_leI (by omega) (by decide)]
  omega
theorem tm_gt {v42 v12 : Int64} {M d : Nat} (e42 : v42 = lN (sp_sc M)) (e12 : v12 = lN d) (hd : d < 2 ^ 63) : v12 < v42 ↔ d < sp_sc M := by
  have := mh_scb M
  rw [e42, e12, pk_lLT hd (by omega)]
theorem tm_lsub {a b : Nat} (h : b ≤ a) (ha : a < 2 ^ 63) : lN a - lN b = lN (a - b) := by
  apply uN_inj
  have h1 : uN (lN a) = a := wb_tn (by omega)
  have h2 : uN (lN b) = b := wb_tn (by omega)
  have h3 : uN (lN (a - b)) = a - b := wb_tn (by omega)
  rw [fx_usub _ _ (by rw [h1, h2]; exact h), h1, h2, h3]
theorem tm_end {s L : Nat} {low v76 : Int32} {v12 v67 v70 v77 v81 : Int64} (hs : s ≤ 2147483648) (hL : L < 31744) (e1 : low = nI L) (e12 : v12 = lN (s * 256)) (a1 : sp_sc L ≤ s * 256) (a2 : s * 256 < sp_sc (L + 1)) (e67 : v67 = lN (sp_sc low.toBitVec.toNat)) (e70 : v70 = v12 - v67) (e76 : v76 = low + 1) (e77 : v77 = lN (sp_sc v76.toBitVec.toNat)) (e81 : v81 = v77 - v12) :
    (v70 < v81 ↔ s * 256 - sp_sc L < sp_sc (L + 1) - s * 256) ∧ (v70 = v81 ↔ s * 256 - sp_sc L = sp_sc (L + 1) - s * 256) ∧ v76 = nI (L + 1) := by
  have g76 : v76 = nI (L + 1) := by rw [e76, e1]; exact nI_add L 1
  have b1 := mh_scb (L + 1)
  have g67 := tm_sc (by omega) e1 e67
  have g77 := tm_sc (by omega) g76 e77
  have g70 : v70 = lN (s * 256 - sp_sc L) := by rw [e70, e12, g67, tm_lsub a1 (by omega)]
  have g81 : v81 = lN (sp_sc (L + 1) - s * 256) := by rw [e81, e12, g77, tm_lsub (by omega) (by omega)]
  refine ⟨?_, ?_, g76⟩
  · rw [g70, g81, pk_lLT (by omega) (by omega)]
  · rw [g70, g81, pk_lEQ (by omega) (by omega)]
theorem tm_par {L : Nat} {low v103 : Int32} (hL : L < 31744) (e1 : low = nI L) (e103 : v103 = low - low / 2 * 2) : v103 = 0 ↔ L % 2 = 0 := by
  have g : v103 = nI (L % 2) := by rw [e103, e1]; exact pk_rem (d := 2) (by omega) (by decide) (by decide)
  rw [g, show (0 : Int32) = nI 0 from rfl]
  rcases Nat.mod_two_eq_zero_or_one L with z | z <;> rw [z] <;> decide
theorem tm_lo {s L : Nat} {low : Int32} (hs : s ≤ 2147483648) (hL : L < 31744) (e1 : low = nI L) (a1 : sp_sc L ≤ s * 256) (a2 : s * 256 < sp_sc (L + 1)) (hP : s * 256 - sp_sc L < sp_sc (L + 1) - s * 256 ∨ (s * 256 - sp_sc L = sp_sc (L + 1) - s * 256 ∧ L % 2 = 0)) : low = nI (tm_h s) := by
  have := tm_fin hs hL a1 a2 (P := True) ⟨fun _ => hP, fun _ => trivial⟩
  rw [if_pos trivial] at this
  rw [e1, this]
theorem tm_hi {s L : Nat} {v : Int32} (hs : s ≤ 2147483648) (hL : L < 31744) (e1 : v = nI (L + 1)) (a1 : sp_sc L ≤ s * 256) (a2 : s * 256 < sp_sc (L + 1)) (hP : ¬ (s * 256 - sp_sc L < sp_sc (L + 1) - s * 256 ∨ (s * 256 - sp_sc L = sp_sc (L + 1) - s * 256 ∧ L % 2 = 0))) : v = nI (tm_h s) := by
  have := tm_fin hs hL a1 a2 (P := False) ⟨fun z => z.elim, fun z => hP z⟩
  rw [if_neg (fun z => z)] at this
  rw [e1, this]
theorem tm_bd {s : Nat} (hs : s ≤ 2147483648) : tm_h s < 32768 := by
  unfold tm_h
  by_cases z : s < 4
  · rw [if_pos z]
    omega
  · rw [if_neg z]
    obtain ⟨t, e, t2, t31, p1, p2⟩ := tm_pow (by omega) hs
    have hd := th_dig t2 t31 p1 p2
    rw [e]
    unfold sp_hv
    generalize (if t ≤ 10 then s * 2 ^ (10 - t) else sp_ne s (t - 10)) = D at hd ⊢
    omega
theorem tm_sp (a : Int) : sp_th a = (if a < 0 then 32768 else 0) + tm_h a.natAbs := rfl
theorem tm_r0 {a : Int32} {v : Int32} (e : v = nI (tm_h a.toInt.natAbs)) (c : 0 ≤ a) : v = nI (sp_th a.toInt) := by
  have := fx_ge a c
  rw [e, tm_sp, if_neg (by omega), Nat.zero_add]
theorem tm_r1 {a : Int32} {v : Int32} (e : v = nI (tm_h a.toInt.natAbs)) (c : ¬ 0 ≤ a) (c2 : v ≤ 0) : v = nI (sp_th a.toInt) := by
  have ha := fx_i32 a
  have z : (0 : Int32).toInt = 0 := by decide
  rw [Int32.le_iff_toInt_le, z] at c
  have b := tm_bd (s := a.toInt.natAbs) (by omega)
  have p := tm_pos (s := a.toInt.natAbs) (by omega) (by omega)
  rw [e, show (0 : Int32) = nI 0 from rfl, nI_leI (by omega) (by decide)] at c2
  omega
theorem tm_r2 {a : Int32} {v r : Int32} (e : v = nI (tm_h a.toInt.natAbs)) (c : ¬ 0 ≤ a) (er : r = v ||| 32768) : r = nI (sp_th a.toInt) := by
  have ha := fx_i32 a
  rw [tm_sp]
  exact fx_ior (fx_sg1 a c) e (tm_bd (by omega)) (by rw [er, Int32.or_comm])
theorem nI_up {low v : Int32} {L : Nat} (e1 : low = nI L) (e : v = low + 1) : v = nI (L + 1) := by rw [e, e1]; exact nI_add L 1
end
section
set_option maxHeartbeats 4000000 in
set_option maxRecDepth 100000 in
theorem c_M_toHalf (l : Launch) (dC : Nat → ClassId) (dI : Nat → Nat → Nat) (h0 sz : Nat) (th : Int32) (up lo le : Int64) (a : Int32)  : Met l y_M_toHalf w_M_toHalf ({ frames := 1, cells := 0, slots := 0, locals := 30 }) (va_Pc [.ref h0, .int a] (fun U => U.heap.size = sz ∧ va_P (dC, dI) classes [(h0, .inr (1, [.int th, .long up, .long lo, .long le]))] U.heap ∧ va_K (dC, dI) classes [] U ∧ va_D (fun _ => True) [(h0, .inr (1, [.int th, .long up, .long lo, .long le]))])) (va_Qi (fun (r : Int32) (u : MS) => r = nI (sp_th a.toInt)) (at_M dC dI (va_A [(h0, .inr (1, [.int th, .long up, .long lo, .long le]))] sz) h0) (va_A [(h0, .inr (1, [.int th, .long up, .long lo, .long le]))] sz)) 0 0 (va_A [(h0, .inr (1, [.int th, .long up, .long lo, .long le]))] sz) := by
  refine Met.ofW (cc := b_M_toHalf) (maxL := 11) (ret := some .int) (by decide) rfl ?_
  intro p e s m args below meth c s₁ B hml hv
  obtain ⟨rfl, hsz, hP, hK, hD0⟩ := hv
  have hx := B.exec
  have hb := B.bytes
  have hr := B.returns
  have hts := atoms_spec (ws := w_M_toHalf) B.pre
  have hown : s.vm.findClass R_M = some m.cls := findClass_of_methodNamed B.named
  have hlocks := B.notSynchronized
  subst hsz
  have hD := hD0.self (sz := s.heap.size)
  generalize hAe : va_A [(h0, .inr (1, [.int th, .long up, .long lo, .long le]))] s.heap.size = A at hD ⊢
  have hA : ∀ q : Nat, s.heap.size ≤ q → A q := fun q h => by rw [← hAe]; exact Or.inr h
  have hS : va_S A s.heap s.heap [] := va_S.rf
  have hP : va_P (dC, dI) classes [(h0, .inr (1, [.int th, .long up, .long lo, .long le]))] s.heap := hP
  have hl := lv_entry ([.ref h0, .int a]) (n := 11) (Nat.le_of_ble_eq_true rfl)
  rw [lg_entry_eq]
  generalize (lg_sl ([.ref h0, .int a]) ++ List.replicate (11 - (lg_sl ([.ref h0, .int a])).length) Slot.unset).toArray = ls at hl ⊢
  have hl : lv_has ls 11 [(0, .ref h0), (1, .int a)] := hl
  refine lv_aload_n hx hb d_M_toHalf_0 rfl (lv_at hl 0 rfl) ?_
  refine lv_iconst (v := 0) hx hb d_M_toHalf_1 (by decide) ?_
  refine va_put (D := (dC, dI)) (ci := 1) (v := .int 0) (ty := .int) (C := R_M) (T := F_M) (N := 4) hx hb hts (fun w h => List.mem_cons_of_mem _ (i_M w h)) t_M t_M_ok n_M hown hK hP hD hS 0 rfl rfl 0 (by decide) (hts (.fieldLink R_M 7 R_M "thrown" "I") (List.mem_cons_of_mem _ (tm (by decide +kernel) rfl))) (fun _ h9 => h9) rfl (by decide +kernel) rfl rfl (Nat.le_of_ble_eq_true rfl) d_M_toHalf_2 (fun H locs hP hD hS => ?_)
  have hP : va_P (dC, dI) classes [(h0, .inr (1, [.int 0, .long up, .long lo, .long le]))] H := hP
  have hD : va_D A [(h0, .inr (1, [.int 0, .long up, .long lo, .long le]))] := hD
  refine lv_iload_n hx hb d_M_toHalf_5 rfl (lv_at hl 1 rfl) ?_
  refine lv_i2l hx hb d_M_toHalf_6 rfl ?_
  refine lv_topl (fun v6 e6 => ?_)
  refine vp_callSl (W.runS (As := [.long v6]) (rest := []) ⟨hx, hb, hml, hown, hts⟩ (c_M_size l v6 ) (cwS 1 hts g_M_30 rfl rfl rfl (by decide +kernel) ⟨Nat.le_of_ble_eq_true rfl, Nat.le_of_ble_eq_true rfl⟩) preEq rfl rfl hl.1 rfl (lv_room (Nat.le_of_ble_eq_true rfl)) d_M_toHalf_7 ⟨Nat.zero_le _, Nat.zero_le _⟩) (fun v7 e7 => ?_)
  try dsimp only at e7
  refine lv_bipush (v := 8) hx hb d_M_toHalf_10 (by decide) ?_
  refine lv_lshl hx hb d_M_toHalf_12 rfl ?_
  refine lv_topl (fun v12 e12 => ?_)
  refine lv_lstore_n (lv' := [(2, .long v12), (0, .ref h0), (1, .int a)]) hx hb d_M_toHalf_13 rfl hl (by decide) rfl (fun ls hl => ?_)
  refine lv_iconst (v := 0) hx hb d_M_toHalf_14 (by decide) ?_
  refine lv_istore (lv' := [(4, .int 0), (2, .long v12), (0, .ref h0), (1, .int a)]) hx hb d_M_toHalf_15 hl (by decide) rfl (fun ls hl => ?_)
  refine lv_sipush (v := 31744) hx hb d_M_toHalf_17 (by decide) ?_
  refine lv_istore (lv' := [(5, .int 31744), (4, .int 0), (2, .long v12), (0, .ref h0), (1, .int a)]) hx hb d_M_toHalf_20 hl (by decide) rfl (fun ls hl => ?_)
  obtain ⟨f7, -, hsb⟩ := th_s a v6 v7 e6 e7
  obtain ⟨S, hS9⟩ : ∃ n, n = a.toInt.natAbs := ⟨_, rfl⟩
  rw [← hS9] at f7 hsb
  have f12 : v12 = lN (S * 256) := by rw [e12, f7]; exact wb_shl S (k := 8) (by decide)
  refine lp_W (nL := 11) (J := 22) (fun z : Int32 × Int32 => [(5, .int z.2), (4, .int z.1), (2, .long v12), (0, .ref h0), (1, .int a)]) (tm_I (S * 256)) (fun n z hI ih ls hl => ?_) 31744 (0, 31744) (tm_0 hsb) (lv_sub hl [0, 1, 2, 3, 4] rfl)
  obtain ⟨low, high⟩ := z
  obtain ⟨L, Hh, f1, f2, hLH, hHb, hn, a1, a2⟩ := hI
  dsimp only at f1 f2
  have hl : lv_has ls 11 [(5, .int high), (4, .int low), (2, .long v12), (0, .ref h0), (1, .int a)] := hl
  refine lv_iload hx hb d_M_toHalf_22 (lv_at hl 0 rfl) ?_
  refine lv_iload hx hb d_M_toHalf_24 (lv_at hl 1 rfl) ?_
  refine lv_isub hx hb d_M_toHalf_26 ?_
  refine lv_topi (fun v26 e26 => ?_)
  refine lv_iconst (v := 1) hx hb d_M_toHalf_27 (by decide) ?_
  refine lv_icmp_le (tgt := 64) hx hb d_M_toHalf_28 (by decide) (fun c28 => ?_) (fun c28 => ?_)
  · skip
    have hg := (tm_gap f1 f2 hHb hLH e26).mp c28
    subst hg
    have hL3 : L < 31744 := by omega
    refine lv_lload_n hx hb d_M_toHalf_64 rfl (lv_at hl 2 rfl) ?_
    refine lv_iload hx hb d_M_toHalf_65 (lv_at hl 1 rfl) ?_
    refine vp_callSl (W.runS (As := [.int low]) (rest := [.long v12]) ⟨hx, hb, hml, hown, hts⟩ (c_M_scaled l low ) (cwS 1 hts g_M_65 rfl rfl rfl (by decide +kernel) ⟨Nat.le_of_ble_eq_true rfl, Nat.le_of_ble_eq_true rfl⟩) preEq rfl rfl hl.1 rfl (lv_room (Nat.le_of_ble_eq_true rfl)) d_M_toHalf_67 ⟨Nat.zero_le _, Nat.zero_le _⟩) (fun v67 e67 => ?_)
    try dsimp only at e67
    refine lv_lsub hx hb d_M_toHalf_70 ?_
    refine lv_topl (fun v70 e70 => ?_)
    refine lv_lstore (lv' := [(6, .long v70), (5, .int high), (4, .int low), (2, .long v12), (0, .ref h0), (1, .int a)]) hx hb d_M_toHalf_71 hl (by decide) rfl (fun ls hl => ?_)
    refine lv_iload hx hb d_M_toHalf_73 (lv_at hl 2 rfl) ?_
    refine lv_iconst (v := 1) hx hb d_M_toHalf_75 (by decide) ?_
    refine lv_iadd hx hb d_M_toHalf_76 ?_
    refine lv_topi (fun v76 e76 => ?_)
    refine vp_callSl (W.runS (As := [.int v76]) (rest := []) ⟨hx, hb, hml, hown, hts⟩ (c_M_scaled l v76 ) (cwS 1 hts g_M_65 rfl rfl rfl (by decide +kernel) ⟨Nat.le_of_ble_eq_true rfl, Nat.le_of_ble_eq_true rfl⟩) preEq rfl rfl hl.1 rfl (lv_room (Nat.le_of_ble_eq_true rfl)) d_M_toHalf_77 ⟨Nat.zero_le _, Nat.zero_le _⟩) (fun v77 e77 => ?_)
    try dsimp only at e77
    refine lv_lload_n hx hb d_M_toHalf_80 rfl (lv_at hl 3 rfl) ?_
    refine lv_lsub hx hb d_M_toHalf_81 ?_
    refine lv_topl (fun v81 e81 => ?_)
    refine lv_lstore (lv' := [(8, .long v81), (6, .long v70), (5, .int high), (4, .int low), (2, .long v12), (0, .ref h0), (1, .int a)]) hx hb d_M_toHalf_82 hl (by decide) rfl (fun ls hl => ?_)
    obtain ⟨q1, q2, -⟩ := tm_end hsb hL3 f1 f12 a1 a2 e67 e70 e76 e77 e81
    refine lv_lload hx hb d_M_toHalf_84 (lv_at hl 1 rfl) ?_
    refine lv_lload hx hb d_M_toHalf_86 (lv_at hl 0 rfl) ?_
    refine W.lcmp hx hb d_M_toHalf_88 ?_
    refine jn_i (J := 116) (rest := []) (fun v => v = nI (tm_h S)) (fun v116 e116 => ?_) (fun K116 => ?_)
    · skip
      refine lv_istore (lv' := [(10, .int v116), (8, .long v81), (6, .long v70), (5, .int high), (4, .int low), (2, .long v12), (0, .ref h0), (1, .int a)]) hx hb d_M_toHalf_116 hl (by decide) rfl (fun ls hl => ?_)
      have f116 : v116 = nI (tm_h a.toInt.natAbs) := by rw [← hS9]; exact e116
      refine lv_iload_n hx hb d_M_toHalf_118 rfl (lv_at hl 7 rfl) ?_
      refine lv_if_ge (tgt := 135) hx hb d_M_toHalf_119 (by decide) (fun c119 => ?_) (fun c119 => ?_)
      · skip
        refine lv_iload hx hb d_M_toHalf_135 (lv_at hl 0 rfl) ?_
        refine W.iret (v := v116) hx hb hr (fun t ht hW => ⟨⟨_, (0, up, lo, le), rfl, ?_, by rw [ht]; exact hP, va_K.moved hW.alike hK, hD⟩, hS.F ht⟩) hS.2.2 d_M_toHalf_137
        show v116 = nI (sp_th a.toInt)
        exact by first | exact tm_r0 f116 c119 | exact tm_r1 f116 c119 c124 | exact tm_r2 f116 c119 e131
      · skip
        refine lv_iload hx hb d_M_toHalf_122 (lv_at hl 0 rfl) ?_
        refine lv_if_le (tgt := 135) hx hb d_M_toHalf_124 (by decide) (fun c124 => ?_) (fun c124 => ?_)
        · skip
          refine lv_iload hx hb d_M_toHalf_135 (lv_at hl 0 rfl) ?_
          refine W.iret (v := v116) hx hb hr (fun t ht hW => ⟨⟨_, (0, up, lo, le), rfl, ?_, by rw [ht]; exact hP, va_K.moved hW.alike hK, hD⟩, hS.F ht⟩) hS.2.2 d_M_toHalf_137
          show v116 = nI (sp_th a.toInt)
          exact by first | exact tm_r0 f116 c119 | exact tm_r1 f116 c119 c124 | exact tm_r2 f116 c119 e131
        · skip
          refine lv_iload hx hb d_M_toHalf_127 (lv_at hl 0 rfl) ?_
          refine lv_ldc (v := 32768) hx hb hown (hts (.constant R_M 69 32768) (List.mem_cons_of_mem _ (tm (by decide +kernel) rfl))) d_M_toHalf_129 ?_
          refine lv_ior hx hb d_M_toHalf_131 ?_
          refine lv_topi (fun v131 e131 => ?_)
          refine lv_goto (tgt := 137) hx hb d_M_toHalf_132 (by decide) ?_
          refine W.iret (v := v131) hx hb hr (fun t ht hW => ⟨⟨_, (0, up, lo, le), rfl, ?_, by rw [ht]; exact hP, va_K.moved hW.alike hK, hD⟩, hS.F ht⟩) hS.2.2 d_M_toHalf_137
          show v131 = nI (sp_th a.toInt)
          exact by first | exact tm_r0 f116 c119 | exact tm_r1 f116 c119 c124 | exact tm_r2 f116 c119 e131
    · skip
      refine lv_if_lt (tgt := 107) hx hb d_M_toHalf_89 (by decide) (fun c89 => ?_) (fun c89 => ?_)
      · skip
        have c89 := (lg_cmp_lt _ _).mp c89
        refine lv_iload hx hb d_M_toHalf_107 (lv_at hl 3 rfl) ?_
        refine lv_goto (tgt := 116) hx hb d_M_toHalf_109 (by decide) ?_
        exact K116 _ (by first | exact tm_lo hsb hL3 f1 a1 a2 (Or.inl (q1.mp c89)) | exact tm_hi hsb hL3 (nI_up f1 e115) a1 a2 (fun z => z.elim (fun z => c89 (q1.mpr z)) (fun z => c97 (q2.mpr z.1))) | exact tm_hi hsb hL3 (nI_up f1 e115) a1 a2 (fun z => z.elim (fun z => c89 (q1.mpr z)) (fun z => c104 ((tm_par hL3 f1 e103).mpr z.2))) | exact tm_lo hsb hL3 f1 a1 a2 (Or.inr ⟨q2.mp c97, (tm_par hL3 f1 e103).mp c104⟩))
      · skip
        have c89 := (not_congr (lg_cmp_lt _ _)).mp c89
        refine lv_lload hx hb d_M_toHalf_92 (lv_at hl 1 rfl) ?_
        refine lv_lload hx hb d_M_toHalf_94 (lv_at hl 0 rfl) ?_
        refine W.lcmp hx hb d_M_toHalf_96 ?_
        refine lv_if_ne (tgt := 112) hx hb d_M_toHalf_97 (by decide) (fun c97 => ?_) (fun c97 => ?_)
        · skip
          have c97 := (not_congr (lg_cmp_eq _ _)).mp c97
          refine lv_iload hx hb d_M_toHalf_112 (lv_at hl 3 rfl) ?_
          refine lv_iconst (v := 1) hx hb d_M_toHalf_114 (by decide) ?_
          refine lv_iadd hx hb d_M_toHalf_115 ?_
          refine lv_topi (fun v115 e115 => ?_)
          exact K116 _ (by first | exact tm_lo hsb hL3 f1 a1 a2 (Or.inl (q1.mp c89)) | exact tm_hi hsb hL3 (nI_up f1 e115) a1 a2 (fun z => z.elim (fun z => c89 (q1.mpr z)) (fun z => c97 (q2.mpr z.1))) | exact tm_hi hsb hL3 (nI_up f1 e115) a1 a2 (fun z => z.elim (fun z => c89 (q1.mpr z)) (fun z => c104 ((tm_par hL3 f1 e103).mpr z.2))) | exact tm_lo hsb hL3 f1 a1 a2 (Or.inr ⟨q2.mp c97, (tm_par hL3 f1 e103).mp c104⟩))
        · skip
          have c97 := (lg_cmp_eq _ _).mp c97
          refine lv_iload hx hb d_M_toHalf_100 (lv_at hl 3 rfl) ?_
          refine lv_iconst (v := 2) hx hb d_M_toHalf_102 (by decide) ?_
          refine lv_irem hx hb d_M_toHalf_103 (by decide) ?_
          refine lv_topi (fun v103 e103 => ?_)
          refine lv_if_ne (tgt := 112) hx hb d_M_toHalf_104 (by decide) (fun c104 => ?_) (fun c104 => ?_)
          · skip
            refine lv_iload hx hb d_M_toHalf_112 (lv_at hl 3 rfl) ?_
            refine lv_iconst (v := 1) hx hb d_M_toHalf_114 (by decide) ?_
            refine lv_iadd hx hb d_M_toHalf_115 ?_
            refine lv_topi (fun v115 e115 => ?_)
            exact K116 _ (by first | exact tm_lo hsb hL3 f1 a1 a2 (Or.inl (q1.mp c89)) | exact tm_hi hsb hL3 (nI_up f1 e115) a1 a2 (fun z => z.elim (fun z => c89 (q1.mpr z)) (fun z => c97 (q2.mpr z.1))) | exact tm_hi hsb hL3 (nI_up f1 e115) a1 a2 (fun z => z.elim (fun z => c89 (q1.mpr z)) (fun z => c104 ((tm_par hL3 f1 e103).mpr z.2))) | exact tm_lo hsb hL3 f1 a1 a2 (Or.inr ⟨q2.mp c97, (tm_par hL3 f1 e103).mp c104⟩))
          · skip
            refine lv_iload hx hb d_M_toHalf_107 (lv_at hl 3 rfl) ?_
            refine lv_goto (tgt := 116) hx hb d_M_toHalf_109 (by decide) ?_
            exact K116 _ (by first | exact tm_lo hsb hL3 f1 a1 a2 (Or.inl (q1.mp c89)) | exact tm_hi hsb hL3 (nI_up f1 e115) a1 a2 (fun z => z.elim (fun z => c89 (q1.mpr z)) (fun z => c97 (q2.mpr z.1))) | exact tm_hi hsb hL3 (nI_up f1 e115) a1 a2 (fun z => z.elim (fun z => c89 (q1.mpr z)) (fun z => c104 ((tm_par hL3 f1 e103).mpr z.2))) | exact tm_lo hsb hL3 f1 a1 a2 (Or.inr ⟨q2.mp c97, (tm_par hL3 f1 e103).mp c104⟩))
  · skip
    have hgap : ¬ Hh = L + 1 := fun q => c28 ((tm_gap f1 f2 hHb hLH e26).mpr q)
    refine lv_iload hx hb d_M_toHalf_31 (lv_at hl 1 rfl) ?_
    refine lv_iload hx hb d_M_toHalf_33 (lv_at hl 0 rfl) ?_
    refine lv_iadd hx hb d_M_toHalf_35 ?_
    refine lv_topi (fun v35 e35 => ?_)
    refine lv_iconst (v := 1) hx hb d_M_toHalf_36 (by decide) ?_
    refine lv_ishr hx hb d_M_toHalf_37 ?_
    refine lv_topi (fun v37 e37 => ?_)
    refine lv_istore (lv' := [(6, .int v37), (5, .int high), (4, .int low), (2, .long v12), (0, .ref h0), (1, .int a)]) hx hb d_M_toHalf_38 hl (by decide) rfl (fun ls hl => ?_)
    have f37 := tm_mid f1 f2 hHb hLH e35 e37
    refine lv_iload hx hb d_M_toHalf_40 (lv_at hl 0 rfl) ?_
    refine vp_callSl (W.runS (As := [.int v37]) (rest := []) ⟨hx, hb, hml, hown, hts⟩ (c_M_scaled l v37 ) (cwS 1 hts g_M_65 rfl rfl rfl (by decide +kernel) ⟨Nat.le_of_ble_eq_true rfl, Nat.le_of_ble_eq_true rfl⟩) preEq rfl rfl hl.1 rfl (lv_room (Nat.le_of_ble_eq_true rfl)) d_M_toHalf_42 ⟨Nat.zero_le _, Nat.zero_le _⟩) (fun v42 e42 => ?_)
    try dsimp only at e42
    have cx := tm_gt (d := S * 256) (tm_sc (by omega) f37 e42) f12 (by omega)
    refine lv_lload_n hx hb d_M_toHalf_45 rfl (lv_at hl 3 rfl) ?_
    refine W.lcmp hx hb d_M_toHalf_46 ?_
    refine lv_if_gt (tgt := 57) hx hb d_M_toHalf_47 (by decide) (fun c47 => ?_) (fun c47 => ?_)
    · skip
      have c47 := (lg_cmp_gt _ _).mp c47
      refine lv_iload hx hb d_M_toHalf_57 (lv_at hl 0 rfl) ?_
      refine lv_istore (lv' := [(5, .int v37), (6, .int v37), (4, .int low), (2, .long v12), (0, .ref h0), (1, .int a)]) hx hb d_M_toHalf_59 hl (by decide) rfl (fun ls hl => ?_)
      refine lv_goto (tgt := 22) hx hb d_M_toHalf_61 (by decide) ?_
      exact ih ((L + Hh) / 2 - L) (low, v37) (by omega) (⟨L, (L + Hh) / 2, f1, f37, by omega, by omega, rfl, a1, cx.mp c47⟩) _ (lv_sub hl [0, 2, 3, 4, 5] rfl)
    · skip
      have c47 := (not_congr (lg_cmp_gt _ _)).mp c47
      refine lv_iload hx hb d_M_toHalf_50 (lv_at hl 0 rfl) ?_
      refine lv_istore (lv' := [(4, .int v37), (6, .int v37), (5, .int high), (2, .long v12), (0, .ref h0), (1, .int a)]) hx hb d_M_toHalf_52 hl (by decide) rfl (fun ls hl => ?_)
      refine lv_goto (tgt := 61) hx hb d_M_toHalf_54 (by decide) ?_
      refine lv_goto (tgt := 22) hx hb d_M_toHalf_61 (by decide) ?_
      exact ih (Hh - (L + Hh) / 2) (v37, high) (by omega) (⟨(L + Hh) / 2, Hh, f37, f2, by omega, hHb, rfl, Nat.not_lt.mp (fun q => c47 (cx.mpr q)), a2⟩) _ (lv_sub hl [2, 0, 3, 4, 5] rfl)
end
section
theorem d_L_ratio_0 : decode b_L_ratio 0 = .ok (.aload 7, 2) := by decide +kernel
theorem d_L_ratio_2 : decode b_L_ratio 2 = .ok (.iconst 0, 1) := by decide +kernel
theorem d_L_ratio_3 : decode b_L_ratio 3 = .ok (.aload_n 0, 1) := by decide +kernel
theorem d_L_ratio_4 : decode b_L_ratio 4 = .ok (.lload_n 1, 1) := by decide +kernel
theorem d_L_ratio_5 : decode b_L_ratio 5 = .ok (.lload_n 3, 1) := by decide +kernel
theorem d_L_ratio_6 : decode b_L_ratio 6 = .ok (.lload 5, 2) := by decide +kernel
theorem d_L_ratio_8 : decode b_L_ratio 8 = .ok (.invokevirtual 7, 3) := by decide +kernel
theorem d_L_ratio_11 : decode b_L_ratio 11 = .ok (.lastore, 1) := by decide +kernel
theorem d_L_ratio_12 : decode b_L_ratio 12 = .ok (.goto 7, 3) := by decide +kernel
theorem d_L_ratio_15 : decode b_L_ratio 15 = .ok (.astore 8, 2) := by decide +kernel
theorem d_L_ratio_17 : decode b_L_ratio 17 = .ok (.iconst 1, 1) := by decide +kernel
theorem d_L_ratio_18 : decode b_L_ratio 18 = .ok (.ireturn, 1) := by decide +kernel
theorem d_L_ratio_19 : decode b_L_ratio 19 = .ok (.iconst 0, 1) := by decide +kernel
theorem d_L_ratio_20 : decode b_L_ratio 20 = .ok (.ireturn, 1) := by decide +kernel
theorem d_L_between_0 : decode b_L_between 0 = .ok (.aload 7, 2) := by decide +kernel
theorem d_L_between_2 : decode b_L_between 2 = .ok (.iconst 0, 1) := by decide +kernel
theorem d_L_between_3 : decode b_L_between 3 = .ok (.aload_n 0, 1) := by decide +kernel
theorem d_L_between_4 : decode b_L_between 4 = .ok (.iload_n 1, 1) := by decide +kernel
theorem d_L_between_5 : decode b_L_between 5 = .ok (.iload_n 2, 1) := by decide +kernel
theorem d_L_between_6 : decode b_L_between 6 = .ok (.lload_n 3, 1) := by decide +kernel
theorem d_L_between_7 : decode b_L_between 7 = .ok (.lload 5, 2) := by decide +kernel
theorem d_L_between_9 : decode b_L_between 9 = .ok (.invokevirtual 15, 3) := by decide +kernel
theorem d_L_between_12 : decode b_L_between 12 = .ok (.i2l, 1) := by decide +kernel
theorem d_L_between_13 : decode b_L_between 13 = .ok (.lastore, 1) := by decide +kernel
theorem d_L_between_14 : decode b_L_between 14 = .ok (.goto 7, 3) := by decide +kernel
theorem d_L_between_17 : decode b_L_between 17 = .ok (.astore 8, 2) := by decide +kernel
theorem d_L_between_19 : decode b_L_between 19 = .ok (.iconst 1, 1) := by decide +kernel
theorem d_L_between_20 : decode b_L_between 20 = .ok (.ireturn, 1) := by decide +kernel
theorem d_L_between_21 : decode b_L_between 21 = .ok (.iconst 0, 1) := by decide +kernel
theorem d_L_between_22 : decode b_L_between 22 = .ok (.ireturn, 1) := by decide +kernel
theorem d_L_fixed_0 : decode b_L_fixed 0 = .ok (.aload_n 2, 1) := by decide +kernel
theorem d_L_fixed_1 : decode b_L_fixed 1 = .ok (.iconst 0, 1) := by decide +kernel
theorem d_L_fixed_2 : decode b_L_fixed 2 = .ok (.aload_n 0, 1) := by decide +kernel
theorem d_L_fixed_3 : decode b_L_fixed 3 = .ok (.iload_n 1, 1) := by decide +kernel
theorem d_L_fixed_4 : decode b_L_fixed 4 = .ok (.invokevirtual 21, 3) := by decide +kernel
theorem d_L_fixed_7 : decode b_L_fixed 7 = .ok (.i2l, 1) := by decide +kernel
theorem d_L_fixed_8 : decode b_L_fixed 8 = .ok (.lastore, 1) := by decide +kernel
theorem d_L_fixed_9 : decode b_L_fixed 9 = .ok (.goto 6, 3) := by decide +kernel
theorem d_L_fixed_12 : decode b_L_fixed 12 = .ok (.astore_n 3, 1) := by decide +kernel
theorem d_L_fixed_13 : decode b_L_fixed 13 = .ok (.iconst 1, 1) := by decide +kernel
theorem d_L_fixed_14 : decode b_L_fixed 14 = .ok (.ireturn, 1) := by decide +kernel
theorem d_L_fixed_15 : decode b_L_fixed 15 = .ok (.iconst 0, 1) := by decide +kernel
theorem d_L_fixed_16 : decode b_L_fixed 16 = .ok (.ireturn, 1) := by decide +kernel
theorem d_L_shade_0 : decode b_L_shade 0 = .ok (.aload_n 3, 1) := by decide +kernel
theorem d_L_shade_1 : decode b_L_shade 1 = .ok (.iconst 0, 1) := by decide +kernel
theorem d_L_shade_2 : decode b_L_shade 2 = .ok (.aload_n 0, 1) := by decide +kernel
theorem d_L_shade_3 : decode b_L_shade 3 = .ok (.iload_n 1, 1) := by decide +kernel
theorem d_L_shade_4 : decode b_L_shade 4 = .ok (.iload_n 2, 1) := by decide +kernel
theorem d_L_shade_5 : decode b_L_shade 5 = .ok (.invokevirtual 25, 3) := by decide +kernel
theorem d_L_shade_8 : decode b_L_shade 8 = .ok (.i2l, 1) := by decide +kernel
theorem d_L_shade_9 : decode b_L_shade 9 = .ok (.lastore, 1) := by decide +kernel
theorem d_L_shade_10 : decode b_L_shade 10 = .ok (.goto 7, 3) := by decide +kernel
theorem d_L_shade_13 : decode b_L_shade 13 = .ok (.astore 4, 2) := by decide +kernel
theorem d_L_shade_15 : decode b_L_shade 15 = .ok (.iconst 1, 1) := by decide +kernel
theorem d_L_shade_16 : decode b_L_shade 16 = .ok (.ireturn, 1) := by decide +kernel
theorem d_L_shade_17 : decode b_L_shade 17 = .ok (.iconst 0, 1) := by decide +kernel
theorem d_L_shade_18 : decode b_L_shade 18 = .ok (.ireturn, 1) := by decide +kernel
set_option maxRecDepth 20000 in
theorem g_L_7 {w0 : Cond} : GoodIn (w0 :: WS) (wsV R_L 7 R_F y_F_ratio w_F_ratio) := ws_good (by decide +kernel) ic_F_ratio rfl
set_option maxRecDepth 20000 in
theorem g_L_15 {w0 : Cond} : GoodIn (w0 :: WS) (wsV R_L 15 R_F y_F_between w_F_between) := ws_good (by decide +kernel) ic_F_between rfl
set_option maxRecDepth 20000 in
theorem g_L_21 {w0 : Cond} : GoodIn (w0 :: WS) (wsV R_L 21 R_F y_F_fixed w_F_fixed) := ws_good (by decide +kernel) ic_F_fixed rfl
set_option maxRecDepth 20000 in
theorem g_L_25 {w0 : Cond} : GoodIn (w0 :: WS) (wsV R_L 25 R_F y_F_shade w_F_shade) := ws_good (by decide +kernel) ic_F_shade rfl
end
section
/-! constructors; the law's helpers: a call of the class under a catch -/
theorem th_one {y : MethodName} {bytes : ByteArray} {ml : Nat} {ret : Option FieldType} {a b d k : Nat} {s : State} {m : MethodId} {meth : Method} {c : Code} {args : Array Value} (hn : s.methodNamed? y = some m) (hm : s.vm.method? m = some meth) (hc : meth.code = some c) (h : (Cond.codeWith y bytes ml ret [(a, b, d, k)]).before args s = true) : ∃ x : ExceptionTableEntry, c.exceptionTable.toList = [x] ∧ x.startPc = a ∧ x.endPc = b ∧ x.handlerPc = d ∧ x.catchType = k := by
  obtain ⟨m2, meth2, c2, h1, h2, h3, -, -, h4, -⟩ := Cond.codeWith_spec h
  cases hn.symm.trans h1
  cases hm.symm.trans h2
  cases hc.symm.trans h3
  cases hl : c.exceptionTable.toList with
  | nil => rw [hl] at h4; cases h4
  | cons x r =>
    rw [hl] at h4
    cases r with
    | nil =>
      simp at h4
      exact ⟨x, rfl, h4.1, h4.2.1, h4.2.2.1, h4.2.2.2⟩
    | cons z w => simp at h4
theorem th_cov {x : ExceptionTableEntry} {a b n : Nat} (h1 : x.startPc = a) (h2 : x.endPc = b) (h3 : a ≤ n) (h4 : n < b) : covers x n = true := by
  unfold covers
  simp [h1, h2, h3, h4]
theorem th_g0 {f : Nat → Int64} {x : Int64} : vp_updL f (0 : Int32).toNatClampNeg x 0 = x := by
  rw [show (0 : Int32).toNatClampNeg = 0 by decide]
  exact pk_uLs
theorem i_O : Cond.code Lib.objectInit ⟨#[0xb1]⟩ 1 none ∈ lw_tbl := List.mem_of_getElem? (i := 20) rfl
abbrev at_X (dC : Nat → ClassId) (dI : Nat → Nat → Nat) (A : Nat → Prop) (h0 h1 : Nat) (cA : ClassId) (g : Nat → Int64) (t : State) : Prop := va_P (dC, dI) classes [(h0, .inr (0, [])), (h1, .inl (cA, 1, .inr (.inl g)))] t.heap ∧ va_K (dC, dI) classes [(cA, .long)] t ∧ va_D A [(h0, .inr (0, [])), (h1, .inl (cA, 1, .inr (.inl g)))]

set_option maxHeartbeats 4000000 in
set_option maxRecDepth 100000 in
theorem c_F_init (l : Launch) (h0 : Nat) : Met l y_F_init w_F_init ({ frames := 1, cells := 0, slots := 0, locals := 12 }) (fun v _ => v = [Value.ref h0].toArray) (va_Qv (fun _ : Unit => True) (fun _ _ => True) (fun _ => False)) 0 0 (fun _ => False) := by
  refine Met.ofW (cc := b_F_init) (maxL := 1) (ret := none) (by decide) rfl ?_
  intro p e s m args below meth c s₁ B hml hv
  subst hv
  have hx := B.exec
  have hb := B.bytes
  have hr := B.returns
  have hts := atoms_spec (ws := w_F_init) B.pre
  have hown : s.vm.findClass R_F = some m.cls := findClass_of_methodNamed B.named
  have hlocks := B.notSynchronized
  have hl := lv_entry ([.ref h0]) (n := 1) (Nat.le_of_ble_eq_true rfl)
  rw [lg_entry_eq]
  generalize (lg_sl ([.ref h0]) ++ List.replicate (1 - (lg_sl ([.ref h0])).length) Slot.unset).toArray = ls at hl ⊢
  have hl : lv_has ls 1 [(0, .ref h0)] := hl
  refine lv_aload_n hx hb d_F_init_0 rfl (lv_at hl 0 rfl) ?_
  refine W.objInit hx hb hown (hts (.methodLink R_F 1 Lib.objectInit) (List.mem_cons_of_mem _ (tm (by decide +kernel) rfl))) (hts (.instanceMethod Lib.objectInit) (List.mem_cons_of_mem _ (tm (by decide +kernel) rfl))) (hts _ (List.mem_cons_of_mem _ (tm i_O rfl))) rfl (by rw [hml]; exact hl.1) rfl d_F_init_1 (Nat.le_of_ble_eq_true rfl) (Nat.le_of_ble_eq_true rfl) ?_
  refine W.eq (g2 := F0 m 4 ls []) rfl ?_
  exact W.vret hx hb hr (fun t ht hW => ⟨⟨(), rfl, trivial, trivial⟩, ⟨by rw [ht]; exact Nat.le_refl _, fun q _ _ => by rw [ht]⟩⟩) (fun _ h => by cases h) d_F_init_4

set_option maxHeartbeats 4000000 in
set_option maxRecDepth 100000 in
theorem c_M_init (l : Launch) (h0 : Nat) : Met l y_M_init w_M_init ({ frames := 1, cells := 0, slots := 0, locals := 12 }) (fun v _ => v = [Value.ref h0].toArray) (va_Qv (fun _ : Unit => True) (fun _ _ => True) (fun _ => False)) 0 0 (fun _ => False) := by
  refine Met.ofW (cc := b_M_init) (maxL := 1) (ret := none) (by decide) rfl ?_
  intro p e s m args below meth c s₁ B hml hv
  subst hv
  have hx := B.exec
  have hb := B.bytes
  have hr := B.returns
  have hts := atoms_spec (ws := w_M_init) B.pre
  have hown : s.vm.findClass R_M = some m.cls := findClass_of_methodNamed B.named
  have hlocks := B.notSynchronized
  have hl := lv_entry ([.ref h0]) (n := 1) (Nat.le_of_ble_eq_true rfl)
  rw [lg_entry_eq]
  generalize (lg_sl ([.ref h0]) ++ List.replicate (1 - (lg_sl ([.ref h0])).length) Slot.unset).toArray = ls at hl ⊢
  have hl : lv_has ls 1 [(0, .ref h0)] := hl
  refine lv_aload_n hx hb d_M_init_0 rfl (lv_at hl 0 rfl) ?_
  refine W.objInit hx hb hown (hts (.methodLink R_M 1 Lib.objectInit) (List.mem_cons_of_mem _ (tm (by decide +kernel) rfl))) (hts (.instanceMethod Lib.objectInit) (List.mem_cons_of_mem _ (tm (by decide +kernel) rfl))) (hts _ (List.mem_cons_of_mem _ (tm i_O rfl))) rfl (by rw [hml]; exact hl.1) rfl d_M_init_1 (Nat.le_of_ble_eq_true rfl) (Nat.le_of_ble_eq_true rfl) ?_
  refine W.eq (g2 := F0 m 4 ls []) rfl ?_
  exact W.vret hx hb hr (fun t ht hW => ⟨⟨(), rfl, trivial, trivial⟩, ⟨by rw [ht]; exact Nat.le_refl _, fun q _ _ => by rw [ht]⟩⟩) (fun _ h => by cases h) d_M_init_4

set_option maxHeartbeats 4000000 in
set_option maxRecDepth 100000 in
theorem c_L_ratio (l : Launch) (hfl : l.flags = flags0) (dC : Nat → ClassId) (dI : Nat → Nat → Nat) (Z h0 h1 sz : Nat) (cA : ClassId) (f : Nat → Int64) (a b d : Int64) : Met l y_L_ratio w_L_ratio ({ frames := 7, cells := 1, slots := 6, locals := 140 }) (va_Pc [.ref h0, .long a, .long b, .long d, .ref h1] (fun U => U.heap.size = sz ∧ va_P (dC, dI) classes [(h0, .inr (0, [])), (h1, .inl (cA, 1, .inr (.inl f)))] U.heap ∧ va_K (dC, dI) classes [(cA, .long)] U ∧ va_D (fun _ => True) [(h0, .inr (0, [])), (h1, .inl (cA, 1, .inr (.inl f)))] ∧ th_Z Z U)) (va_Qi (fun (r : Int32) (g : Nat → Int64) => (r = 0 ∧ ∃ v : Int64, sp_rok a.toInt b.toInt d.toInt v.toInt ∧ g 0 = v) ∨ (r = 1 ∧ sp_rno a.toInt b.toInt d.toInt)) (at_X dC dI (va_A [(h0, .inr (0, [])), (h1, .inl (cA, 1, .inr (.inl f)))] sz) h0 h1 cA) (va_A [(h0, .inr (0, [])), (h1, .inl (cA, 1, .inr (.inl f)))] sz)) 1 6 (va_A [(h0, .inr (0, [])), (h1, .inl (cA, 1, .inr (.inl f)))] sz) := by
  refine va_MetW (cc := b_L_ratio) (maxL := 9) (ret := some .int) (hh := [(0, 12, 15, 13)]) (by decide) rfl ?_
  intro p e s m args below meth c s₁ B hml hv
  obtain ⟨rfl, hsz, hP, hK, hD0, hZ⟩ := hv
  have hx := B.exec
  have hb := B.bytes
  have hr := B.returns
  have hts := atoms_spec (ws := w_L_ratio) B.pre
  have hown : s.vm.findClass R_L = some m.cls := findClass_of_methodNamed B.named
  have hlocks := B.notSynchronized
  subst hsz
  have hD := hD0.self (sz := s.heap.size)
  generalize hAe : va_A [(h0, .inr (0, [])), (h1, .inl (cA, 1, .inr (.inl f)))] s.heap.size = A at hD ⊢
  have hA : ∀ q : Nat, s.heap.size ≤ q → A q := fun q h => by rw [← hAe]; exact Or.inr h
  have hS : va_S A s.heap s.heap [] := va_S.rf
  have hP : va_P (dC, dI) classes [(h0, .inr (0, [])), (h1, .inl (cA, 1, .inr (.inl f)))] s.heap := hP
  obtain ⟨x, hx1, hxa, hxb, hxh, hxc⟩ := th_one B.named B.method (Stand.of_body B).code (hts _ List.mem_cons_self)
  obtain ⟨cl, -, hE, -⟩ := Cond.instantiable_spec (hts (.instantiable "java/lang/ArithmeticException" 6) (List.mem_cons_of_mem _ (tm (by decide +kernel) rfl)))
  have hl := lv_entry ([.ref h0, .long a, .long b, .long d, .ref h1]) (n := 9) (Nat.le_of_ble_eq_true rfl)
  rw [lg_entry_eq]
  generalize (lg_sl ([.ref h0, .long a, .long b, .long d, .ref h1]) ++ List.replicate (9 - (lg_sl ([.ref h0, .long a, .long b, .long d, .ref h1])).length) Slot.unset).toArray = ls at hl ⊢
  have hl : lv_has ls 9 [(0, .ref h0), (1, .long a), (3, .long b), (5, .long d), (7, .ref h1)] := hl
  refine lv_aload hx hb d_L_ratio_0 (lv_at hl 4 rfl) ?_
  refine lv_iconst (v := 0) hx hb d_L_ratio_2 (by decide) ?_
  refine lv_aload_n hx hb d_L_ratio_3 rfl (lv_at hl 0 rfl) ?_
  refine lv_lload_n hx hb d_L_ratio_4 rfl (lv_at hl 1 rfl) ?_
  refine lv_lload_n hx hb d_L_ratio_5 rfl (lv_at hl 2 rfl) ?_
  refine lv_lload hx hb d_L_ratio_6 (lv_at hl 3 rfl) ?_
  refine th_tryV (As := [.long a, .long b, .long d]) (rest := [.int 0, .ref h1]) ⟨hx, hb, hml, hown, hts⟩ (c_F_ratio l hfl Z h0 a b d) (cwV 3 hts g_L_7 rfl rfl rfl (by decide +kernel) ⟨Nat.le_of_ble_eq_true rfl, Nat.le_of_ble_eq_true rfl⟩) ⟨fun _ U g mk q => ⟨q.1, th_Z.call q.2⟩, va_recv hK hP (ci := 0) (q0 := 0) rfl rfl, fun U hU hW => ⟨rfl, th_Z.to hZ hW (fun q _ _ => by rw [hU])⟩⟩ rfl rfl hl.1 rfl (lv_room (Nat.le_of_ble_eq_true rfl)) d_L_ratio_8 ⟨Nat.le_of_ble_eq_true rfl, Nat.le_of_ble_eq_true rfl⟩ hx1 (th_cov (n := 8) hxa hxb (by decide) (by decide)) (by rw [hxc]; decide) (E := "java/lang/ArithmeticException") (by rw [hxc]; exact hts (.classLink R_L 13 "java/lang/ArithmeticException") (List.mem_cons_of_mem _ (tm (by decide +kernel) rfl))) hE (Vm.assignable_self _ _) (fun a9 st t q1 q2 q3 q4 => ?_) (fun v9 st t q1 q2 q3 q4 q5 q6 => ?_) (fun a9 st t q1 q2 q3 q4 q5 q6 => ?_)
  · rcases q4 with ⟨r9, hv9, hok9, hh9⟩ | ⟨a8, ce, ha9, hno, g1, g2, g3⟩
    · cases hv9
    · cases ha9
      exact ⟨ce, g1, g2, Option.some.inj (g3.symm.trans (by rw [q2.alike.findClass]; exact hE))⟩
  · rcases q4 with ⟨r9, hv9, hok9, hh9⟩ | ⟨a8, ce, ha9, hno, g1, g2, g3⟩
    · cases hv9
      rw [hh9.trans q1]
      refine W.eq (g2 := F0 m 11 ls [.long r9, .int 0, .ref h1]) rfl ?_
      refine va_last hx hb hK hP hD hS 1 0 rfl rfl (i := 0) (pk_in 0 1 (by decide)) d_L_ratio_11 (fun H locs hP hD hS => ?_)
      have hP : va_P (dC, dI) classes [(h0, .inr (0, [])), (h1, .inl (cA, 1, .inr (.inl (vp_updL f (0 : Int32).toNatClampNeg r9))))] H := hP
      have hD : va_D A [(h0, .inr (0, [])), (h1, .inl (cA, 1, .inr (.inl (vp_updL f (0 : Int32).toNatClampNeg r9))))] := hD
      refine lv_goto (tgt := 19) hx hb d_L_ratio_12 (by decide) ?_
      refine lv_iconst (v := 0) hx hb d_L_ratio_19 (by decide) ?_
      exact W.iret (v := 0) hx hb hr (fun t ht hW => ⟨⟨0, (vp_updL f (0 : Int32).toNatClampNeg r9), rfl, Or.inl ⟨rfl, r9, hok9, by rw [th_g0]⟩, by rw [ht]; exact hP, va_K.moved hW.alike hK, hD⟩, hS.F ht⟩) hS.2.2 d_L_ratio_20
    · cases ha9
  · rcases q4 with ⟨r9, hv9, hok9, hh9⟩ | ⟨a8, ce, ha9, hno, g1, g2, g3⟩
    · cases hv9
    · have hP := hP.kept (H1 := t.heap) (fun k9 q9 hq9 => q5 _ ((hP k9 q9 hq9).lt))
      have hS : va_S A s.heap t.heap [] := ⟨q6, fun q hq _ => q5 q hq, fun _ h => by cases h⟩
      generalize t.heap = H at hP hS ⊢
      refine W.eq (g2 := F0 m 15 ls [.ref a9]) (by rw [hxh]) ?_
      refine lv_astore (lv' := [(8, .ref a9), (0, .ref h0), (1, .long a), (3, .long b), (5, .long d), (7, .ref h1)]) hx hb d_L_ratio_15 hl (by decide) rfl (fun ls hl => ?_)
      refine lv_iconst (v := 1) hx hb d_L_ratio_17 (by decide) ?_
      exact W.iret (v := 1) hx hb hr (fun t ht hW => ⟨⟨1, f, rfl, Or.inr ⟨rfl, hno⟩, by rw [ht]; exact hP, va_K.moved hW.alike hK, hD⟩, hS.F ht⟩) hS.2.2 d_L_ratio_18
set_option maxHeartbeats 4000000 in
set_option maxRecDepth 100000 in
theorem c_L_between (l : Launch) (hfl : l.flags = flags0) (dC : Nat → ClassId) (dI : Nat → Nat → Nat) (Z h0 h1 sz : Nat) (cA : ClassId) (f : Nat → Int64) (a b : Int32) (n d : Int64) : Met l y_L_between w_L_between ({ frames := 7, cells := 1, slots := 6, locals := 140 }) (va_Pc [.ref h0, .int a, .int b, .long n, .long d, .ref h1] (fun U => U.heap.size = sz ∧ va_P (dC, dI) classes [(h0, .inr (0, [])), (h1, .inl (cA, 1, .inr (.inl f)))] U.heap ∧ va_K (dC, dI) classes [(cA, .long)] U ∧ va_D (fun _ => True) [(h0, .inr (0, [])), (h1, .inl (cA, 1, .inr (.inl f)))] ∧ th_Z Z U)) (va_Qi (fun (r : Int32) (g : Nat → Int64) => (r = 0 ∧ ∃ v : Int32, ((0 < d.toInt ∧ 0 ≤ n.toInt ∧ n.toInt ≤ d.toInt) ∧ v.toInt = sp_betw a.toInt b.toInt n.toInt d.toInt) ∧ g 0 = v.toInt64) ∨ (r = 1 ∧ sp_bno n.toInt d.toInt)) (at_X dC dI (va_A [(h0, .inr (0, [])), (h1, .inl (cA, 1, .inr (.inl f)))] sz) h0 h1 cA) (va_A [(h0, .inr (0, [])), (h1, .inl (cA, 1, .inr (.inl f)))] sz)) 1 6 (va_A [(h0, .inr (0, [])), (h1, .inl (cA, 1, .inr (.inl f)))] sz) := by
  refine va_MetW (cc := b_L_between) (maxL := 9) (ret := some .int) (hh := [(0, 14, 17, 19)]) (by decide) rfl ?_
  intro p e s m args below meth c s₁ B hml hv
  obtain ⟨rfl, hsz, hP, hK, hD0, hZ⟩ := hv
  have hx := B.exec
  have hb := B.bytes
  have hr := B.returns
  have hts := atoms_spec (ws := w_L_between) B.pre
  have hown : s.vm.findClass R_L = some m.cls := findClass_of_methodNamed B.named
  have hlocks := B.notSynchronized
  subst hsz
  have hD := hD0.self (sz := s.heap.size)
  generalize hAe : va_A [(h0, .inr (0, [])), (h1, .inl (cA, 1, .inr (.inl f)))] s.heap.size = A at hD ⊢
  have hA : ∀ q : Nat, s.heap.size ≤ q → A q := fun q h => by rw [← hAe]; exact Or.inr h
  have hS : va_S A s.heap s.heap [] := va_S.rf
  have hP : va_P (dC, dI) classes [(h0, .inr (0, [])), (h1, .inl (cA, 1, .inr (.inl f)))] s.heap := hP
  obtain ⟨x, hx1, hxa, hxb, hxh, hxc⟩ := th_one B.named B.method (Stand.of_body B).code (hts _ List.mem_cons_self)
  obtain ⟨cl, -, hE, -⟩ := Cond.instantiable_spec (hts (.instantiable "java/lang/IllegalArgumentException" 6) (List.mem_cons_of_mem _ (tm (by decide +kernel) rfl)))
  have hl := lv_entry ([.ref h0, .int a, .int b, .long n, .long d, .ref h1]) (n := 9) (Nat.le_of_ble_eq_true rfl)
  rw [lg_entry_eq]
  generalize (lg_sl ([.ref h0, .int a, .int b, .long n, .long d, .ref h1]) ++ List.replicate (9 - (lg_sl ([.ref h0, .int a, .int b, .long n, .long d, .ref h1])).length) Slot.unset).toArray = ls at hl ⊢
  have hl : lv_has ls 9 [(0, .ref h0), (1, .int a), (2, .int b), (3, .long n), (5, .long d), (7, .ref h1)] := hl
  refine lv_aload hx hb d_L_between_0 (lv_at hl 5 rfl) ?_
  refine lv_iconst (v := 0) hx hb d_L_between_2 (by decide) ?_
  refine lv_aload_n hx hb d_L_between_3 rfl (lv_at hl 0 rfl) ?_
  refine lv_iload_n hx hb d_L_between_4 rfl (lv_at hl 1 rfl) ?_
  refine lv_iload_n hx hb d_L_between_5 rfl (lv_at hl 2 rfl) ?_
  refine lv_lload_n hx hb d_L_between_6 rfl (lv_at hl 3 rfl) ?_
  refine lv_lload hx hb d_L_between_7 (lv_at hl 4 rfl) ?_
  refine th_tryV (As := [.int a, .int b, .long n, .long d]) (rest := [.int 0, .ref h1]) ⟨hx, hb, hml, hown, hts⟩ (c_F_between l hfl Z h0 a b n d) (cwV 4 hts g_L_15 rfl rfl rfl (by decide +kernel) ⟨Nat.le_of_ble_eq_true rfl, Nat.le_of_ble_eq_true rfl⟩) ⟨fun _ U g mk q => ⟨q.1, th_Z.call q.2⟩, va_recv hK hP (ci := 0) (q0 := 0) rfl rfl, fun U hU hW => ⟨rfl, th_Z.to hZ hW (fun q _ _ => by rw [hU])⟩⟩ rfl rfl hl.1 rfl (lv_room (Nat.le_of_ble_eq_true rfl)) d_L_between_9 ⟨Nat.le_of_ble_eq_true rfl, Nat.le_of_ble_eq_true rfl⟩ hx1 (th_cov (n := 9) hxa hxb (by decide) (by decide)) (by rw [hxc]; decide) (E := "java/lang/IllegalArgumentException") (by rw [hxc]; exact hts (.classLink R_L 19 "java/lang/IllegalArgumentException") (List.mem_cons_of_mem _ (tm (by decide +kernel) rfl))) hE (Vm.assignable_self _ _) (fun a9 st t q1 q2 q3 q4 => ?_) (fun v9 st t q1 q2 q3 q4 q5 q6 => ?_) (fun a9 st t q1 q2 q3 q4 q5 q6 => ?_)
  · rcases q4 with ⟨r9, hv9, hok9, hh9⟩ | ⟨a8, ce, ha9, hno, g1, g2, g3⟩
    · cases hv9
    · cases ha9
      exact ⟨ce, g1, g2, Option.some.inj (g3.symm.trans (by rw [q2.alike.findClass]; exact hE))⟩
  · rcases q4 with ⟨r9, hv9, hok9, hh9⟩ | ⟨a8, ce, ha9, hno, g1, g2, g3⟩
    · cases hv9
      rw [hh9.trans q1]
      refine W.eq (g2 := F0 m 12 ls [.int r9, .int 0, .ref h1]) rfl ?_
      refine lv_i2l hx hb d_L_between_12 rfl ?_
      refine lv_topl (fun v12 e12 => ?_)
      refine va_last hx hb hK hP hD hS 1 0 rfl rfl (i := 0) (pk_in 0 1 (by decide)) d_L_between_13 (fun H locs hP hD hS => ?_)
      have hP : va_P (dC, dI) classes [(h0, .inr (0, [])), (h1, .inl (cA, 1, .inr (.inl (vp_updL f (0 : Int32).toNatClampNeg v12))))] H := hP
      have hD : va_D A [(h0, .inr (0, [])), (h1, .inl (cA, 1, .inr (.inl (vp_updL f (0 : Int32).toNatClampNeg v12))))] := hD
      refine lv_goto (tgt := 21) hx hb d_L_between_14 (by decide) ?_
      refine lv_iconst (v := 0) hx hb d_L_between_21 (by decide) ?_
      exact W.iret (v := 0) hx hb hr (fun t ht hW => ⟨⟨0, (vp_updL f (0 : Int32).toNatClampNeg v12), rfl, Or.inl ⟨rfl, r9, hok9, by rw [th_g0]; exact e12⟩, by rw [ht]; exact hP, va_K.moved hW.alike hK, hD⟩, hS.F ht⟩) hS.2.2 d_L_between_22
    · cases ha9
  · rcases q4 with ⟨r9, hv9, hok9, hh9⟩ | ⟨a8, ce, ha9, hno, g1, g2, g3⟩
    · cases hv9
    · have hP := hP.kept (H1 := t.heap) (fun k9 q9 hq9 => q5 _ ((hP k9 q9 hq9).lt))
      have hS : va_S A s.heap t.heap [] := ⟨q6, fun q hq _ => q5 q hq, fun _ h => by cases h⟩
      generalize t.heap = H at hP hS ⊢
      refine W.eq (g2 := F0 m 17 ls [.ref a9]) (by rw [hxh]) ?_
      refine lv_astore (lv' := [(8, .ref a9), (0, .ref h0), (1, .int a), (2, .int b), (3, .long n), (5, .long d), (7, .ref h1)]) hx hb d_L_between_17 hl (by decide) rfl (fun ls hl => ?_)
      refine lv_iconst (v := 1) hx hb d_L_between_19 (by decide) ?_
      exact W.iret (v := 1) hx hb hr (fun t ht hW => ⟨⟨1, f, rfl, Or.inr ⟨rfl, hno⟩, by rw [ht]; exact hP, va_K.moved hW.alike hK, hD⟩, hS.F ht⟩) hS.2.2 d_L_between_20
set_option maxHeartbeats 4000000 in
set_option maxRecDepth 100000 in
theorem c_L_fixed (l : Launch) (hfl : l.flags = flags0) (dC : Nat → ClassId) (dI : Nat → Nat → Nat) (Z h0 h1 sz : Nat) (cA : ClassId) (f : Nat → Int64) (a : Int32) : Met l y_L_fixed w_L_fixed ({ frames := 7, cells := 1, slots := 6, locals := 140 }) (va_Pc [.ref h0, .int a, .ref h1] (fun U => U.heap.size = sz ∧ va_P (dC, dI) classes [(h0, .inr (0, [])), (h1, .inl (cA, 1, .inr (.inl f)))] U.heap ∧ va_K (dC, dI) classes [(cA, .long)] U ∧ va_D (fun _ => True) [(h0, .inr (0, [])), (h1, .inl (cA, 1, .inr (.inl f)))] ∧ th_Z Z U)) (va_Qi (fun (r : Int32) (g : Nat → Int64) => (r = 0 ∧ ∃ v : Int32, (sp_byte a.toInt ∧ v.toInt = (2 * (65536 * a.toInt) + 255) / 510) ∧ g 0 = v.toInt64) ∨ (r = 1 ∧ ¬ sp_byte a.toInt)) (at_X dC dI (va_A [(h0, .inr (0, [])), (h1, .inl (cA, 1, .inr (.inl f)))] sz) h0 h1 cA) (va_A [(h0, .inr (0, [])), (h1, .inl (cA, 1, .inr (.inl f)))] sz)) 1 6 (va_A [(h0, .inr (0, [])), (h1, .inl (cA, 1, .inr (.inl f)))] sz) := by
  refine va_MetW (cc := b_L_fixed) (maxL := 4) (ret := some .int) (hh := [(0, 9, 12, 19)]) (by decide) rfl ?_
  intro p e s m args below meth c s₁ B hml hv
  obtain ⟨rfl, hsz, hP, hK, hD0, hZ⟩ := hv
  have hx := B.exec
  have hb := B.bytes
  have hr := B.returns
  have hts := atoms_spec (ws := w_L_fixed) B.pre
  have hown : s.vm.findClass R_L = some m.cls := findClass_of_methodNamed B.named
  have hlocks := B.notSynchronized
  subst hsz
  have hD := hD0.self (sz := s.heap.size)
  generalize hAe : va_A [(h0, .inr (0, [])), (h1, .inl (cA, 1, .inr (.inl f)))] s.heap.size = A at hD ⊢
  have hA : ∀ q : Nat, s.heap.size ≤ q → A q := fun q h => by rw [← hAe]; exact Or.inr h
  have hS : va_S A s.heap s.heap [] := va_S.rf
  have hP : va_P (dC, dI) classes [(h0, .inr (0, [])), (h1, .inl (cA, 1, .inr (.inl f)))] s.heap := hP
  obtain ⟨x, hx1, hxa, hxb, hxh, hxc⟩ := th_one B.named B.method (Stand.of_body B).code (hts _ List.mem_cons_self)
  obtain ⟨cl, -, hE, -⟩ := Cond.instantiable_spec (hts (.instantiable "java/lang/IllegalArgumentException" 6) (List.mem_cons_of_mem _ (tm (by decide +kernel) rfl)))
  have hl := lv_entry ([.ref h0, .int a, .ref h1]) (n := 4) (Nat.le_of_ble_eq_true rfl)
  rw [lg_entry_eq]
  generalize (lg_sl ([.ref h0, .int a, .ref h1]) ++ List.replicate (4 - (lg_sl ([.ref h0, .int a, .ref h1])).length) Slot.unset).toArray = ls at hl ⊢
  have hl : lv_has ls 4 [(0, .ref h0), (1, .int a), (2, .ref h1)] := hl
  refine lv_aload_n hx hb d_L_fixed_0 rfl (lv_at hl 2 rfl) ?_
  refine lv_iconst (v := 0) hx hb d_L_fixed_1 (by decide) ?_
  refine lv_aload_n hx hb d_L_fixed_2 rfl (lv_at hl 0 rfl) ?_
  refine lv_iload_n hx hb d_L_fixed_3 rfl (lv_at hl 1 rfl) ?_
  refine th_tryV (As := [.int a]) (rest := [.int 0, .ref h1]) ⟨hx, hb, hml, hown, hts⟩ (c_F_fixed l hfl Z h0 a) (cwV 1 hts g_L_21 rfl rfl rfl (by decide +kernel) ⟨Nat.le_of_ble_eq_true rfl, Nat.le_of_ble_eq_true rfl⟩) ⟨fun _ U g mk q => ⟨q.1, th_Z.call q.2⟩, va_recv hK hP (ci := 0) (q0 := 0) rfl rfl, fun U hU hW => ⟨rfl, th_Z.to hZ hW (fun q _ _ => by rw [hU])⟩⟩ rfl rfl hl.1 rfl (lv_room (Nat.le_of_ble_eq_true rfl)) d_L_fixed_4 ⟨Nat.le_of_ble_eq_true rfl, Nat.le_of_ble_eq_true rfl⟩ hx1 (th_cov (n := 4) hxa hxb (by decide) (by decide)) (by rw [hxc]; decide) (E := "java/lang/IllegalArgumentException") (by rw [hxc]; exact hts (.classLink R_L 19 "java/lang/IllegalArgumentException") (List.mem_cons_of_mem _ (tm (by decide +kernel) rfl))) hE (Vm.assignable_self _ _) (fun a9 st t q1 q2 q3 q4 => ?_) (fun v9 st t q1 q2 q3 q4 q5 q6 => ?_) (fun a9 st t q1 q2 q3 q4 q5 q6 => ?_)
  · rcases q4 with ⟨r9, hv9, hok9, hh9⟩ | ⟨a8, ce, ha9, hno, g1, g2, g3⟩
    · cases hv9
    · cases ha9
      exact ⟨ce, g1, g2, Option.some.inj (g3.symm.trans (by rw [q2.alike.findClass]; exact hE))⟩
  · rcases q4 with ⟨r9, hv9, hok9, hh9⟩ | ⟨a8, ce, ha9, hno, g1, g2, g3⟩
    · cases hv9
      rw [hh9.trans q1]
      refine W.eq (g2 := F0 m 7 ls [.int r9, .int 0, .ref h1]) rfl ?_
      refine lv_i2l hx hb d_L_fixed_7 rfl ?_
      refine lv_topl (fun v7 e7 => ?_)
      refine va_last hx hb hK hP hD hS 1 0 rfl rfl (i := 0) (pk_in 0 1 (by decide)) d_L_fixed_8 (fun H locs hP hD hS => ?_)
      have hP : va_P (dC, dI) classes [(h0, .inr (0, [])), (h1, .inl (cA, 1, .inr (.inl (vp_updL f (0 : Int32).toNatClampNeg v7))))] H := hP
      have hD : va_D A [(h0, .inr (0, [])), (h1, .inl (cA, 1, .inr (.inl (vp_updL f (0 : Int32).toNatClampNeg v7))))] := hD
      refine lv_goto (tgt := 15) hx hb d_L_fixed_9 (by decide) ?_
      refine lv_iconst (v := 0) hx hb d_L_fixed_15 (by decide) ?_
      exact W.iret (v := 0) hx hb hr (fun t ht hW => ⟨⟨0, (vp_updL f (0 : Int32).toNatClampNeg v7), rfl, Or.inl ⟨rfl, r9, hok9, by rw [th_g0]; exact e7⟩, by rw [ht]; exact hP, va_K.moved hW.alike hK, hD⟩, hS.F ht⟩) hS.2.2 d_L_fixed_16
    · cases ha9
  · rcases q4 with ⟨r9, hv9, hok9, hh9⟩ | ⟨a8, ce, ha9, hno, g1, g2, g3⟩
    · cases hv9
    · have hP := hP.kept (H1 := t.heap) (fun k9 q9 hq9 => q5 _ ((hP k9 q9 hq9).lt))
      have hS : va_S A s.heap t.heap [] := ⟨q6, fun q hq _ => q5 q hq, fun _ h => by cases h⟩
      generalize t.heap = H at hP hS ⊢
      refine W.eq (g2 := F0 m 12 ls [.ref a9]) (by rw [hxh]) ?_
      refine lv_astore_n (lv' := [(3, .ref a9), (0, .ref h0), (1, .int a), (2, .ref h1)]) hx hb d_L_fixed_12 rfl hl (by decide) rfl (fun ls hl => ?_)
      refine lv_iconst (v := 1) hx hb d_L_fixed_13 (by decide) ?_
      exact W.iret (v := 1) hx hb hr (fun t ht hW => ⟨⟨1, f, rfl, Or.inr ⟨rfl, hno⟩, by rw [ht]; exact hP, va_K.moved hW.alike hK, hD⟩, hS.F ht⟩) hS.2.2 d_L_fixed_14
set_option maxHeartbeats 4000000 in
set_option maxRecDepth 100000 in
theorem c_L_shade (l : Launch) (hfl : l.flags = flags0) (dC : Nat → ClassId) (dI : Nat → Nat → Nat) (Z h0 h1 sz : Nat) (cA : ClassId) (f : Nat → Int64) (a b : Int32) : Met l y_L_shade w_L_shade ({ frames := 7, cells := 1, slots := 6, locals := 140 }) (va_Pc [.ref h0, .int a, .int b, .ref h1] (fun U => U.heap.size = sz ∧ va_P (dC, dI) classes [(h0, .inr (0, [])), (h1, .inl (cA, 1, .inr (.inl f)))] U.heap ∧ va_K (dC, dI) classes [(cA, .long)] U ∧ va_D (fun _ => True) [(h0, .inr (0, [])), (h1, .inl (cA, 1, .inr (.inl f)))] ∧ th_Z Z U)) (va_Qi (fun (r : Int32) (g : Nat → Int64) => (r = 0 ∧ ∃ v : Int32, (sp_byte a.toInt ∧ sp_byte b.toInt ∧ v.toInt = (2 * (a.toInt * b.toInt) + 255) / 510) ∧ g 0 = v.toInt64) ∨ (r = 1 ∧ (¬ sp_byte a.toInt ∨ ¬ sp_byte b.toInt))) (at_X dC dI (va_A [(h0, .inr (0, [])), (h1, .inl (cA, 1, .inr (.inl f)))] sz) h0 h1 cA) (va_A [(h0, .inr (0, [])), (h1, .inl (cA, 1, .inr (.inl f)))] sz)) 1 6 (va_A [(h0, .inr (0, [])), (h1, .inl (cA, 1, .inr (.inl f)))] sz) := by
  refine va_MetW (cc := b_L_shade) (maxL := 5) (ret := some .int) (hh := [(0, 10, 13, 19)]) (by decide) rfl ?_
  intro p e s m args below meth c s₁ B hml hv
  obtain ⟨rfl, hsz, hP, hK, hD0, hZ⟩ := hv
  have hx := B.exec
  have hb := B.bytes
  have hr := B.returns
  have hts := atoms_spec (ws := w_L_shade) B.pre
  have hown : s.vm.findClass R_L = some m.cls := findClass_of_methodNamed B.named
  have hlocks := B.notSynchronized
  subst hsz
  have hD := hD0.self (sz := s.heap.size)
  generalize hAe : va_A [(h0, .inr (0, [])), (h1, .inl (cA, 1, .inr (.inl f)))] s.heap.size = A at hD ⊢
  have hA : ∀ q : Nat, s.heap.size ≤ q → A q := fun q h => by rw [← hAe]; exact Or.inr h
  have hS : va_S A s.heap s.heap [] := va_S.rf
  have hP : va_P (dC, dI) classes [(h0, .inr (0, [])), (h1, .inl (cA, 1, .inr (.inl f)))] s.heap := hP
  obtain ⟨x, hx1, hxa, hxb, hxh, hxc⟩ := th_one B.named B.method (Stand.of_body B).code (hts _ List.mem_cons_self)
  obtain ⟨cl, -, hE, -⟩ := Cond.instantiable_spec (hts (.instantiable "java/lang/IllegalArgumentException" 6) (List.mem_cons_of_mem _ (tm (by decide +kernel) rfl)))
  have hl := lv_entry ([.ref h0, .int a, .int b, .ref h1]) (n := 5) (Nat.le_of_ble_eq_true rfl)
  rw [lg_entry_eq]
  generalize (lg_sl ([.ref h0, .int a, .int b, .ref h1]) ++ List.replicate (5 - (lg_sl ([.ref h0, .int a, .int b, .ref h1])).length) Slot.unset).toArray = ls at hl ⊢
  have hl : lv_has ls 5 [(0, .ref h0), (1, .int a), (2, .int b), (3, .ref h1)] := hl
  refine lv_aload_n hx hb d_L_shade_0 rfl (lv_at hl 3 rfl) ?_
  refine lv_iconst (v := 0) hx hb d_L_shade_1 (by decide) ?_
  refine lv_aload_n hx hb d_L_shade_2 rfl (lv_at hl 0 rfl) ?_
  refine lv_iload_n hx hb d_L_shade_3 rfl (lv_at hl 1 rfl) ?_
  refine lv_iload_n hx hb d_L_shade_4 rfl (lv_at hl 2 rfl) ?_
  refine th_tryV (As := [.int a, .int b]) (rest := [.int 0, .ref h1]) ⟨hx, hb, hml, hown, hts⟩ (c_F_shade l hfl Z h0 a b) (cwV 2 hts g_L_25 rfl rfl rfl (by decide +kernel) ⟨Nat.le_of_ble_eq_true rfl, Nat.le_of_ble_eq_true rfl⟩) ⟨fun _ U g mk q => ⟨q.1, th_Z.call q.2⟩, va_recv hK hP (ci := 0) (q0 := 0) rfl rfl, fun U hU hW => ⟨rfl, th_Z.to hZ hW (fun q _ _ => by rw [hU])⟩⟩ rfl rfl hl.1 rfl (lv_room (Nat.le_of_ble_eq_true rfl)) d_L_shade_5 ⟨Nat.le_of_ble_eq_true rfl, Nat.le_of_ble_eq_true rfl⟩ hx1 (th_cov (n := 5) hxa hxb (by decide) (by decide)) (by rw [hxc]; decide) (E := "java/lang/IllegalArgumentException") (by rw [hxc]; exact hts (.classLink R_L 19 "java/lang/IllegalArgumentException") (List.mem_cons_of_mem _ (tm (by decide +kernel) rfl))) hE (Vm.assignable_self _ _) (fun a9 st t q1 q2 q3 q4 => ?_) (fun v9 st t q1 q2 q3 q4 q5 q6 => ?_) (fun a9 st t q1 q2 q3 q4 q5 q6 => ?_)
  · rcases q4 with ⟨r9, hv9, hok9, hh9⟩ | ⟨a8, ce, ha9, hno, g1, g2, g3⟩
    · cases hv9
    · cases ha9
      exact ⟨ce, g1, g2, Option.some.inj (g3.symm.trans (by rw [q2.alike.findClass]; exact hE))⟩
  · rcases q4 with ⟨r9, hv9, hok9, hh9⟩ | ⟨a8, ce, ha9, hno, g1, g2, g3⟩
    · cases hv9
      rw [hh9.trans q1]
      refine W.eq (g2 := F0 m 8 ls [.int r9, .int 0, .ref h1]) rfl ?_
      refine lv_i2l hx hb d_L_shade_8 rfl ?_
      refine lv_topl (fun v8 e8 => ?_)
      refine va_last hx hb hK hP hD hS 1 0 rfl rfl (i := 0) (pk_in 0 1 (by decide)) d_L_shade_9 (fun H locs hP hD hS => ?_)
      have hP : va_P (dC, dI) classes [(h0, .inr (0, [])), (h1, .inl (cA, 1, .inr (.inl (vp_updL f (0 : Int32).toNatClampNeg v8))))] H := hP
      have hD : va_D A [(h0, .inr (0, [])), (h1, .inl (cA, 1, .inr (.inl (vp_updL f (0 : Int32).toNatClampNeg v8))))] := hD
      refine lv_goto (tgt := 17) hx hb d_L_shade_10 (by decide) ?_
      refine lv_iconst (v := 0) hx hb d_L_shade_17 (by decide) ?_
      exact W.iret (v := 0) hx hb hr (fun t ht hW => ⟨⟨0, (vp_updL f (0 : Int32).toNatClampNeg v8), rfl, Or.inl ⟨rfl, r9, hok9, by rw [th_g0]; exact e8⟩, by rw [ht]; exact hP, va_K.moved hW.alike hK, hD⟩, hS.F ht⟩) hS.2.2 d_L_shade_18
    · cases ha9
  · rcases q4 with ⟨r9, hv9, hok9, hh9⟩ | ⟨a8, ce, ha9, hno, g1, g2, g3⟩
    · cases hv9
    · have hP := hP.kept (H1 := t.heap) (fun k9 q9 hq9 => q5 _ ((hP k9 q9 hq9).lt))
      have hS : va_S A s.heap t.heap [] := ⟨q6, fun q hq _ => q5 q hq, fun _ h => by cases h⟩
      generalize t.heap = H at hP hS ⊢
      refine W.eq (g2 := F0 m 13 ls [.ref a9]) (by rw [hxh]) ?_
      refine lv_astore (lv' := [(4, .ref a9), (0, .ref h0), (1, .int a), (2, .int b), (3, .ref h1)]) hx hb d_L_shade_13 hl (by decide) rfl (fun ls hl => ?_)
      refine lv_iconst (v := 1) hx hb d_L_shade_15 (by decide) ?_
      exact W.iret (v := 1) hx hb hr (fun t ht hW => ⟨⟨1, f, rfl, Or.inr ⟨rfl, hno⟩, by rw [ht]; exact hP, va_K.moved hW.alike hK, hD⟩, hS.F ht⟩) hS.2.2 d_L_shade_16
end
section
theorem d_law_0 : decode code 0 = .ok (.new 8, 3) := by decide +kernel
theorem d_law_3 : decode code 3 = .ok (.dup, 1) := by decide +kernel
theorem d_law_4 : decode code 4 = .ok (.invokespecial 29, 3) := by decide +kernel
theorem d_law_7 : decode code 7 = .ok (.astore_n 1, 1) := by decide +kernel
theorem d_law_8 : decode code 8 = .ok (.new 30, 3) := by decide +kernel
theorem d_law_11 : decode code 11 = .ok (.dup, 1) := by decide +kernel
theorem d_law_12 : decode code 12 = .ok (.invokespecial 32, 3) := by decide +kernel
theorem d_law_15 : decode code 15 = .ok (.astore_n 2, 1) := by decide +kernel
theorem d_law_16 : decode code 16 = .ok (.iconst 1, 1) := by decide +kernel
theorem d_law_17 : decode code 17 = .ok (.newarray .long, 2) := by decide +kernel
theorem d_law_19 : decode code 19 = .ok (.astore_n 3, 1) := by decide +kernel
theorem d_law_20 : decode code 20 = .ok (.iconst 0, 1) := by decide +kernel
theorem d_law_21 : decode code 21 = .ok (.istore 4, 2) := by decide +kernel
theorem d_law_23 : decode code 23 = .ok (.iload 4, 2) := by decide +kernel
theorem d_law_25 : decode code 25 = .ok (.aload_n 0, 1) := by decide +kernel
theorem d_law_26 : decode code 26 = .ok (.arraylength, 1) := by decide +kernel
theorem d_law_27 : decode code 27 = .ok (.bipush 7, 2) := by decide +kernel
theorem d_law_29 : decode code 29 = .ok (.isub, 1) := by decide +kernel
theorem d_law_30 : decode code 30 = .ok (.if_icmp .gt 734, 3) := by decide +kernel
theorem d_law_33 : decode code 33 = .ok (.aload_n 0, 1) := by decide +kernel
theorem d_law_34 : decode code 34 = .ok (.iload 4, 2) := by decide +kernel
theorem d_law_36 : decode code 36 = .ok (.iaload, 1) := by decide +kernel
theorem d_law_37 : decode code 37 = .ok (.bipush 15, 2) := by decide +kernel
theorem d_law_39 : decode code 39 = .ok (.iand, 1) := by decide +kernel
theorem d_law_40 : decode code 40 = .ok (.tableswitch 718 0 10 #[60, 97, 134, 159, 184, 361, 519, 544, 600, 668, 693], 60) := by decide +kernel
theorem d_law_100 : decode code 100 = .ok (.aload_n 1, 1) := by decide +kernel
theorem d_law_101 : decode code 101 = .ok (.aload_n 0, 1) := by decide +kernel
theorem d_law_102 : decode code 102 = .ok (.iload 4, 2) := by decide +kernel
theorem d_law_104 : decode code 104 = .ok (.iconst 1, 1) := by decide +kernel
theorem d_law_105 : decode code 105 = .ok (.iadd, 1) := by decide +kernel
theorem d_law_106 : decode code 106 = .ok (.iaload, 1) := by decide +kernel
theorem d_law_107 : decode code 107 = .ok (.aload_n 0, 1) := by decide +kernel
theorem d_law_108 : decode code 108 = .ok (.iload 4, 2) := by decide +kernel
theorem d_law_110 : decode code 110 = .ok (.iconst 2, 1) := by decide +kernel
theorem d_law_111 : decode code 111 = .ok (.iadd, 1) := by decide +kernel
theorem d_law_112 : decode code 112 = .ok (.iaload, 1) := by decide +kernel
theorem d_law_113 : decode code 113 = .ok (.invokevirtual 33, 3) := by decide +kernel
theorem d_law_116 : decode code 116 = .ok (.aload_n 2, 1) := by decide +kernel
theorem d_law_117 : decode code 117 = .ok (.aload_n 0, 1) := by decide +kernel
theorem d_law_118 : decode code 118 = .ok (.iload 4, 2) := by decide +kernel
theorem d_law_120 : decode code 120 = .ok (.iconst 1, 1) := by decide +kernel
theorem d_law_121 : decode code 121 = .ok (.iadd, 1) := by decide +kernel
theorem d_law_122 : decode code 122 = .ok (.iaload, 1) := by decide +kernel
theorem d_law_123 : decode code 123 = .ok (.aload_n 0, 1) := by decide +kernel
theorem d_law_124 : decode code 124 = .ok (.iload 4, 2) := by decide +kernel
theorem d_law_126 : decode code 126 = .ok (.iconst 2, 1) := by decide +kernel
theorem d_law_127 : decode code 127 = .ok (.iadd, 1) := by decide +kernel
theorem d_law_128 : decode code 128 = .ok (.iaload, 1) := by decide +kernel
theorem d_law_129 : decode code 129 = .ok (.invokevirtual 36, 3) := by decide +kernel
theorem d_law_132 : decode code 132 = .ok (.if_icmp .eq 626, 3) := by decide +kernel
theorem d_law_135 : decode code 135 = .ok (.iconst 0, 1) := by decide +kernel
theorem d_law_136 : decode code 136 = .ok (.ireturn, 1) := by decide +kernel
theorem d_law_137 : decode code 137 = .ok (.aload_n 1, 1) := by decide +kernel
theorem d_law_138 : decode code 138 = .ok (.aload_n 0, 1) := by decide +kernel
theorem d_law_139 : decode code 139 = .ok (.iload 4, 2) := by decide +kernel
theorem d_law_141 : decode code 141 = .ok (.iconst 1, 1) := by decide +kernel
theorem d_law_142 : decode code 142 = .ok (.iadd, 1) := by decide +kernel
theorem d_law_143 : decode code 143 = .ok (.iaload, 1) := by decide +kernel
theorem d_law_144 : decode code 144 = .ok (.aload_n 0, 1) := by decide +kernel
theorem d_law_145 : decode code 145 = .ok (.iload 4, 2) := by decide +kernel
theorem d_law_147 : decode code 147 = .ok (.iconst 2, 1) := by decide +kernel
theorem d_law_148 : decode code 148 = .ok (.iadd, 1) := by decide +kernel
theorem d_law_149 : decode code 149 = .ok (.iaload, 1) := by decide +kernel
theorem d_law_150 : decode code 150 = .ok (.invokevirtual 37, 3) := by decide +kernel
theorem d_law_153 : decode code 153 = .ok (.aload_n 2, 1) := by decide +kernel
theorem d_law_154 : decode code 154 = .ok (.aload_n 0, 1) := by decide +kernel
theorem d_law_155 : decode code 155 = .ok (.iload 4, 2) := by decide +kernel
theorem d_law_157 : decode code 157 = .ok (.iconst 1, 1) := by decide +kernel
theorem d_law_158 : decode code 158 = .ok (.iadd, 1) := by decide +kernel
theorem d_law_159 : decode code 159 = .ok (.iaload, 1) := by decide +kernel
theorem d_law_160 : decode code 160 = .ok (.aload_n 0, 1) := by decide +kernel
theorem d_law_161 : decode code 161 = .ok (.iload 4, 2) := by decide +kernel
theorem d_law_163 : decode code 163 = .ok (.iconst 2, 1) := by decide +kernel
theorem d_law_164 : decode code 164 = .ok (.iadd, 1) := by decide +kernel
theorem d_law_165 : decode code 165 = .ok (.iaload, 1) := by decide +kernel
theorem d_law_166 : decode code 166 = .ok (.invokevirtual 40, 3) := by decide +kernel
theorem d_law_169 : decode code 169 = .ok (.if_icmp .eq 589, 3) := by decide +kernel
theorem d_law_172 : decode code 172 = .ok (.iconst 0, 1) := by decide +kernel
theorem d_law_173 : decode code 173 = .ok (.ireturn, 1) := by decide +kernel
theorem d_law_174 : decode code 174 = .ok (.aload_n 1, 1) := by decide +kernel
theorem d_law_175 : decode code 175 = .ok (.aload_n 0, 1) := by decide +kernel
theorem d_law_176 : decode code 176 = .ok (.iload 4, 2) := by decide +kernel
theorem d_law_178 : decode code 178 = .ok (.iconst 1, 1) := by decide +kernel
theorem d_law_179 : decode code 179 = .ok (.iadd, 1) := by decide +kernel
theorem d_law_180 : decode code 180 = .ok (.iaload, 1) := by decide +kernel
theorem d_law_181 : decode code 181 = .ok (.invokevirtual 41, 3) := by decide +kernel
theorem d_law_184 : decode code 184 = .ok (.aload_n 2, 1) := by decide +kernel
theorem d_law_185 : decode code 185 = .ok (.aload_n 0, 1) := by decide +kernel
theorem d_law_186 : decode code 186 = .ok (.iload 4, 2) := by decide +kernel
theorem d_law_188 : decode code 188 = .ok (.iconst 1, 1) := by decide +kernel
theorem d_law_189 : decode code 189 = .ok (.iadd, 1) := by decide +kernel
theorem d_law_190 : decode code 190 = .ok (.iaload, 1) := by decide +kernel
theorem d_law_191 : decode code 191 = .ok (.invokevirtual 44, 3) := by decide +kernel
theorem d_law_194 : decode code 194 = .ok (.if_icmp .eq 564, 3) := by decide +kernel
theorem d_law_197 : decode code 197 = .ok (.iconst 0, 1) := by decide +kernel
theorem d_law_198 : decode code 198 = .ok (.ireturn, 1) := by decide +kernel
theorem d_law_199 : decode code 199 = .ok (.aload_n 1, 1) := by decide +kernel
theorem d_law_200 : decode code 200 = .ok (.aload_n 0, 1) := by decide +kernel
end
section
theorem d_law_201 : decode code 201 = .ok (.iload 4, 2) := by decide +kernel
theorem d_law_203 : decode code 203 = .ok (.iconst 1, 1) := by decide +kernel
theorem d_law_204 : decode code 204 = .ok (.iadd, 1) := by decide +kernel
theorem d_law_205 : decode code 205 = .ok (.iaload, 1) := by decide +kernel
theorem d_law_206 : decode code 206 = .ok (.invokevirtual 45, 3) := by decide +kernel
theorem d_law_209 : decode code 209 = .ok (.aload_n 2, 1) := by decide +kernel
theorem d_law_210 : decode code 210 = .ok (.aload_n 0, 1) := by decide +kernel
theorem d_law_211 : decode code 211 = .ok (.iload 4, 2) := by decide +kernel
theorem d_law_213 : decode code 213 = .ok (.iconst 1, 1) := by decide +kernel
theorem d_law_214 : decode code 214 = .ok (.iadd, 1) := by decide +kernel
theorem d_law_215 : decode code 215 = .ok (.iaload, 1) := by decide +kernel
theorem d_law_216 : decode code 216 = .ok (.invokevirtual 48, 3) := by decide +kernel
theorem d_law_219 : decode code 219 = .ok (.if_icmp .eq 539, 3) := by decide +kernel
theorem d_law_222 : decode code 222 = .ok (.iconst 0, 1) := by decide +kernel
theorem d_law_223 : decode code 223 = .ok (.ireturn, 1) := by decide +kernel
theorem d_law_224 : decode code 224 = .ok (.aload_n 1, 1) := by decide +kernel
theorem d_law_225 : decode code 225 = .ok (.aload_n 0, 1) := by decide +kernel
theorem d_law_226 : decode code 226 = .ok (.iload 4, 2) := by decide +kernel
theorem d_law_228 : decode code 228 = .ok (.iconst 1, 1) := by decide +kernel
theorem d_law_229 : decode code 229 = .ok (.iadd, 1) := by decide +kernel
theorem d_law_230 : decode code 230 = .ok (.iaload, 1) := by decide +kernel
theorem d_law_231 : decode code 231 = .ok (.i2l, 1) := by decide +kernel
theorem d_law_232 : decode code 232 = .ok (.bipush 32, 2) := by decide +kernel
theorem d_law_234 : decode code 234 = .ok (.lshl, 1) := by decide +kernel
theorem d_law_235 : decode code 235 = .ok (.aload_n 0, 1) := by decide +kernel
theorem d_law_236 : decode code 236 = .ok (.iload 4, 2) := by decide +kernel
theorem d_law_238 : decode code 238 = .ok (.iconst 2, 1) := by decide +kernel
theorem d_law_239 : decode code 239 = .ok (.iadd, 1) := by decide +kernel
theorem d_law_240 : decode code 240 = .ok (.iaload, 1) := by decide +kernel
theorem d_law_241 : decode code 241 = .ok (.i2l, 1) := by decide +kernel
theorem d_law_242 : decode code 242 = .ok (.ldc2_w 49, 3) := by decide +kernel
theorem d_law_245 : decode code 245 = .ok (.land, 1) := by decide +kernel
theorem d_law_246 : decode code 246 = .ok (.lor, 1) := by decide +kernel
theorem d_law_247 : decode code 247 = .ok (.aload_n 0, 1) := by decide +kernel
theorem d_law_248 : decode code 248 = .ok (.iload 4, 2) := by decide +kernel
theorem d_law_250 : decode code 250 = .ok (.iconst 3, 1) := by decide +kernel
theorem d_law_251 : decode code 251 = .ok (.iadd, 1) := by decide +kernel
theorem d_law_252 : decode code 252 = .ok (.iaload, 1) := by decide +kernel
theorem d_law_253 : decode code 253 = .ok (.i2l, 1) := by decide +kernel
theorem d_law_254 : decode code 254 = .ok (.bipush 32, 2) := by decide +kernel
theorem d_law_256 : decode code 256 = .ok (.lshl, 1) := by decide +kernel
theorem d_law_257 : decode code 257 = .ok (.aload_n 0, 1) := by decide +kernel
theorem d_law_258 : decode code 258 = .ok (.iload 4, 2) := by decide +kernel
theorem d_law_260 : decode code 260 = .ok (.iconst 4, 1) := by decide +kernel
theorem d_law_261 : decode code 261 = .ok (.iadd, 1) := by decide +kernel
theorem d_law_262 : decode code 262 = .ok (.iaload, 1) := by decide +kernel
theorem d_law_263 : decode code 263 = .ok (.i2l, 1) := by decide +kernel
theorem d_law_264 : decode code 264 = .ok (.ldc2_w 49, 3) := by decide +kernel
theorem d_law_267 : decode code 267 = .ok (.land, 1) := by decide +kernel
theorem d_law_268 : decode code 268 = .ok (.lor, 1) := by decide +kernel
theorem d_law_269 : decode code 269 = .ok (.aload_n 0, 1) := by decide +kernel
theorem d_law_270 : decode code 270 = .ok (.iload 4, 2) := by decide +kernel
theorem d_law_272 : decode code 272 = .ok (.iconst 5, 1) := by decide +kernel
theorem d_law_273 : decode code 273 = .ok (.iadd, 1) := by decide +kernel
theorem d_law_274 : decode code 274 = .ok (.iaload, 1) := by decide +kernel
theorem d_law_275 : decode code 275 = .ok (.i2l, 1) := by decide +kernel
theorem d_law_276 : decode code 276 = .ok (.bipush 32, 2) := by decide +kernel
theorem d_law_278 : decode code 278 = .ok (.lshl, 1) := by decide +kernel
theorem d_law_279 : decode code 279 = .ok (.aload_n 0, 1) := by decide +kernel
theorem d_law_280 : decode code 280 = .ok (.iload 4, 2) := by decide +kernel
theorem d_law_282 : decode code 282 = .ok (.bipush 6, 2) := by decide +kernel
theorem d_law_284 : decode code 284 = .ok (.iadd, 1) := by decide +kernel
theorem d_law_285 : decode code 285 = .ok (.iaload, 1) := by decide +kernel
theorem d_law_286 : decode code 286 = .ok (.i2l, 1) := by decide +kernel
theorem d_law_287 : decode code 287 = .ok (.ldc2_w 49, 3) := by decide +kernel
theorem d_law_290 : decode code 290 = .ok (.land, 1) := by decide +kernel
theorem d_law_291 : decode code 291 = .ok (.lor, 1) := by decide +kernel
theorem d_law_292 : decode code 292 = .ok (.aload_n 3, 1) := by decide +kernel
theorem d_law_293 : decode code 293 = .ok (.invokestatic 51, 3) := by decide +kernel
theorem d_law_296 : decode code 296 = .ok (.istore 5, 2) := by decide +kernel
theorem d_law_298 : decode code 298 = .ok (.aload_n 2, 1) := by decide +kernel
theorem d_law_299 : decode code 299 = .ok (.aload_n 0, 1) := by decide +kernel
theorem d_law_300 : decode code 300 = .ok (.iload 4, 2) := by decide +kernel
theorem d_law_302 : decode code 302 = .ok (.iconst 1, 1) := by decide +kernel
theorem d_law_303 : decode code 303 = .ok (.iadd, 1) := by decide +kernel
theorem d_law_304 : decode code 304 = .ok (.iaload, 1) := by decide +kernel
theorem d_law_305 : decode code 305 = .ok (.i2l, 1) := by decide +kernel
theorem d_law_306 : decode code 306 = .ok (.bipush 32, 2) := by decide +kernel
theorem d_law_308 : decode code 308 = .ok (.lshl, 1) := by decide +kernel
theorem d_law_309 : decode code 309 = .ok (.aload_n 0, 1) := by decide +kernel
theorem d_law_310 : decode code 310 = .ok (.iload 4, 2) := by decide +kernel
theorem d_law_312 : decode code 312 = .ok (.iconst 2, 1) := by decide +kernel
theorem d_law_313 : decode code 313 = .ok (.iadd, 1) := by decide +kernel
theorem d_law_314 : decode code 314 = .ok (.iaload, 1) := by decide +kernel
theorem d_law_315 : decode code 315 = .ok (.i2l, 1) := by decide +kernel
theorem d_law_316 : decode code 316 = .ok (.ldc2_w 49, 3) := by decide +kernel
theorem d_law_319 : decode code 319 = .ok (.land, 1) := by decide +kernel
theorem d_law_320 : decode code 320 = .ok (.lor, 1) := by decide +kernel
theorem d_law_321 : decode code 321 = .ok (.aload_n 0, 1) := by decide +kernel
theorem d_law_322 : decode code 322 = .ok (.iload 4, 2) := by decide +kernel
theorem d_law_324 : decode code 324 = .ok (.iconst 3, 1) := by decide +kernel
theorem d_law_325 : decode code 325 = .ok (.iadd, 1) := by decide +kernel
theorem d_law_326 : decode code 326 = .ok (.iaload, 1) := by decide +kernel
theorem d_law_327 : decode code 327 = .ok (.i2l, 1) := by decide +kernel
theorem d_law_328 : decode code 328 = .ok (.bipush 32, 2) := by decide +kernel
theorem d_law_330 : decode code 330 = .ok (.lshl, 1) := by decide +kernel
theorem d_law_331 : decode code 331 = .ok (.aload_n 0, 1) := by decide +kernel
theorem d_law_332 : decode code 332 = .ok (.iload 4, 2) := by decide +kernel
end
section
theorem d_law_334 : decode code 334 = .ok (.iconst 4, 1) := by decide +kernel
theorem d_law_335 : decode code 335 = .ok (.iadd, 1) := by decide +kernel
theorem d_law_336 : decode code 336 = .ok (.iaload, 1) := by decide +kernel
theorem d_law_337 : decode code 337 = .ok (.i2l, 1) := by decide +kernel
theorem d_law_338 : decode code 338 = .ok (.ldc2_w 49, 3) := by decide +kernel
theorem d_law_341 : decode code 341 = .ok (.land, 1) := by decide +kernel
theorem d_law_342 : decode code 342 = .ok (.lor, 1) := by decide +kernel
theorem d_law_343 : decode code 343 = .ok (.aload_n 0, 1) := by decide +kernel
theorem d_law_344 : decode code 344 = .ok (.iload 4, 2) := by decide +kernel
theorem d_law_346 : decode code 346 = .ok (.iconst 5, 1) := by decide +kernel
theorem d_law_347 : decode code 347 = .ok (.iadd, 1) := by decide +kernel
theorem d_law_348 : decode code 348 = .ok (.iaload, 1) := by decide +kernel
theorem d_law_349 : decode code 349 = .ok (.i2l, 1) := by decide +kernel
theorem d_law_350 : decode code 350 = .ok (.bipush 32, 2) := by decide +kernel
theorem d_law_352 : decode code 352 = .ok (.lshl, 1) := by decide +kernel
theorem d_law_353 : decode code 353 = .ok (.aload_n 0, 1) := by decide +kernel
theorem d_law_354 : decode code 354 = .ok (.iload 4, 2) := by decide +kernel
theorem d_law_356 : decode code 356 = .ok (.bipush 6, 2) := by decide +kernel
theorem d_law_358 : decode code 358 = .ok (.iadd, 1) := by decide +kernel
theorem d_law_359 : decode code 359 = .ok (.iaload, 1) := by decide +kernel
theorem d_law_360 : decode code 360 = .ok (.i2l, 1) := by decide +kernel
theorem d_law_361 : decode code 361 = .ok (.ldc2_w 49, 3) := by decide +kernel
theorem d_law_364 : decode code 364 = .ok (.land, 1) := by decide +kernel
theorem d_law_365 : decode code 365 = .ok (.lor, 1) := by decide +kernel
theorem d_law_366 : decode code 366 = .ok (.invokevirtual 56, 3) := by decide +kernel
theorem d_law_369 : decode code 369 = .ok (.lstore 6, 2) := by decide +kernel
theorem d_law_371 : decode code 371 = .ok (.aload_n 2, 1) := by decide +kernel
theorem d_law_372 : decode code 372 = .ok (.invokevirtual 57, 3) := by decide +kernel
theorem d_law_375 : decode code 375 = .ok (.iload 5, 2) := by decide +kernel
theorem d_law_377 : decode code 377 = .ok (.if_icmp .eq 5, 3) := by decide +kernel
theorem d_law_380 : decode code 380 = .ok (.iconst 0, 1) := by decide +kernel
theorem d_law_381 : decode code 381 = .ok (.ireturn, 1) := by decide +kernel
theorem d_law_382 : decode code 382 = .ok (.iload 5, 2) := by decide +kernel
theorem d_law_384 : decode code 384 = .ok (.ifCond .ne 14, 3) := by decide +kernel
theorem d_law_387 : decode code 387 = .ok (.aload_n 3, 1) := by decide +kernel
theorem d_law_388 : decode code 388 = .ok (.iconst 0, 1) := by decide +kernel
theorem d_law_389 : decode code 389 = .ok (.laload, 1) := by decide +kernel
theorem d_law_390 : decode code 390 = .ok (.lload 6, 2) := by decide +kernel
theorem d_law_392 : decode code 392 = .ok (.lcmp, 1) := by decide +kernel
theorem d_law_393 : decode code 393 = .ok (.ifCond .eq 5, 3) := by decide +kernel
theorem d_law_396 : decode code 396 = .ok (.iconst 0, 1) := by decide +kernel
theorem d_law_397 : decode code 397 = .ok (.ireturn, 1) := by decide +kernel
theorem d_law_398 : decode code 398 = .ok (.goto 360, 3) := by decide +kernel
theorem d_law_401 : decode code 401 = .ok (.aload_n 1, 1) := by decide +kernel
theorem d_law_402 : decode code 402 = .ok (.aload_n 0, 1) := by decide +kernel
theorem d_law_403 : decode code 403 = .ok (.iload 4, 2) := by decide +kernel
theorem d_law_405 : decode code 405 = .ok (.iconst 1, 1) := by decide +kernel
theorem d_law_406 : decode code 406 = .ok (.iadd, 1) := by decide +kernel
theorem d_law_407 : decode code 407 = .ok (.iaload, 1) := by decide +kernel
theorem d_law_408 : decode code 408 = .ok (.aload_n 0, 1) := by decide +kernel
theorem d_law_409 : decode code 409 = .ok (.iload 4, 2) := by decide +kernel
theorem d_law_411 : decode code 411 = .ok (.iconst 2, 1) := by decide +kernel
theorem d_law_412 : decode code 412 = .ok (.iadd, 1) := by decide +kernel
theorem d_law_413 : decode code 413 = .ok (.iaload, 1) := by decide +kernel
theorem d_law_414 : decode code 414 = .ok (.aload_n 0, 1) := by decide +kernel
theorem d_law_415 : decode code 415 = .ok (.iload 4, 2) := by decide +kernel
theorem d_law_417 : decode code 417 = .ok (.iconst 3, 1) := by decide +kernel
theorem d_law_418 : decode code 418 = .ok (.iadd, 1) := by decide +kernel
theorem d_law_419 : decode code 419 = .ok (.iaload, 1) := by decide +kernel
theorem d_law_420 : decode code 420 = .ok (.i2l, 1) := by decide +kernel
theorem d_law_421 : decode code 421 = .ok (.bipush 32, 2) := by decide +kernel
theorem d_law_423 : decode code 423 = .ok (.lshl, 1) := by decide +kernel
theorem d_law_424 : decode code 424 = .ok (.aload_n 0, 1) := by decide +kernel
theorem d_law_425 : decode code 425 = .ok (.iload 4, 2) := by decide +kernel
theorem d_law_427 : decode code 427 = .ok (.iconst 4, 1) := by decide +kernel
theorem d_law_428 : decode code 428 = .ok (.iadd, 1) := by decide +kernel
theorem d_law_429 : decode code 429 = .ok (.iaload, 1) := by decide +kernel
theorem d_law_430 : decode code 430 = .ok (.i2l, 1) := by decide +kernel
theorem d_law_431 : decode code 431 = .ok (.ldc2_w 49, 3) := by decide +kernel
theorem d_law_434 : decode code 434 = .ok (.land, 1) := by decide +kernel
theorem d_law_435 : decode code 435 = .ok (.lor, 1) := by decide +kernel
theorem d_law_436 : decode code 436 = .ok (.aload_n 0, 1) := by decide +kernel
theorem d_law_437 : decode code 437 = .ok (.iload 4, 2) := by decide +kernel
theorem d_law_439 : decode code 439 = .ok (.iconst 5, 1) := by decide +kernel
theorem d_law_440 : decode code 440 = .ok (.iadd, 1) := by decide +kernel
theorem d_law_441 : decode code 441 = .ok (.iaload, 1) := by decide +kernel
theorem d_law_442 : decode code 442 = .ok (.i2l, 1) := by decide +kernel
theorem d_law_443 : decode code 443 = .ok (.bipush 32, 2) := by decide +kernel
theorem d_law_445 : decode code 445 = .ok (.lshl, 1) := by decide +kernel
theorem d_law_446 : decode code 446 = .ok (.aload_n 0, 1) := by decide +kernel
theorem d_law_447 : decode code 447 = .ok (.iload 4, 2) := by decide +kernel
theorem d_law_449 : decode code 449 = .ok (.bipush 6, 2) := by decide +kernel
theorem d_law_451 : decode code 451 = .ok (.iadd, 1) := by decide +kernel
theorem d_law_452 : decode code 452 = .ok (.iaload, 1) := by decide +kernel
theorem d_law_453 : decode code 453 = .ok (.i2l, 1) := by decide +kernel
theorem d_law_454 : decode code 454 = .ok (.ldc2_w 49, 3) := by decide +kernel
theorem d_law_457 : decode code 457 = .ok (.land, 1) := by decide +kernel
theorem d_law_458 : decode code 458 = .ok (.lor, 1) := by decide +kernel
theorem d_law_459 : decode code 459 = .ok (.aload_n 3, 1) := by decide +kernel
theorem d_law_460 : decode code 460 = .ok (.invokestatic 61, 3) := by decide +kernel
theorem d_law_463 : decode code 463 = .ok (.istore 5, 2) := by decide +kernel
theorem d_law_465 : decode code 465 = .ok (.aload_n 2, 1) := by decide +kernel
theorem d_law_466 : decode code 466 = .ok (.aload_n 0, 1) := by decide +kernel
theorem d_law_467 : decode code 467 = .ok (.iload 4, 2) := by decide +kernel
theorem d_law_469 : decode code 469 = .ok (.iconst 1, 1) := by decide +kernel
theorem d_law_470 : decode code 470 = .ok (.iadd, 1) := by decide +kernel
theorem d_law_471 : decode code 471 = .ok (.iaload, 1) := by decide +kernel
theorem d_law_472 : decode code 472 = .ok (.aload_n 0, 1) := by decide +kernel
end
section
theorem d_law_473 : decode code 473 = .ok (.iload 4, 2) := by decide +kernel
theorem d_law_475 : decode code 475 = .ok (.iconst 2, 1) := by decide +kernel
theorem d_law_476 : decode code 476 = .ok (.iadd, 1) := by decide +kernel
theorem d_law_477 : decode code 477 = .ok (.iaload, 1) := by decide +kernel
theorem d_law_478 : decode code 478 = .ok (.aload_n 0, 1) := by decide +kernel
theorem d_law_479 : decode code 479 = .ok (.iload 4, 2) := by decide +kernel
theorem d_law_481 : decode code 481 = .ok (.iconst 3, 1) := by decide +kernel
theorem d_law_482 : decode code 482 = .ok (.iadd, 1) := by decide +kernel
theorem d_law_483 : decode code 483 = .ok (.iaload, 1) := by decide +kernel
theorem d_law_484 : decode code 484 = .ok (.i2l, 1) := by decide +kernel
theorem d_law_485 : decode code 485 = .ok (.bipush 32, 2) := by decide +kernel
theorem d_law_487 : decode code 487 = .ok (.lshl, 1) := by decide +kernel
theorem d_law_488 : decode code 488 = .ok (.aload_n 0, 1) := by decide +kernel
theorem d_law_489 : decode code 489 = .ok (.iload 4, 2) := by decide +kernel
theorem d_law_491 : decode code 491 = .ok (.iconst 4, 1) := by decide +kernel
theorem d_law_492 : decode code 492 = .ok (.iadd, 1) := by decide +kernel
theorem d_law_493 : decode code 493 = .ok (.iaload, 1) := by decide +kernel
theorem d_law_494 : decode code 494 = .ok (.i2l, 1) := by decide +kernel
theorem d_law_495 : decode code 495 = .ok (.ldc2_w 49, 3) := by decide +kernel
theorem d_law_498 : decode code 498 = .ok (.land, 1) := by decide +kernel
theorem d_law_499 : decode code 499 = .ok (.lor, 1) := by decide +kernel
theorem d_law_500 : decode code 500 = .ok (.aload_n 0, 1) := by decide +kernel
theorem d_law_501 : decode code 501 = .ok (.iload 4, 2) := by decide +kernel
theorem d_law_503 : decode code 503 = .ok (.iconst 5, 1) := by decide +kernel
theorem d_law_504 : decode code 504 = .ok (.iadd, 1) := by decide +kernel
theorem d_law_505 : decode code 505 = .ok (.iaload, 1) := by decide +kernel
theorem d_law_506 : decode code 506 = .ok (.i2l, 1) := by decide +kernel
theorem d_law_507 : decode code 507 = .ok (.bipush 32, 2) := by decide +kernel
theorem d_law_509 : decode code 509 = .ok (.lshl, 1) := by decide +kernel
theorem d_law_510 : decode code 510 = .ok (.aload_n 0, 1) := by decide +kernel
theorem d_law_511 : decode code 511 = .ok (.iload 4, 2) := by decide +kernel
theorem d_law_513 : decode code 513 = .ok (.bipush 6, 2) := by decide +kernel
theorem d_law_515 : decode code 515 = .ok (.iadd, 1) := by decide +kernel
theorem d_law_516 : decode code 516 = .ok (.iaload, 1) := by decide +kernel
theorem d_law_517 : decode code 517 = .ok (.i2l, 1) := by decide +kernel
theorem d_law_518 : decode code 518 = .ok (.ldc2_w 49, 3) := by decide +kernel
theorem d_law_521 : decode code 521 = .ok (.land, 1) := by decide +kernel
theorem d_law_522 : decode code 522 = .ok (.lor, 1) := by decide +kernel
theorem d_law_523 : decode code 523 = .ok (.invokevirtual 64, 3) := by decide +kernel
theorem d_law_526 : decode code 526 = .ok (.istore 6, 2) := by decide +kernel
theorem d_law_528 : decode code 528 = .ok (.aload_n 2, 1) := by decide +kernel
theorem d_law_529 : decode code 529 = .ok (.invokevirtual 57, 3) := by decide +kernel
theorem d_law_532 : decode code 532 = .ok (.iload 5, 2) := by decide +kernel
theorem d_law_534 : decode code 534 = .ok (.if_icmp .eq 5, 3) := by decide +kernel
theorem d_law_537 : decode code 537 = .ok (.iconst 0, 1) := by decide +kernel
theorem d_law_538 : decode code 538 = .ok (.ireturn, 1) := by decide +kernel
theorem d_law_539 : decode code 539 = .ok (.iload 5, 2) := by decide +kernel
theorem d_law_541 : decode code 541 = .ok (.ifCond .ne 15, 3) := by decide +kernel
theorem d_law_544 : decode code 544 = .ok (.aload_n 3, 1) := by decide +kernel
theorem d_law_545 : decode code 545 = .ok (.iconst 0, 1) := by decide +kernel
theorem d_law_546 : decode code 546 = .ok (.laload, 1) := by decide +kernel
theorem d_law_547 : decode code 547 = .ok (.iload 6, 2) := by decide +kernel
theorem d_law_549 : decode code 549 = .ok (.i2l, 1) := by decide +kernel
theorem d_law_550 : decode code 550 = .ok (.lcmp, 1) := by decide +kernel
theorem d_law_551 : decode code 551 = .ok (.ifCond .eq 5, 3) := by decide +kernel
theorem d_law_554 : decode code 554 = .ok (.iconst 0, 1) := by decide +kernel
theorem d_law_555 : decode code 555 = .ok (.ireturn, 1) := by decide +kernel
theorem d_law_556 : decode code 556 = .ok (.goto 202, 3) := by decide +kernel
theorem d_law_559 : decode code 559 = .ok (.aload_n 1, 1) := by decide +kernel
theorem d_law_560 : decode code 560 = .ok (.aload_n 0, 1) := by decide +kernel
theorem d_law_561 : decode code 561 = .ok (.iload 4, 2) := by decide +kernel
theorem d_law_563 : decode code 563 = .ok (.iconst 1, 1) := by decide +kernel
theorem d_law_564 : decode code 564 = .ok (.iadd, 1) := by decide +kernel
theorem d_law_565 : decode code 565 = .ok (.iaload, 1) := by decide +kernel
theorem d_law_566 : decode code 566 = .ok (.invokevirtual 65, 3) := by decide +kernel
theorem d_law_569 : decode code 569 = .ok (.aload_n 2, 1) := by decide +kernel
theorem d_law_570 : decode code 570 = .ok (.aload_n 0, 1) := by decide +kernel
theorem d_law_571 : decode code 571 = .ok (.iload 4, 2) := by decide +kernel
theorem d_law_573 : decode code 573 = .ok (.iconst 1, 1) := by decide +kernel
theorem d_law_574 : decode code 574 = .ok (.iadd, 1) := by decide +kernel
theorem d_law_575 : decode code 575 = .ok (.iaload, 1) := by decide +kernel
theorem d_law_576 : decode code 576 = .ok (.invokevirtual 68, 3) := by decide +kernel
theorem d_law_579 : decode code 579 = .ok (.if_icmp .eq 179, 3) := by decide +kernel
theorem d_law_582 : decode code 582 = .ok (.iconst 0, 1) := by decide +kernel
theorem d_law_583 : decode code 583 = .ok (.ireturn, 1) := by decide +kernel
theorem d_law_584 : decode code 584 = .ok (.aload_n 1, 1) := by decide +kernel
theorem d_law_585 : decode code 585 = .ok (.aload_n 0, 1) := by decide +kernel
theorem d_law_586 : decode code 586 = .ok (.iload 4, 2) := by decide +kernel
theorem d_law_588 : decode code 588 = .ok (.iconst 1, 1) := by decide +kernel
theorem d_law_589 : decode code 589 = .ok (.iadd, 1) := by decide +kernel
theorem d_law_590 : decode code 590 = .ok (.iaload, 1) := by decide +kernel
theorem d_law_591 : decode code 591 = .ok (.aload_n 3, 1) := by decide +kernel
theorem d_law_592 : decode code 592 = .ok (.invokestatic 69, 3) := by decide +kernel
theorem d_law_595 : decode code 595 = .ok (.istore 5, 2) := by decide +kernel
theorem d_law_597 : decode code 597 = .ok (.aload_n 2, 1) := by decide +kernel
theorem d_law_598 : decode code 598 = .ok (.aload_n 0, 1) := by decide +kernel
theorem d_law_599 : decode code 599 = .ok (.iload 4, 2) := by decide +kernel
theorem d_law_601 : decode code 601 = .ok (.iconst 1, 1) := by decide +kernel
theorem d_law_602 : decode code 602 = .ok (.iadd, 1) := by decide +kernel
theorem d_law_603 : decode code 603 = .ok (.iaload, 1) := by decide +kernel
theorem d_law_604 : decode code 604 = .ok (.invokevirtual 72, 3) := by decide +kernel
theorem d_law_607 : decode code 607 = .ok (.istore 6, 2) := by decide +kernel
theorem d_law_609 : decode code 609 = .ok (.aload_n 2, 1) := by decide +kernel
theorem d_law_610 : decode code 610 = .ok (.invokevirtual 57, 3) := by decide +kernel
theorem d_law_613 : decode code 613 = .ok (.iload 5, 2) := by decide +kernel
theorem d_law_615 : decode code 615 = .ok (.if_icmp .eq 5, 3) := by decide +kernel
theorem d_law_618 : decode code 618 = .ok (.iconst 0, 1) := by decide +kernel
theorem d_law_619 : decode code 619 = .ok (.ireturn, 1) := by decide +kernel
end
section
theorem d_law_620 : decode code 620 = .ok (.iload 5, 2) := by decide +kernel
theorem d_law_622 : decode code 622 = .ok (.ifCond .ne 15, 3) := by decide +kernel
theorem d_law_625 : decode code 625 = .ok (.aload_n 3, 1) := by decide +kernel
theorem d_law_626 : decode code 626 = .ok (.iconst 0, 1) := by decide +kernel
theorem d_law_627 : decode code 627 = .ok (.laload, 1) := by decide +kernel
theorem d_law_628 : decode code 628 = .ok (.iload 6, 2) := by decide +kernel
theorem d_law_630 : decode code 630 = .ok (.i2l, 1) := by decide +kernel
theorem d_law_631 : decode code 631 = .ok (.lcmp, 1) := by decide +kernel
theorem d_law_632 : decode code 632 = .ok (.ifCond .eq 5, 3) := by decide +kernel
theorem d_law_635 : decode code 635 = .ok (.iconst 0, 1) := by decide +kernel
theorem d_law_636 : decode code 636 = .ok (.ireturn, 1) := by decide +kernel
theorem d_law_637 : decode code 637 = .ok (.goto 121, 3) := by decide +kernel
theorem d_law_640 : decode code 640 = .ok (.aload_n 1, 1) := by decide +kernel
theorem d_law_641 : decode code 641 = .ok (.aload_n 0, 1) := by decide +kernel
theorem d_law_642 : decode code 642 = .ok (.iload 4, 2) := by decide +kernel
theorem d_law_644 : decode code 644 = .ok (.iconst 1, 1) := by decide +kernel
theorem d_law_645 : decode code 645 = .ok (.iadd, 1) := by decide +kernel
theorem d_law_646 : decode code 646 = .ok (.iaload, 1) := by decide +kernel
theorem d_law_647 : decode code 647 = .ok (.aload_n 0, 1) := by decide +kernel
theorem d_law_648 : decode code 648 = .ok (.iload 4, 2) := by decide +kernel
theorem d_law_650 : decode code 650 = .ok (.iconst 2, 1) := by decide +kernel
theorem d_law_651 : decode code 651 = .ok (.iadd, 1) := by decide +kernel
theorem d_law_652 : decode code 652 = .ok (.iaload, 1) := by decide +kernel
theorem d_law_653 : decode code 653 = .ok (.aload_n 3, 1) := by decide +kernel
theorem d_law_654 : decode code 654 = .ok (.invokestatic 73, 3) := by decide +kernel
theorem d_law_657 : decode code 657 = .ok (.istore 5, 2) := by decide +kernel
theorem d_law_659 : decode code 659 = .ok (.aload_n 2, 1) := by decide +kernel
theorem d_law_660 : decode code 660 = .ok (.aload_n 0, 1) := by decide +kernel
theorem d_law_661 : decode code 661 = .ok (.iload 4, 2) := by decide +kernel
theorem d_law_663 : decode code 663 = .ok (.iconst 1, 1) := by decide +kernel
theorem d_law_664 : decode code 664 = .ok (.iadd, 1) := by decide +kernel
theorem d_law_665 : decode code 665 = .ok (.iaload, 1) := by decide +kernel
theorem d_law_666 : decode code 666 = .ok (.aload_n 0, 1) := by decide +kernel
theorem d_law_667 : decode code 667 = .ok (.iload 4, 2) := by decide +kernel
theorem d_law_669 : decode code 669 = .ok (.iconst 2, 1) := by decide +kernel
theorem d_law_670 : decode code 670 = .ok (.iadd, 1) := by decide +kernel
theorem d_law_671 : decode code 671 = .ok (.iaload, 1) := by decide +kernel
theorem d_law_672 : decode code 672 = .ok (.invokevirtual 76, 3) := by decide +kernel
theorem d_law_675 : decode code 675 = .ok (.istore 6, 2) := by decide +kernel
theorem d_law_677 : decode code 677 = .ok (.aload_n 2, 1) := by decide +kernel
theorem d_law_678 : decode code 678 = .ok (.invokevirtual 57, 3) := by decide +kernel
theorem d_law_681 : decode code 681 = .ok (.iload 5, 2) := by decide +kernel
theorem d_law_683 : decode code 683 = .ok (.if_icmp .eq 5, 3) := by decide +kernel
theorem d_law_686 : decode code 686 = .ok (.iconst 0, 1) := by decide +kernel
theorem d_law_687 : decode code 687 = .ok (.ireturn, 1) := by decide +kernel
theorem d_law_688 : decode code 688 = .ok (.iload 5, 2) := by decide +kernel
theorem d_law_690 : decode code 690 = .ok (.ifCond .ne 15, 3) := by decide +kernel
theorem d_law_693 : decode code 693 = .ok (.aload_n 3, 1) := by decide +kernel
theorem d_law_694 : decode code 694 = .ok (.iconst 0, 1) := by decide +kernel
theorem d_law_695 : decode code 695 = .ok (.laload, 1) := by decide +kernel
theorem d_law_696 : decode code 696 = .ok (.iload 6, 2) := by decide +kernel
theorem d_law_698 : decode code 698 = .ok (.i2l, 1) := by decide +kernel
theorem d_law_699 : decode code 699 = .ok (.lcmp, 1) := by decide +kernel
theorem d_law_700 : decode code 700 = .ok (.ifCond .eq 5, 3) := by decide +kernel
theorem d_law_703 : decode code 703 = .ok (.iconst 0, 1) := by decide +kernel
theorem d_law_704 : decode code 704 = .ok (.ireturn, 1) := by decide +kernel
theorem d_law_705 : decode code 705 = .ok (.goto 53, 3) := by decide +kernel
theorem d_law_708 : decode code 708 = .ok (.aload_n 1, 1) := by decide +kernel
theorem d_law_709 : decode code 709 = .ok (.aload_n 0, 1) := by decide +kernel
theorem d_law_710 : decode code 710 = .ok (.iload 4, 2) := by decide +kernel
theorem d_law_712 : decode code 712 = .ok (.iconst 1, 1) := by decide +kernel
theorem d_law_713 : decode code 713 = .ok (.iadd, 1) := by decide +kernel
theorem d_law_714 : decode code 714 = .ok (.iaload, 1) := by decide +kernel
theorem d_law_715 : decode code 715 = .ok (.invokevirtual 77, 3) := by decide +kernel
theorem d_law_718 : decode code 718 = .ok (.aload_n 2, 1) := by decide +kernel
theorem d_law_719 : decode code 719 = .ok (.aload_n 0, 1) := by decide +kernel
theorem d_law_720 : decode code 720 = .ok (.iload 4, 2) := by decide +kernel
theorem d_law_722 : decode code 722 = .ok (.iconst 1, 1) := by decide +kernel
theorem d_law_723 : decode code 723 = .ok (.iadd, 1) := by decide +kernel
theorem d_law_724 : decode code 724 = .ok (.iaload, 1) := by decide +kernel
theorem d_law_725 : decode code 725 = .ok (.invokevirtual 80, 3) := by decide +kernel
theorem d_law_728 : decode code 728 = .ok (.if_icmp .eq 30, 3) := by decide +kernel
theorem d_law_731 : decode code 731 = .ok (.iconst 0, 1) := by decide +kernel
theorem d_law_732 : decode code 732 = .ok (.ireturn, 1) := by decide +kernel
theorem d_law_733 : decode code 733 = .ok (.aload_n 1, 1) := by decide +kernel
theorem d_law_734 : decode code 734 = .ok (.aload_n 0, 1) := by decide +kernel
theorem d_law_735 : decode code 735 = .ok (.iload 4, 2) := by decide +kernel
theorem d_law_737 : decode code 737 = .ok (.iconst 1, 1) := by decide +kernel
theorem d_law_738 : decode code 738 = .ok (.iadd, 1) := by decide +kernel
theorem d_law_739 : decode code 739 = .ok (.iaload, 1) := by decide +kernel
theorem d_law_740 : decode code 740 = .ok (.invokevirtual 81, 3) := by decide +kernel
theorem d_law_743 : decode code 743 = .ok (.aload_n 2, 1) := by decide +kernel
theorem d_law_744 : decode code 744 = .ok (.aload_n 0, 1) := by decide +kernel
theorem d_law_745 : decode code 745 = .ok (.iload 4, 2) := by decide +kernel
theorem d_law_747 : decode code 747 = .ok (.iconst 1, 1) := by decide +kernel
theorem d_law_748 : decode code 748 = .ok (.iadd, 1) := by decide +kernel
theorem d_law_749 : decode code 749 = .ok (.iaload, 1) := by decide +kernel
theorem d_law_750 : decode code 750 = .ok (.invokevirtual 84, 3) := by decide +kernel
theorem d_law_753 : decode code 753 = .ok (.if_icmp .eq 5, 3) := by decide +kernel
theorem d_law_756 : decode code 756 = .ok (.iconst 0, 1) := by decide +kernel
theorem d_law_757 : decode code 757 = .ok (.ireturn, 1) := by decide +kernel
theorem d_law_758 : decode code 758 = .ok (.iinc 4 7, 3) := by decide +kernel
theorem d_law_761 : decode code 761 = .ok (.goto (-738), 3) := by decide +kernel
theorem d_law_764 : decode code 764 = .ok (.iconst 1, 1) := by decide +kernel
theorem d_law_765 : decode code 765 = .ok (.ireturn, 1) := by decide +kernel
theorem g_law_29 : GoodIn lw_tbl w_F_init := ws_goodL (ex := []) rfl ic_F_init rfl
theorem g_law_32 : GoodIn lw_tbl w_M_init := ws_goodL (ex := []) rfl ic_M_init rfl
set_option maxRecDepth 20000 in
theorem g_law_33 : GoodIn lw_tbl (wsV R_L 33 R_F y_F_product w_F_product) := ws_goodL (by decide +kernel) ic_F_product rfl
set_option maxRecDepth 20000 in
theorem g_law_36 : GoodIn lw_tbl (wsV R_L 36 R_M y_M_product w_M_product) := ws_goodL (by decide +kernel) ic_M_product rfl
set_option maxRecDepth 20000 in
theorem g_law_37 : GoodIn lw_tbl (wsV R_L 37 R_F y_F_quotient w_F_quotient) := ws_goodL (by decide +kernel) ic_F_quotient rfl
set_option maxRecDepth 20000 in
theorem g_law_40 : GoodIn lw_tbl (wsV R_L 40 R_M y_M_quotient w_M_quotient) := ws_goodL (by decide +kernel) ic_M_quotient rfl
set_option maxRecDepth 20000 in
theorem g_law_41 : GoodIn lw_tbl (wsV R_L 41 R_F y_F_root w_F_root) := ws_goodL (by decide +kernel) ic_F_root rfl
set_option maxRecDepth 20000 in
theorem g_law_44 : GoodIn lw_tbl (wsV R_L 44 R_M y_M_root w_M_root) := ws_goodL (by decide +kernel) ic_M_root rfl
set_option maxRecDepth 20000 in
theorem g_law_45 : GoodIn lw_tbl (wsV R_L 45 R_F y_F_oneByRoot w_F_oneByRoot) := ws_goodL (by decide +kernel) ic_F_oneByRoot rfl
set_option maxRecDepth 20000 in
theorem g_law_48 : GoodIn lw_tbl (wsV R_L 48 R_M y_M_oneByRoot w_M_oneByRoot) := ws_goodL (by decide +kernel) ic_M_oneByRoot rfl
set_option maxRecDepth 20000 in
theorem g_law_51 : GoodIn lw_tbl (wsS R_L 51 y_L_ratio w_L_ratio) := ws_goodL (by decide +kernel) ic_L_ratio rfl
set_option maxRecDepth 20000 in
theorem g_law_56 : GoodIn lw_tbl (wsV R_L 56 R_M y_M_ratio w_M_ratio) := ws_goodL (by decide +kernel) ic_M_ratio rfl
set_option maxRecDepth 20000 in
theorem g_law_57 : GoodIn lw_tbl (wsV R_L 57 R_M y_M_thrown w_M_thrown) := ws_goodL (by decide +kernel) ic_M_thrown rfl
set_option maxRecDepth 20000 in
theorem g_law_61 : GoodIn lw_tbl (wsS R_L 61 y_L_between w_L_between) := ws_goodL (by decide +kernel) ic_L_between rfl
set_option maxRecDepth 20000 in
theorem g_law_64 : GoodIn lw_tbl (wsV R_L 64 R_M y_M_between w_M_between) := ws_goodL (by decide +kernel) ic_M_between rfl
set_option maxRecDepth 20000 in
theorem g_law_65 : GoodIn lw_tbl (wsV R_L 65 R_F y_F_channel w_F_channel) := ws_goodL (by decide +kernel) ic_F_channel rfl
set_option maxRecDepth 20000 in
theorem g_law_68 : GoodIn lw_tbl (wsV R_L 68 R_M y_M_channel w_M_channel) := ws_goodL (by decide +kernel) ic_M_channel rfl
set_option maxRecDepth 20000 in
theorem g_law_69 : GoodIn lw_tbl (wsS R_L 69 y_L_fixed w_L_fixed) := ws_goodL (by decide +kernel) ic_L_fixed rfl
set_option maxRecDepth 20000 in
theorem g_law_72 : GoodIn lw_tbl (wsV R_L 72 R_M y_M_fixed w_M_fixed) := ws_goodL (by decide +kernel) ic_M_fixed rfl
set_option maxRecDepth 20000 in
theorem g_law_73 : GoodIn lw_tbl (wsS R_L 73 y_L_shade w_L_shade) := ws_goodL (by decide +kernel) ic_L_shade rfl
set_option maxRecDepth 20000 in
theorem g_law_76 : GoodIn lw_tbl (wsV R_L 76 R_M y_M_shade w_M_shade) := ws_goodL (by decide +kernel) ic_M_shade rfl
set_option maxRecDepth 20000 in
theorem g_law_77 : GoodIn lw_tbl (wsV R_L 77 R_F y_F_fromHalf w_F_fromHalf) := ws_goodL (by decide +kernel) ic_F_fromHalf rfl
set_option maxRecDepth 20000 in
theorem g_law_80 : GoodIn lw_tbl (wsV R_L 80 R_M y_M_fromHalf w_M_fromHalf) := ws_goodL (by decide +kernel) ic_M_fromHalf rfl
set_option maxRecDepth 20000 in
theorem g_law_81 : GoodIn lw_tbl (wsV R_L 81 R_F y_F_toHalf w_F_toHalf) := ws_goodL (by decide +kernel) ic_F_toHalf rfl
set_option maxRecDepth 20000 in
theorem g_law_84 : GoodIn lw_tbl (wsV R_L 84 R_M y_M_toHalf w_M_toHalf) := ws_goodL (by decide +kernel) ic_M_toHalf rfl
end
section
/-! THE CLAIM OUT OF ONE WALK OF THE LAW'S BODY. Your part is whole_start (and what it stands on); all else here is the same for every law, but numbers. -/
def R_law : String := "FixedNumbersLaw"
def lw_P (b : Addr) (xs : List Int32) (args : Array Value) (s : State) : Prop := args = #[.ref b] ∧ s.IntsAt b xs ∧ xs.length ≤ 3584 ∧ (Jvm.Cond.and given_1 narrow_1).before args s = true
def lw_Q (_ : Array Value) (s : State) (o : Outcome) (t : State) : Prop := o = .returned (some (.int 1)) ∧ Framed s o t [] 1034 8239
def lw_Z (below : List Frame) (a : Array Value) (s : State) : State → Prop := fun t => ∃ o, t.status = .running ∧ Ended t below o ∧ lw_Q a s o t
/-- the law's own end, with 1 on the stack, nothing written that was there before, its room as the claim has it -/
theorem lw_ret {p : Program} {l : Launch} {e : Env} {s : State} {m : MethodId} {below : List Frame} {meth : Method} {c : Code} {b : Nat} (hx : p.tables.exec = Jvm.exec) (hb : c.code = code) (hr : meth.sig.returnType = ret) (hlocks : meth.locks = false) {pc : Nat} {H : Heap} {ls : Array Slot} (hdg : decode code pc = .ok (.ireturn, 1)) : W p l e room_1 s m #[Value.ref b] below meth c H [] 1034 8239 (lw_Z below #[Value.ref b] s) (F0 m pc ls [.int 1]) := by
  intro T hT X
  obtain ⟨fs, hret, hrun, hended, hW, hframe⟩ := X.leave (v := some (.int 1)) (hlocks := hlocks) (fun h => by rw [hr] at h; cases h)
  have hmeth' : T.vm.method? m = some meth := X.method'
  refine ⟨T.setFrames fs, ?_, .returned (some (.int 1)), hrun, hended, rfl, ⟨_, rfl⟩, hW, hframe⟩
  jvm_step X.here [X.here.top, hx, hb, hdg, hmeth', hr, ret, narrow_b1]
  (try refine ⟨rfl, ?_⟩); (try refine ⟨rfl, ?_⟩)
  first | (intro acts; rw [hret _ acts rfl rfl rfl]) | rw [hret _ _ rfl rfl rfl]
  exact Steps.refl _
/-- what holds at the law's entry: the machine, the code, the tables' words (any of lw_tbl by 'hts w (by decide +kernel)'), the script of L ints xs at the cell b, what the Statement gives of the start (any of its parts by flat_of_before) -/
def lw_At (p : Program) (s : State) (m : MethodId) (meth : Method) (c : Code) (b L : Nat) (xs : Nat → Int32) : Prop :=
  p.tables.exec = Jvm.exec ∧ c.code = code ∧ meth.sig.returnType = ret ∧ c.maxLocals = 8 ∧ s.vm.findClass R_law = some m.cls ∧ (∀ w ∈ lw_tbl, w.before #[Value.ref b] s = true) ∧ va_X b L xs s s.heap ∧ b < s.heap.size ∧ meth.locks = false ∧ (Jvm.Cond.and given_1 narrow_1).before #[Value.ref b] s = true
/-! what the law's walk uses -/
section LWR
variable {p : Program} {l : Launch} {e : Env} {R : Room} {s : State} {m : MethodId} {args : Array Value} {below : List Frame} {meth : Method} {c : Code} {H : Heap} {locs : List Loc} {cells slots : Nat} {Q : State → Prop} {pc : Nat} {ls : Array Slot} {rest : List Value}
theorem lw_ld (hexec : p.tables.exec = Jvm.exec) (hb : c.code = code) {b L : Nat} {xs : Nat → Int32} (hX : va_X b L xs s s.heap) (hbl : b < s.heap.size) (hS : va_S (fun q : Nat => s.heap.size ≤ q) s.heap H locs) (hL : L ≤ 3584) {i : Int32} {j : Nat} {X : Int32} (hj : j < L) (hi : i = nI j) (hXj : X = xs j) (hdg : decode code pc = .ok (.iaload, 1))
    (kk : W p l e R s m args below meth c H locs cells slots Q (F0 m (pc + 1) ls (.int X :: rest))) : W p l e R s m args below meth c H locs cells slots Q (F0 m pc ls (.int i :: .ref b :: rest)) := by
  subst hi
  refine va_sld hexec hb hX hbl (show ¬ (fun q : Nat => s.heap.size ≤ q) b from Nat.not_le.mpr hbl) hS (vp_in_nI hj (by omega)) hdg ?_
  rw [nI_clamp (by omega), ← hXj]
  exact kk
end LWR
theorem th_cwSW {R : Room} {s : State} {args : Array Value} {own : String} {index : Nat} {y : MethodName} {bytes : ByteArray} {maxL mc ms : Nat} {ret : Option FieldType} {hh : List (Nat × Nat × Nat × Nat)} {Ts ws ws' : List Cond} {rm : Room} (n : Nat) (ht : ∀ w ∈ Ts, w.before args s = true) (hT : GoodIn Ts (wsS own index y ws)) (hw : ws = Cond.codeWith y bytes maxL ret hh :: ws') (hrc : rm.cells = mc) (hrs : rm.slots = ms)
    (hd : y.cls = own ∧ y.cls ≠ "java/lang/invoke/MethodHandle" ∧ y.cls ≠ "java/lang/invoke/VarHandle" ∧ (parseMethodDescriptor y.desc).map (fun d => d.parameters.length) = some n) (hR : rm.frames + 1 ≤ R.frames ∧ 8 + (maxL + 11) + rm.locals ≤ R.locals) :
    (rm.cells = mc ∧ rm.slots = ms ∧ rm.frames + 1 ≤ R.frames ∧ 8 + (maxL + 11) + rm.locals ≤ R.locals ∧ (∀ w ∈ ws, ∀ (a' : Array Value) (U : State), s.WarmedH U.vm → w.before a' U = true) ∧ Cond.codeWith y bytes maxL ret hh ∈ ws ∧ (Cond.codeWith y bytes maxL ret hh).before args s = true ∧ (Cond.initialized y.cls).before args s = true ∧ (y.cls ≠ "java/lang/invoke/MethodHandle" ∧ y.cls ≠ "java/lang/invoke/VarHandle") ∧ (∀ sig, parseMethodDescriptor y.desc = some sig → n = sig.parameters.length) ∧ (Cond.methodLink own index y).before args s = true) ∧ (Cond.static y).before args s = true := by
  obtain ⟨hC, hd⟩ := hd
  have ok : ∀ w ∈ wsS own index y ws, w.before args s = true := fun w h => ht w (hT w h).1
  have hG : GoodIn Ts ws := fun w h => hT w (by unfold wsS; exact List.mem_append_right _ h)
  have hc : Cond.codeWith y bytes maxL ret hh ∈ ws := by rw [hw]; exact List.mem_cons_self
  refine ⟨⟨hrc, hrs, hR.1, hR.2, pay_in ht hG, hc, ht _ (hG _ hc).1, by rw [hC]; exact ok _ (by simp [wsS]), ⟨hd.1, hd.2.1⟩, fun sig h => ?_, ok _ (by simp [wsS])⟩, ok _ (by simp [wsS])⟩
  have h2 := hd.2.2
  rw [h] at h2
  exact (Option.some.inj h2).symm
/-- two ints of the script as a long -/
def lw_j (a b : Int32) : Int64 := (a.toInt64 <<< ((32 : Int32).toInt64 &&& 63)) ||| (b.toInt64 &&& 4294967295)
theorem lw_k {k r th : Int32} {OK1 OK2 NO : Prop} (h1 : (k = 0 ∧ OK1) ∨ (k = 1 ∧ NO)) (h2 : (th = 0 ∧ OK2) ∨ (th = 1 ∧ NO)) (a1 : OK1 → ¬ NO) (a2 : OK2 → ¬ NO) (hr : r = th) : r = k := by
  rw [hr]
  rcases h1 with ⟨e1, x1⟩ | ⟨e1, x1⟩ <;> rcases h2 with ⟨e2, x2⟩ | ⟨e2, x2⟩
  · rw [e1, e2]
  · exact absurd x2 (a1 x1)
  · exact absurd x1 (a2 x2)
  · rw [e1, e2]
theorem lw_g {g : Nat → Int64} : g (0 : Int32).toNatClampNeg = g 0 := by rw [show (0 : Int32).toNatClampNeg = 0 by decide]
theorem lw_v {ok : Int32 → Prop} {NO : Prop} {k th r : Int32} {g : Nat → Int64} {w z : Int64} (h1 : (k = 0 ∧ ∃ v : Int32, ok v ∧ g 0 = v.toInt64) ∨ (k = 1 ∧ NO)) (h2 : (th = 0 ∧ ok r) ∨ (th = 1 ∧ NO)) (one : ∀ x y, ok x → ok y → x = y) (ap : ∀ x, ok x → ¬ NO) (ck : k = 0) (ew : w = g (0 : Int32).toNatClampNeg) (ez : z = r.toInt64) : w = z := by
  rcases h1 with ⟨-, v, x1, x2⟩ | ⟨e1, x1⟩
  · rcases h2 with ⟨-, y1⟩ | ⟨-, y1⟩
    · rw [ew, ez, lw_g (g := g), x2, one v r x1 y1]
    · exact absurd y1 (ap v x1)
  · rw [ck] at e1
    exact absurd e1 (by decide)
theorem lw_v4 {ok : Int64 → Prop} {NO : Prop} {k th : Int32} {g : Nat → Int64} {w r : Int64} (h1 : (k = 0 ∧ ∃ v : Int64, ok v ∧ g 0 = v) ∨ (k = 1 ∧ NO)) (h2 : (th = 0 ∧ ok r) ∨ (th = 1 ∧ NO)) (one : ∀ x y, ok x → ok y → x = y) (ap : ∀ x, ok x → ¬ NO) (ck : k = 0) (ew : w = g (0 : Int32).toNatClampNeg) : w = r := by
  rcases h1 with ⟨-, v, x1, x2⟩ | ⟨e1, x1⟩
  · rcases h2 with ⟨-, y1⟩ | ⟨-, y1⟩
    · rw [ew, lw_g (g := g), x2, one v r x1 y1]
    · exact absurd y1 (ap v x1)
  · rw [ck] at e1
    exact absurd e1 (by decide)
theorem lw_q1 {a b d : Int} (x y : Int64) (hx : sp_rok a b d x.toInt) (hy : sp_rok a b d y.toInt) : x = y := Int64.toInt_inj.mp (hx.2.trans hy.2.symm)
theorem lw_q0 {a b d : Int} (x : Int64) (hx : sp_rok a b d x.toInt) : ¬ sp_rno a b d := by
  have h := fx_i64 x
  exact sp_r_apart hx (by omega) (by omega)
theorem lw_b0 {n d : Int} (h : 0 < d ∧ 0 ≤ n ∧ n ≤ d) : ¬ sp_bno n d := by
  unfold sp_bno
  omega
abbrev WX (q0 q1 q2 : Nat) (cA : ClassId) (th : Int32) (up lo le : Int64) (f : Nat → Int64) : va_W := [(q0, .inr (0, [])), (q1, .inr (1, [.int th, .long up, .long lo, .long le])), (q2, .inl (cA, 1, .inr (.inl f)))]
end
section
set_option maxHeartbeats 8000000 in
set_option maxRecDepth 100000 in
theorem lc_0 {p : Program} {l : Launch} {e : Env} {s : State} {m : MethodId} {below : List Frame} {meth : Method} {c : Code} {dC : Nat → ClassId} {dI : Nat → Nat → Nat} {b L : Nat} {xs : Nat → Int32} (hfl : l.flags = flags0) (hL : L ≤ 3584) (C0 : lw_At p s m meth c b L xs) (hZ : th_Z s.heap.size s) {tt : Nat} (htt : 7 * tt + 7 ≤ L) {q0 q1 q2 : Nat} {cA : ClassId} {th : Int32} {up lo le : Int64} {f : Nat → Int64} {H : Heap} {locs : List Loc} {ls : Array Slot} {iv : Int32} (hi : iv = nI (7 * tt)) (hK : va_K (dC, dI) classes [(cA, .long)] s) (hP : va_P (dC, dI) classes (WX q0 q1 q2 cA th up lo le f) H) (hD : va_D (fun q : Nat => s.heap.size ≤ q) (WX q0 q1 q2 cA th up lo le f)) (hS : va_S (fun q : Nat => s.heap.size ≤ q) s.heap H locs) (hl : lv_has ls 8 [(4, .int iv), (3, .ref q2), (2, .ref q1), (1, .ref q0), (0, .ref b)])
    (KK : ∀ (th : Int32) (up lo le : Int64) (f : Nat → Int64) (H : Heap) (locs : List Loc) (ls : Array Slot), va_P (dC, dI) classes (WX q0 q1 q2 cA th up lo le f) H → va_D (fun q : Nat => s.heap.size ≤ q) (WX q0 q1 q2 cA th up lo le f) → va_S (fun q : Nat => s.heap.size ≤ q) s.heap H locs → lv_has ls 8 [(4, .int iv), (3, .ref q2), (2, .ref q1), (1, .ref q0), (0, .ref b)] → W p l e room_1 s m #[Value.ref b] below meth c H locs (4 + tt) (11 + 6 * tt) (lw_Z below #[Value.ref b] s) (F0 m 758 ls [])) :
    W p l e room_1 s m #[Value.ref b] below meth c H locs (3 + tt) (5 + 6 * tt) (lw_Z below #[Value.ref b] s) (F0 m 100 ls []) := by
  obtain ⟨hx, hb, hr, hml, hown, hts, hX, hbl, hlocks, hgv⟩ := C0
  have hown : s.vm.findClass R_L = some m.cls := hown
  have hA : ∀ q : Nat, s.heap.size ≤ q → (fun q : Nat => s.heap.size ≤ q) q := fun _ h => h
  obtain ⟨X1, hX1⟩ : ∃ y, y = xs (7 * tt + 1) := ⟨_, rfl⟩
  obtain ⟨X2, hX2⟩ : ∃ y, y = xs (7 * tt + 2) := ⟨_, rfl⟩
  have hP : va_P (dC, dI) classes [(q0, .inr (0, [])), (q1, .inr (1, [.int th, .long up, .long lo, .long le])), (q2, .inl (cA, 1, .inr (.inl f)))] H := hP
  have hD : va_D (fun q : Nat => s.heap.size ≤ q) [(q0, .inr (0, [])), (q1, .inr (1, [.int th, .long up, .long lo, .long le])), (q2, .inl (cA, 1, .inr (.inl f)))] := hD
  refine lv_aload_n hx hb d_law_100 rfl (lv_at hl 3 rfl) ?_
  refine lv_aload_n hx hb d_law_101 rfl (lv_at hl 4 rfl) ?_
  refine lv_iload hx hb d_law_102 (lv_at hl 0 rfl) ?_
  refine lv_iconst (v := 1) hx hb d_law_104 (by decide) ?_
  refine lv_iadd hx hb d_law_105 ?_
  refine lv_topi (fun v105 e105 => ?_)
  refine lw_ld hx hb hX hbl hS hL (j := 7 * tt + 1) (by omega) (by rw [e105, hi]; exact nI_add _ _) hX1 d_law_106 ?_
  refine lv_aload_n hx hb d_law_107 rfl (lv_at hl 4 rfl) ?_
  refine lv_iload hx hb d_law_108 (lv_at hl 0 rfl) ?_
  refine lv_iconst (v := 2) hx hb d_law_110 (by decide) ?_
  refine lv_iadd hx hb d_law_111 ?_
  refine lv_topi (fun v111 e111 => ?_)
  refine lw_ld hx hb hX hbl hS hL (j := 7 * tt + 2) (by omega) (by rw [e111, hi]; exact nI_add _ _) hX2 d_law_112 ?_
  refine vp_callSi (W.runV (As := [.int X1, .int X2]) (rest := []) ⟨hx, hb, hml, hown, hts⟩ (c_F_product l q0 X1 X2) (cwV 2 hts g_law_33 rfl rfl rfl (by decide +kernel) ⟨Nat.le_of_ble_eq_true rfl, Nat.le_of_ble_eq_true rfl⟩) ⟨fun _ _ _ _ q => q, va_recv hK hP (ci := 0) (q0 := 0) rfl rfl, fun _ _ _ => rfl⟩ rfl rfl hl.1 rfl (lv_room (Nat.le_of_ble_eq_true rfl)) d_law_113 ⟨by show _ ≤ 1034; omega, by show _ ≤ 8239; omega⟩) (fun v113 e113 => ?_)
  try dsimp only at e113
  refine lv_aload_n hx hb d_law_116 rfl (lv_at hl 2 rfl) ?_
  refine lv_aload_n hx hb d_law_117 rfl (lv_at hl 4 rfl) ?_
  refine lv_iload hx hb d_law_118 (lv_at hl 0 rfl) ?_
  refine lv_iconst (v := 1) hx hb d_law_120 (by decide) ?_
  refine lv_iadd hx hb d_law_121 ?_
  refine lv_topi (fun v121 e121 => ?_)
  refine lw_ld hx hb hX hbl hS hL (j := 7 * tt + 1) (by omega) (by rw [e121, hi]; exact nI_add _ _) hX1 d_law_122 ?_
  refine lv_aload_n hx hb d_law_123 rfl (lv_at hl 4 rfl) ?_
  refine lv_iload hx hb d_law_124 (lv_at hl 0 rfl) ?_
  refine lv_iconst (v := 2) hx hb d_law_126 (by decide) ?_
  refine lv_iadd hx hb d_law_127 ?_
  refine lv_topi (fun v127 e127 => ?_)
  refine lw_ld hx hb hX hbl hS hL (j := 7 * tt + 2) (by omega) (by rw [e127, hi]; exact nI_add _ _) hX2 d_law_128 ?_
  have hPc := hP.sub (ws' := [(q1, .inr (1, [.int th, .long up, .long lo, .long le]))]) [1] rfl
  have hDc := hD.sub (ws' := [(q1, .inr (1, [.int th, .long up, .long lo, .long le]))]) [1] (by decide) rfl
  have hFc := va_free (wc := [(q1, .inr (1, [.int th, .long up, .long lo, .long le]))]) hD hS hA [1] rfl
  have hKc := hK.sub (tys' := []) [] rfl
  refine va_calli (va_runV (As := [.int X1, .int X2]) (rest := [.int v113]) ⟨hx, hb, hml, hown, hts⟩ (c_M_product l dC dI q1 H.size th up lo le X1 X2) (cwV 2 hts g_law_36 rfl rfl rfl (by decide +kernel) ⟨Nat.le_of_ble_eq_true rfl, Nat.le_of_ble_eq_true rfl⟩) ⟨fun a U g mk q => by obtain ⟨q0, q1, qP, qK, qD⟩ := q; exact ⟨q0, q1, qP, va_K.moved (u := U) (U := U.calling g mk a) (Vm.Alike.refl U.vm) qK, qD⟩, va_recv hKc hPc (ci := 1) (q0 := 0) rfl rfl, fun U hU hW => ⟨rfl, by rw [hU], by rw [hU]; exact hPc, va_K.moved hW.alike hKc, hDc.weaken (fun _ _ _ _ => trivial)⟩⟩ rfl rfl hl.1 rfl (lv_room (Nat.le_of_ble_eq_true rfl)) d_law_129 ⟨by show _ ≤ 1034; omega, by show _ ≤ 8239; omega⟩) hS (fun q _ h => hFc q h) hFc (fun v129 u t H1 locs ht hvm hw hB hz1 hk1 hS => ?_)
  obtain ⟨th129, up129, lo129, le129⟩ := u
  obtain ⟨hP1, hK1, hD1⟩ := hB
  rw [ht] at hP1
  have e129 := hw
  try dsimp only at e129
  obtain ⟨hP, hD⟩ := va_join (wr := [(q0, .inr (0, [])), (q2, .inl (cA, 1, .inr (.inl f)))]) (w1 := [(q1, .inr (1, [.int th129, .long up129, .long lo129, .long le129]))]) hP hD [1] [0, 2] rfl rfl (by decide) (by decide) hk1 hFc hP1 hD1
  generalize H1 = H at hP hS ⊢
  have hP := hP.sub (ws' := [(q0, .inr (0, [])), (q1, .inr (1, [.int th129, .long up129, .long lo129, .long le129])), (q2, .inl (cA, 1, .inr (.inl f)))]) [0, 2, 1] rfl
  have hD := hD.sub (ws' := [(q0, .inr (0, [])), (q1, .inr (1, [.int th129, .long up129, .long lo129, .long le129])), (q2, .inl (cA, 1, .inr (.inl f)))]) [0, 2, 1] (by decide) rfl
  refine lv_icmp_eq (tgt := 758) hx hb d_law_132 (by decide) (fun c132 => ?_) (fun c132 => absurd (Int32.toInt_inj.mp (e113.trans e129.symm)) c132)
  refine W.widen (k := 4 + tt) (n := 11 + 6 * tt) (by omega) (by omega) ?_
  exact KK th129 up129 lo129 le129 f _ _ _ hP hD hS (lv_sub hl [0, 1, 2, 3, 4] rfl)
set_option maxHeartbeats 8000000 in
set_option maxRecDepth 100000 in
theorem lc_1 {p : Program} {l : Launch} {e : Env} {s : State} {m : MethodId} {below : List Frame} {meth : Method} {c : Code} {dC : Nat → ClassId} {dI : Nat → Nat → Nat} {b L : Nat} {xs : Nat → Int32} (hfl : l.flags = flags0) (hL : L ≤ 3584) (C0 : lw_At p s m meth c b L xs) (hZ : th_Z s.heap.size s) {tt : Nat} (htt : 7 * tt + 7 ≤ L) {q0 q1 q2 : Nat} {cA : ClassId} {th : Int32} {up lo le : Int64} {f : Nat → Int64} {H : Heap} {locs : List Loc} {ls : Array Slot} {iv : Int32} (hi : iv = nI (7 * tt)) (hK : va_K (dC, dI) classes [(cA, .long)] s) (hP : va_P (dC, dI) classes (WX q0 q1 q2 cA th up lo le f) H) (hD : va_D (fun q : Nat => s.heap.size ≤ q) (WX q0 q1 q2 cA th up lo le f)) (hS : va_S (fun q : Nat => s.heap.size ≤ q) s.heap H locs) (hl : lv_has ls 8 [(4, .int iv), (3, .ref q2), (2, .ref q1), (1, .ref q0), (0, .ref b)])
    (KK : ∀ (th : Int32) (up lo le : Int64) (f : Nat → Int64) (H : Heap) (locs : List Loc) (ls : Array Slot), va_P (dC, dI) classes (WX q0 q1 q2 cA th up lo le f) H → va_D (fun q : Nat => s.heap.size ≤ q) (WX q0 q1 q2 cA th up lo le f) → va_S (fun q : Nat => s.heap.size ≤ q) s.heap H locs → lv_has ls 8 [(4, .int iv), (3, .ref q2), (2, .ref q1), (1, .ref q0), (0, .ref b)] → W p l e room_1 s m #[Value.ref b] below meth c H locs (4 + tt) (11 + 6 * tt) (lw_Z below #[Value.ref b] s) (F0 m 758 ls [])) :
    W p l e room_1 s m #[Value.ref b] below meth c H locs (3 + tt) (5 + 6 * tt) (lw_Z below #[Value.ref b] s) (F0 m 137 ls []) := by
  obtain ⟨hx, hb, hr, hml, hown, hts, hX, hbl, hlocks, hgv⟩ := C0
  have hown : s.vm.findClass R_L = some m.cls := hown
  have hA : ∀ q : Nat, s.heap.size ≤ q → (fun q : Nat => s.heap.size ≤ q) q := fun _ h => h
  obtain ⟨X1, hX1⟩ : ∃ y, y = xs (7 * tt + 1) := ⟨_, rfl⟩
  obtain ⟨X2, hX2⟩ : ∃ y, y = xs (7 * tt + 2) := ⟨_, rfl⟩
  have hP : va_P (dC, dI) classes [(q0, .inr (0, [])), (q1, .inr (1, [.int th, .long up, .long lo, .long le])), (q2, .inl (cA, 1, .inr (.inl f)))] H := hP
  have hD : va_D (fun q : Nat => s.heap.size ≤ q) [(q0, .inr (0, [])), (q1, .inr (1, [.int th, .long up, .long lo, .long le])), (q2, .inl (cA, 1, .inr (.inl f)))] := hD
  refine lv_aload_n hx hb d_law_137 rfl (lv_at hl 3 rfl) ?_
  refine lv_aload_n hx hb d_law_138 rfl (lv_at hl 4 rfl) ?_
  refine lv_iload hx hb d_law_139 (lv_at hl 0 rfl) ?_
  refine lv_iconst (v := 1) hx hb d_law_141 (by decide) ?_
  refine lv_iadd hx hb d_law_142 ?_
  refine lv_topi (fun v142 e142 => ?_)
  refine lw_ld hx hb hX hbl hS hL (j := 7 * tt + 1) (by omega) (by rw [e142, hi]; exact nI_add _ _) hX1 d_law_143 ?_
  refine lv_aload_n hx hb d_law_144 rfl (lv_at hl 4 rfl) ?_
  refine lv_iload hx hb d_law_145 (lv_at hl 0 rfl) ?_
  refine lv_iconst (v := 2) hx hb d_law_147 (by decide) ?_
  refine lv_iadd hx hb d_law_148 ?_
  refine lv_topi (fun v148 e148 => ?_)
  refine lw_ld hx hb hX hbl hS hL (j := 7 * tt + 2) (by omega) (by rw [e148, hi]; exact nI_add _ _) hX2 d_law_149 ?_
  refine vp_callSi (W.runV (As := [.int X1, .int X2]) (rest := []) ⟨hx, hb, hml, hown, hts⟩ (c_F_quotient l q0 X1 X2) (cwV 2 hts g_law_37 rfl rfl rfl (by decide +kernel) ⟨Nat.le_of_ble_eq_true rfl, Nat.le_of_ble_eq_true rfl⟩) ⟨fun _ _ _ _ q => q, va_recv hK hP (ci := 0) (q0 := 0) rfl rfl, fun _ _ _ => rfl⟩ rfl rfl hl.1 rfl (lv_room (Nat.le_of_ble_eq_true rfl)) d_law_150 ⟨by show _ ≤ 1034; omega, by show _ ≤ 8239; omega⟩) (fun v150 e150 => ?_)
  try dsimp only at e150
  refine lv_aload_n hx hb d_law_153 rfl (lv_at hl 2 rfl) ?_
  refine lv_aload_n hx hb d_law_154 rfl (lv_at hl 4 rfl) ?_
  refine lv_iload hx hb d_law_155 (lv_at hl 0 rfl) ?_
  refine lv_iconst (v := 1) hx hb d_law_157 (by decide) ?_
  refine lv_iadd hx hb d_law_158 ?_
  refine lv_topi (fun v158 e158 => ?_)
  refine lw_ld hx hb hX hbl hS hL (j := 7 * tt + 1) (by omega) (by rw [e158, hi]; exact nI_add _ _) hX1 d_law_159 ?_
  refine lv_aload_n hx hb d_law_160 rfl (lv_at hl 4 rfl) ?_
  refine lv_iload hx hb d_law_161 (lv_at hl 0 rfl) ?_
  refine lv_iconst (v := 2) hx hb d_law_163 (by decide) ?_
  refine lv_iadd hx hb d_law_164 ?_
  refine lv_topi (fun v164 e164 => ?_)
  refine lw_ld hx hb hX hbl hS hL (j := 7 * tt + 2) (by omega) (by rw [e164, hi]; exact nI_add _ _) hX2 d_law_165 ?_
  have hPc := hP.sub (ws' := [(q1, .inr (1, [.int th, .long up, .long lo, .long le]))]) [1] rfl
  have hDc := hD.sub (ws' := [(q1, .inr (1, [.int th, .long up, .long lo, .long le]))]) [1] (by decide) rfl
  have hFc := va_free (wc := [(q1, .inr (1, [.int th, .long up, .long lo, .long le]))]) hD hS hA [1] rfl
  have hKc := hK.sub (tys' := []) [] rfl
  refine va_calli (va_runV (As := [.int X1, .int X2]) (rest := [.int v150]) ⟨hx, hb, hml, hown, hts⟩ (c_M_quotient l dC dI q1 H.size th up lo le X1 X2) (cwV 2 hts g_law_40 rfl rfl rfl (by decide +kernel) ⟨Nat.le_of_ble_eq_true rfl, Nat.le_of_ble_eq_true rfl⟩) ⟨fun a U g mk q => by obtain ⟨q0, q1, qP, qK, qD⟩ := q; exact ⟨q0, q1, qP, va_K.moved (u := U) (U := U.calling g mk a) (Vm.Alike.refl U.vm) qK, qD⟩, va_recv hKc hPc (ci := 1) (q0 := 0) rfl rfl, fun U hU hW => ⟨rfl, by rw [hU], by rw [hU]; exact hPc, va_K.moved hW.alike hKc, hDc.weaken (fun _ _ _ _ => trivial)⟩⟩ rfl rfl hl.1 rfl (lv_room (Nat.le_of_ble_eq_true rfl)) d_law_166 ⟨by show _ ≤ 1034; omega, by show _ ≤ 8239; omega⟩) hS (fun q _ h => hFc q h) hFc (fun v166 u t H1 locs ht hvm hw hB hz1 hk1 hS => ?_)
  obtain ⟨th166, up166, lo166, le166⟩ := u
  obtain ⟨hP1, hK1, hD1⟩ := hB
  rw [ht] at hP1
  have e166 := hw
  try dsimp only at e166
  obtain ⟨hP, hD⟩ := va_join (wr := [(q0, .inr (0, [])), (q2, .inl (cA, 1, .inr (.inl f)))]) (w1 := [(q1, .inr (1, [.int th166, .long up166, .long lo166, .long le166]))]) hP hD [1] [0, 2] rfl rfl (by decide) (by decide) hk1 hFc hP1 hD1
  generalize H1 = H at hP hS ⊢
  have hP := hP.sub (ws' := [(q0, .inr (0, [])), (q1, .inr (1, [.int th166, .long up166, .long lo166, .long le166])), (q2, .inl (cA, 1, .inr (.inl f)))]) [0, 2, 1] rfl
  have hD := hD.sub (ws' := [(q0, .inr (0, [])), (q1, .inr (1, [.int th166, .long up166, .long lo166, .long le166])), (q2, .inl (cA, 1, .inr (.inl f)))]) [0, 2, 1] (by decide) rfl
  refine lv_icmp_eq (tgt := 758) hx hb d_law_169 (by decide) (fun c169 => ?_) (fun c169 => absurd (Int32.toInt_inj.mp (e150.trans e166.symm)) c169)
  refine W.widen (k := 4 + tt) (n := 11 + 6 * tt) (by omega) (by omega) ?_
  exact KK th166 up166 lo166 le166 f _ _ _ hP hD hS (lv_sub hl [0, 1, 2, 3, 4] rfl)
set_option maxHeartbeats 8000000 in
set_option maxRecDepth 100000 in
theorem lc_2 {p : Program} {l : Launch} {e : Env} {s : State} {m : MethodId} {below : List Frame} {meth : Method} {c : Code} {dC : Nat → ClassId} {dI : Nat → Nat → Nat} {b L : Nat} {xs : Nat → Int32} (hfl : l.flags = flags0) (hL : L ≤ 3584) (C0 : lw_At p s m meth c b L xs) (hZ : th_Z s.heap.size s) {tt : Nat} (htt : 7 * tt + 7 ≤ L) {q0 q1 q2 : Nat} {cA : ClassId} {th : Int32} {up lo le : Int64} {f : Nat → Int64} {H : Heap} {locs : List Loc} {ls : Array Slot} {iv : Int32} (hi : iv = nI (7 * tt)) (hK : va_K (dC, dI) classes [(cA, .long)] s) (hP : va_P (dC, dI) classes (WX q0 q1 q2 cA th up lo le f) H) (hD : va_D (fun q : Nat => s.heap.size ≤ q) (WX q0 q1 q2 cA th up lo le f)) (hS : va_S (fun q : Nat => s.heap.size ≤ q) s.heap H locs) (hl : lv_has ls 8 [(4, .int iv), (3, .ref q2), (2, .ref q1), (1, .ref q0), (0, .ref b)])
    (KK : ∀ (th : Int32) (up lo le : Int64) (f : Nat → Int64) (H : Heap) (locs : List Loc) (ls : Array Slot), va_P (dC, dI) classes (WX q0 q1 q2 cA th up lo le f) H → va_D (fun q : Nat => s.heap.size ≤ q) (WX q0 q1 q2 cA th up lo le f) → va_S (fun q : Nat => s.heap.size ≤ q) s.heap H locs → lv_has ls 8 [(4, .int iv), (3, .ref q2), (2, .ref q1), (1, .ref q0), (0, .ref b)] → W p l e room_1 s m #[Value.ref b] below meth c H locs (4 + tt) (11 + 6 * tt) (lw_Z below #[Value.ref b] s) (F0 m 758 ls [])) :
    W p l e room_1 s m #[Value.ref b] below meth c H locs (3 + tt) (5 + 6 * tt) (lw_Z below #[Value.ref b] s) (F0 m 174 ls []) := by
  obtain ⟨hx, hb, hr, hml, hown, hts, hX, hbl, hlocks, hgv⟩ := C0
  have hown : s.vm.findClass R_L = some m.cls := hown
  have hA : ∀ q : Nat, s.heap.size ≤ q → (fun q : Nat => s.heap.size ≤ q) q := fun _ h => h
  obtain ⟨X1, hX1⟩ : ∃ y, y = xs (7 * tt + 1) := ⟨_, rfl⟩
  have hP : va_P (dC, dI) classes [(q0, .inr (0, [])), (q1, .inr (1, [.int th, .long up, .long lo, .long le])), (q2, .inl (cA, 1, .inr (.inl f)))] H := hP
  have hD : va_D (fun q : Nat => s.heap.size ≤ q) [(q0, .inr (0, [])), (q1, .inr (1, [.int th, .long up, .long lo, .long le])), (q2, .inl (cA, 1, .inr (.inl f)))] := hD
  refine lv_aload_n hx hb d_law_174 rfl (lv_at hl 3 rfl) ?_
  refine lv_aload_n hx hb d_law_175 rfl (lv_at hl 4 rfl) ?_
  refine lv_iload hx hb d_law_176 (lv_at hl 0 rfl) ?_
  refine lv_iconst (v := 1) hx hb d_law_178 (by decide) ?_
  refine lv_iadd hx hb d_law_179 ?_
  refine lv_topi (fun v179 e179 => ?_)
  refine lw_ld hx hb hX hbl hS hL (j := 7 * tt + 1) (by omega) (by rw [e179, hi]; exact nI_add _ _) hX1 d_law_180 ?_
  refine vp_callSi (W.runV (As := [.int X1]) (rest := []) ⟨hx, hb, hml, hown, hts⟩ (c_F_root l q0 X1) (cwV 1 hts g_law_41 rfl rfl rfl (by decide +kernel) ⟨Nat.le_of_ble_eq_true rfl, Nat.le_of_ble_eq_true rfl⟩) ⟨fun _ _ _ _ q => q, va_recv hK hP (ci := 0) (q0 := 0) rfl rfl, fun _ _ _ => rfl⟩ rfl rfl hl.1 rfl (lv_room (Nat.le_of_ble_eq_true rfl)) d_law_181 ⟨by show _ ≤ 1034; omega, by show _ ≤ 8239; omega⟩) (fun v181 e181 => ?_)
  try dsimp only at e181
  refine lv_aload_n hx hb d_law_184 rfl (lv_at hl 2 rfl) ?_
  refine lv_aload_n hx hb d_law_185 rfl (lv_at hl 4 rfl) ?_
  refine lv_iload hx hb d_law_186 (lv_at hl 0 rfl) ?_
  refine lv_iconst (v := 1) hx hb d_law_188 (by decide) ?_
  refine lv_iadd hx hb d_law_189 ?_
  refine lv_topi (fun v189 e189 => ?_)
  refine lw_ld hx hb hX hbl hS hL (j := 7 * tt + 1) (by omega) (by rw [e189, hi]; exact nI_add _ _) hX1 d_law_190 ?_
  have hPc := hP.sub (ws' := [(q1, .inr (1, [.int th, .long up, .long lo, .long le]))]) [1] rfl
  have hDc := hD.sub (ws' := [(q1, .inr (1, [.int th, .long up, .long lo, .long le]))]) [1] (by decide) rfl
  have hFc := va_free (wc := [(q1, .inr (1, [.int th, .long up, .long lo, .long le]))]) hD hS hA [1] rfl
  have hKc := hK.sub (tys' := []) [] rfl
  refine va_calli (va_runV (As := [.int X1]) (rest := [.int v181]) ⟨hx, hb, hml, hown, hts⟩ (c_M_root l dC dI q1 H.size th up lo le X1) (cwV 1 hts g_law_44 rfl rfl rfl (by decide +kernel) ⟨Nat.le_of_ble_eq_true rfl, Nat.le_of_ble_eq_true rfl⟩) ⟨fun a U g mk q => by obtain ⟨q0, q1, qP, qK, qD⟩ := q; exact ⟨q0, q1, qP, va_K.moved (u := U) (U := U.calling g mk a) (Vm.Alike.refl U.vm) qK, qD⟩, va_recv hKc hPc (ci := 1) (q0 := 0) rfl rfl, fun U hU hW => ⟨rfl, by rw [hU], by rw [hU]; exact hPc, va_K.moved hW.alike hKc, hDc.weaken (fun _ _ _ _ => trivial)⟩⟩ rfl rfl hl.1 rfl (lv_room (Nat.le_of_ble_eq_true rfl)) d_law_191 ⟨by show _ ≤ 1034; omega, by show _ ≤ 8239; omega⟩) hS (fun q _ h => hFc q h) hFc (fun v191 u t H1 locs ht hvm hw hB hz1 hk1 hS => ?_)
  obtain ⟨th191, up191, lo191, le191⟩ := u
  obtain ⟨hP1, hK1, hD1⟩ := hB
  rw [ht] at hP1
  have e191 := hw
  try dsimp only at e191
  obtain ⟨hP, hD⟩ := va_join (wr := [(q0, .inr (0, [])), (q2, .inl (cA, 1, .inr (.inl f)))]) (w1 := [(q1, .inr (1, [.int th191, .long up191, .long lo191, .long le191]))]) hP hD [1] [0, 2] rfl rfl (by decide) (by decide) hk1 hFc hP1 hD1
  generalize H1 = H at hP hS ⊢
  have hP := hP.sub (ws' := [(q0, .inr (0, [])), (q1, .inr (1, [.int th191, .long up191, .long lo191, .long le191])), (q2, .inl (cA, 1, .inr (.inl f)))]) [0, 2, 1] rfl
  have hD := hD.sub (ws' := [(q0, .inr (0, [])), (q1, .inr (1, [.int th191, .long up191, .long lo191, .long le191])), (q2, .inl (cA, 1, .inr (.inl f)))]) [0, 2, 1] (by decide) rfl
  refine lv_icmp_eq (tgt := 758) hx hb d_law_194 (by decide) (fun c194 => ?_) (fun c194 => absurd (Int32.toInt_inj.mp (sp_root_one e181 e191)) c194)
  refine W.widen (k := 4 + tt) (n := 11 + 6 * tt) (by omega) (by omega) ?_
  exact KK th191 up191 lo191 le191 f _ _ _ hP hD hS (lv_sub hl [0, 1, 2, 3, 4] rfl)
set_option maxHeartbeats 8000000 in
set_option maxRecDepth 100000 in
theorem lc_3 {p : Program} {l : Launch} {e : Env} {s : State} {m : MethodId} {below : List Frame} {meth : Method} {c : Code} {dC : Nat → ClassId} {dI : Nat → Nat → Nat} {b L : Nat} {xs : Nat → Int32} (hfl : l.flags = flags0) (hL : L ≤ 3584) (C0 : lw_At p s m meth c b L xs) (hZ : th_Z s.heap.size s) {tt : Nat} (htt : 7 * tt + 7 ≤ L) {q0 q1 q2 : Nat} {cA : ClassId} {th : Int32} {up lo le : Int64} {f : Nat → Int64} {H : Heap} {locs : List Loc} {ls : Array Slot} {iv : Int32} (hi : iv = nI (7 * tt)) (hK : va_K (dC, dI) classes [(cA, .long)] s) (hP : va_P (dC, dI) classes (WX q0 q1 q2 cA th up lo le f) H) (hD : va_D (fun q : Nat => s.heap.size ≤ q) (WX q0 q1 q2 cA th up lo le f)) (hS : va_S (fun q : Nat => s.heap.size ≤ q) s.heap H locs) (hl : lv_has ls 8 [(4, .int iv), (3, .ref q2), (2, .ref q1), (1, .ref q0), (0, .ref b)])
    (KK : ∀ (th : Int32) (up lo le : Int64) (f : Nat → Int64) (H : Heap) (locs : List Loc) (ls : Array Slot), va_P (dC, dI) classes (WX q0 q1 q2 cA th up lo le f) H → va_D (fun q : Nat => s.heap.size ≤ q) (WX q0 q1 q2 cA th up lo le f) → va_S (fun q : Nat => s.heap.size ≤ q) s.heap H locs → lv_has ls 8 [(4, .int iv), (3, .ref q2), (2, .ref q1), (1, .ref q0), (0, .ref b)] → W p l e room_1 s m #[Value.ref b] below meth c H locs (4 + tt) (11 + 6 * tt) (lw_Z below #[Value.ref b] s) (F0 m 758 ls [])) :
    W p l e room_1 s m #[Value.ref b] below meth c H locs (3 + tt) (5 + 6 * tt) (lw_Z below #[Value.ref b] s) (F0 m 199 ls []) := by
  obtain ⟨hx, hb, hr, hml, hown, hts, hX, hbl, hlocks, hgv⟩ := C0
  have hown : s.vm.findClass R_L = some m.cls := hown
  have hA : ∀ q : Nat, s.heap.size ≤ q → (fun q : Nat => s.heap.size ≤ q) q := fun _ h => h
  obtain ⟨X1, hX1⟩ : ∃ y, y = xs (7 * tt + 1) := ⟨_, rfl⟩
  have hP : va_P (dC, dI) classes [(q0, .inr (0, [])), (q1, .inr (1, [.int th, .long up, .long lo, .long le])), (q2, .inl (cA, 1, .inr (.inl f)))] H := hP
  have hD : va_D (fun q : Nat => s.heap.size ≤ q) [(q0, .inr (0, [])), (q1, .inr (1, [.int th, .long up, .long lo, .long le])), (q2, .inl (cA, 1, .inr (.inl f)))] := hD
  refine lv_aload_n hx hb d_law_199 rfl (lv_at hl 3 rfl) ?_
  refine lv_aload_n hx hb d_law_200 rfl (lv_at hl 4 rfl) ?_
  refine lv_iload hx hb d_law_201 (lv_at hl 0 rfl) ?_
  refine lv_iconst (v := 1) hx hb d_law_203 (by decide) ?_
  refine lv_iadd hx hb d_law_204 ?_
  refine lv_topi (fun v204 e204 => ?_)
  refine lw_ld hx hb hX hbl hS hL (j := 7 * tt + 1) (by omega) (by rw [e204, hi]; exact nI_add _ _) hX1 d_law_205 ?_
  refine vp_callSi (W.runV (As := [.int X1]) (rest := []) ⟨hx, hb, hml, hown, hts⟩ (c_F_oneByRoot l q0 X1) (cwV 1 hts g_law_45 rfl rfl rfl (by decide +kernel) ⟨Nat.le_of_ble_eq_true rfl, Nat.le_of_ble_eq_true rfl⟩) ⟨fun _ _ _ _ q => q, va_recv hK hP (ci := 0) (q0 := 0) rfl rfl, fun _ _ _ => rfl⟩ rfl rfl hl.1 rfl (lv_room (Nat.le_of_ble_eq_true rfl)) d_law_206 ⟨by show _ ≤ 1034; omega, by show _ ≤ 8239; omega⟩) (fun v206 e206 => ?_)
  try dsimp only at e206
  refine lv_aload_n hx hb d_law_209 rfl (lv_at hl 2 rfl) ?_
  refine lv_aload_n hx hb d_law_210 rfl (lv_at hl 4 rfl) ?_
  refine lv_iload hx hb d_law_211 (lv_at hl 0 rfl) ?_
  refine lv_iconst (v := 1) hx hb d_law_213 (by decide) ?_
  refine lv_iadd hx hb d_law_214 ?_
  refine lv_topi (fun v214 e214 => ?_)
  refine lw_ld hx hb hX hbl hS hL (j := 7 * tt + 1) (by omega) (by rw [e214, hi]; exact nI_add _ _) hX1 d_law_215 ?_
  have hPc := hP.sub (ws' := [(q1, .inr (1, [.int th, .long up, .long lo, .long le]))]) [1] rfl
  have hDc := hD.sub (ws' := [(q1, .inr (1, [.int th, .long up, .long lo, .long le]))]) [1] (by decide) rfl
  have hFc := va_free (wc := [(q1, .inr (1, [.int th, .long up, .long lo, .long le]))]) hD hS hA [1] rfl
  have hKc := hK.sub (tys' := []) [] rfl
  refine va_calli (va_runV (As := [.int X1]) (rest := [.int v206]) ⟨hx, hb, hml, hown, hts⟩ (c_M_oneByRoot l dC dI q1 H.size th up lo le X1) (cwV 1 hts g_law_48 rfl rfl rfl (by decide +kernel) ⟨Nat.le_of_ble_eq_true rfl, Nat.le_of_ble_eq_true rfl⟩) ⟨fun a U g mk q => by obtain ⟨q0, q1, qP, qK, qD⟩ := q; exact ⟨q0, q1, qP, va_K.moved (u := U) (U := U.calling g mk a) (Vm.Alike.refl U.vm) qK, qD⟩, va_recv hKc hPc (ci := 1) (q0 := 0) rfl rfl, fun U hU hW => ⟨rfl, by rw [hU], by rw [hU]; exact hPc, va_K.moved hW.alike hKc, hDc.weaken (fun _ _ _ _ => trivial)⟩⟩ rfl rfl hl.1 rfl (lv_room (Nat.le_of_ble_eq_true rfl)) d_law_216 ⟨by show _ ≤ 1034; omega, by show _ ≤ 8239; omega⟩) hS (fun q _ h => hFc q h) hFc (fun v216 u t H1 locs ht hvm hw hB hz1 hk1 hS => ?_)
  obtain ⟨th216, up216, lo216, le216⟩ := u
  obtain ⟨hP1, hK1, hD1⟩ := hB
  rw [ht] at hP1
  have e216 := hw
  try dsimp only at e216
  obtain ⟨hP, hD⟩ := va_join (wr := [(q0, .inr (0, [])), (q2, .inl (cA, 1, .inr (.inl f)))]) (w1 := [(q1, .inr (1, [.int th216, .long up216, .long lo216, .long le216]))]) hP hD [1] [0, 2] rfl rfl (by decide) (by decide) hk1 hFc hP1 hD1
  generalize H1 = H at hP hS ⊢
  have hP := hP.sub (ws' := [(q0, .inr (0, [])), (q1, .inr (1, [.int th216, .long up216, .long lo216, .long le216])), (q2, .inl (cA, 1, .inr (.inl f)))]) [0, 2, 1] rfl
  have hD := hD.sub (ws' := [(q0, .inr (0, [])), (q1, .inr (1, [.int th216, .long up216, .long lo216, .long le216])), (q2, .inl (cA, 1, .inr (.inl f)))]) [0, 2, 1] (by decide) rfl
  refine lv_icmp_eq (tgt := 758) hx hb d_law_219 (by decide) (fun c219 => ?_) (fun c219 => absurd (Int32.toInt_inj.mp (sp_obr_one e206 e216)) c219)
  refine W.widen (k := 4 + tt) (n := 11 + 6 * tt) (by omega) (by omega) ?_
  exact KK th216 up216 lo216 le216 f _ _ _ hP hD hS (lv_sub hl [0, 1, 2, 3, 4] rfl)
set_option maxHeartbeats 8000000 in
set_option maxRecDepth 100000 in
theorem lc_6 {p : Program} {l : Launch} {e : Env} {s : State} {m : MethodId} {below : List Frame} {meth : Method} {c : Code} {dC : Nat → ClassId} {dI : Nat → Nat → Nat} {b L : Nat} {xs : Nat → Int32} (hfl : l.flags = flags0) (hL : L ≤ 3584) (C0 : lw_At p s m meth c b L xs) (hZ : th_Z s.heap.size s) {tt : Nat} (htt : 7 * tt + 7 ≤ L) {q0 q1 q2 : Nat} {cA : ClassId} {th : Int32} {up lo le : Int64} {f : Nat → Int64} {H : Heap} {locs : List Loc} {ls : Array Slot} {iv : Int32} (hi : iv = nI (7 * tt)) (hK : va_K (dC, dI) classes [(cA, .long)] s) (hP : va_P (dC, dI) classes (WX q0 q1 q2 cA th up lo le f) H) (hD : va_D (fun q : Nat => s.heap.size ≤ q) (WX q0 q1 q2 cA th up lo le f)) (hS : va_S (fun q : Nat => s.heap.size ≤ q) s.heap H locs) (hl : lv_has ls 8 [(4, .int iv), (3, .ref q2), (2, .ref q1), (1, .ref q0), (0, .ref b)])
    (KK : ∀ (th : Int32) (up lo le : Int64) (f : Nat → Int64) (H : Heap) (locs : List Loc) (ls : Array Slot), va_P (dC, dI) classes (WX q0 q1 q2 cA th up lo le f) H → va_D (fun q : Nat => s.heap.size ≤ q) (WX q0 q1 q2 cA th up lo le f) → va_S (fun q : Nat => s.heap.size ≤ q) s.heap H locs → lv_has ls 8 [(4, .int iv), (3, .ref q2), (2, .ref q1), (1, .ref q0), (0, .ref b)] → W p l e room_1 s m #[Value.ref b] below meth c H locs (4 + tt) (11 + 6 * tt) (lw_Z below #[Value.ref b] s) (F0 m 758 ls [])) :
    W p l e room_1 s m #[Value.ref b] below meth c H locs (3 + tt) (5 + 6 * tt) (lw_Z below #[Value.ref b] s) (F0 m 559 ls []) := by
  obtain ⟨hx, hb, hr, hml, hown, hts, hX, hbl, hlocks, hgv⟩ := C0
  have hown : s.vm.findClass R_L = some m.cls := hown
  have hA : ∀ q : Nat, s.heap.size ≤ q → (fun q : Nat => s.heap.size ≤ q) q := fun _ h => h
  obtain ⟨X1, hX1⟩ : ∃ y, y = xs (7 * tt + 1) := ⟨_, rfl⟩
  have hP : va_P (dC, dI) classes [(q0, .inr (0, [])), (q1, .inr (1, [.int th, .long up, .long lo, .long le])), (q2, .inl (cA, 1, .inr (.inl f)))] H := hP
  have hD : va_D (fun q : Nat => s.heap.size ≤ q) [(q0, .inr (0, [])), (q1, .inr (1, [.int th, .long up, .long lo, .long le])), (q2, .inl (cA, 1, .inr (.inl f)))] := hD
  refine lv_aload_n hx hb d_law_559 rfl (lv_at hl 3 rfl) ?_
  refine lv_aload_n hx hb d_law_560 rfl (lv_at hl 4 rfl) ?_
  refine lv_iload hx hb d_law_561 (lv_at hl 0 rfl) ?_
  refine lv_iconst (v := 1) hx hb d_law_563 (by decide) ?_
  refine lv_iadd hx hb d_law_564 ?_
  refine lv_topi (fun v564 e564 => ?_)
  refine lw_ld hx hb hX hbl hS hL (j := 7 * tt + 1) (by omega) (by rw [e564, hi]; exact nI_add _ _) hX1 d_law_565 ?_
  refine vp_callSi (W.runV (As := [.int X1]) (rest := []) ⟨hx, hb, hml, hown, hts⟩ (c_F_channel l q0 X1) (cwV 1 hts g_law_65 rfl rfl rfl (by decide +kernel) ⟨Nat.le_of_ble_eq_true rfl, Nat.le_of_ble_eq_true rfl⟩) ⟨fun _ _ _ _ q => q, va_recv hK hP (ci := 0) (q0 := 0) rfl rfl, fun _ _ _ => rfl⟩ rfl rfl hl.1 rfl (lv_room (Nat.le_of_ble_eq_true rfl)) d_law_566 ⟨by show _ ≤ 1034; omega, by show _ ≤ 8239; omega⟩) (fun v566 e566 => ?_)
  try dsimp only at e566
  refine lv_aload_n hx hb d_law_569 rfl (lv_at hl 2 rfl) ?_
  refine lv_aload_n hx hb d_law_570 rfl (lv_at hl 4 rfl) ?_
  refine lv_iload hx hb d_law_571 (lv_at hl 0 rfl) ?_
  refine lv_iconst (v := 1) hx hb d_law_573 (by decide) ?_
  refine lv_iadd hx hb d_law_574 ?_
  refine lv_topi (fun v574 e574 => ?_)
  refine lw_ld hx hb hX hbl hS hL (j := 7 * tt + 1) (by omega) (by rw [e574, hi]; exact nI_add _ _) hX1 d_law_575 ?_
  have hPc := hP.sub (ws' := [(q1, .inr (1, [.int th, .long up, .long lo, .long le]))]) [1] rfl
  have hDc := hD.sub (ws' := [(q1, .inr (1, [.int th, .long up, .long lo, .long le]))]) [1] (by decide) rfl
  have hFc := va_free (wc := [(q1, .inr (1, [.int th, .long up, .long lo, .long le]))]) hD hS hA [1] rfl
  have hKc := hK.sub (tys' := []) [] rfl
  refine va_calli (va_runV (As := [.int X1]) (rest := [.int v566]) ⟨hx, hb, hml, hown, hts⟩ (c_M_channel l dC dI q1 H.size th up lo le X1) (cwV 1 hts g_law_68 rfl rfl rfl (by decide +kernel) ⟨Nat.le_of_ble_eq_true rfl, Nat.le_of_ble_eq_true rfl⟩) ⟨fun a U g mk q => by obtain ⟨q0, q1, qP, qK, qD⟩ := q; exact ⟨q0, q1, qP, va_K.moved (u := U) (U := U.calling g mk a) (Vm.Alike.refl U.vm) qK, qD⟩, va_recv hKc hPc (ci := 1) (q0 := 0) rfl rfl, fun U hU hW => ⟨rfl, by rw [hU], by rw [hU]; exact hPc, va_K.moved hW.alike hKc, hDc.weaken (fun _ _ _ _ => trivial)⟩⟩ rfl rfl hl.1 rfl (lv_room (Nat.le_of_ble_eq_true rfl)) d_law_576 ⟨by show _ ≤ 1034; omega, by show _ ≤ 8239; omega⟩) hS (fun q _ h => hFc q h) hFc (fun v576 u t H1 locs ht hvm hw hB hz1 hk1 hS => ?_)
  obtain ⟨th576, up576, lo576, le576⟩ := u
  obtain ⟨hP1, hK1, hD1⟩ := hB
  rw [ht] at hP1
  have e576 := hw
  try dsimp only at e576
  obtain ⟨hP, hD⟩ := va_join (wr := [(q0, .inr (0, [])), (q2, .inl (cA, 1, .inr (.inl f)))]) (w1 := [(q1, .inr (1, [.int th576, .long up576, .long lo576, .long le576]))]) hP hD [1] [0, 2] rfl rfl (by decide) (by decide) hk1 hFc hP1 hD1
  generalize H1 = H at hP hS ⊢
  have hP := hP.sub (ws' := [(q0, .inr (0, [])), (q1, .inr (1, [.int th576, .long up576, .long lo576, .long le576])), (q2, .inl (cA, 1, .inr (.inl f)))]) [0, 2, 1] rfl
  have hD := hD.sub (ws' := [(q0, .inr (0, [])), (q1, .inr (1, [.int th576, .long up576, .long lo576, .long le576])), (q2, .inl (cA, 1, .inr (.inl f)))]) [0, 2, 1] (by decide) rfl
  refine lv_icmp_eq (tgt := 758) hx hb d_law_579 (by decide) (fun c579 => ?_) (fun c579 => absurd (Int32.toInt_inj.mp (e566.trans e576.symm)) c579)
  refine W.widen (k := 4 + tt) (n := 11 + 6 * tt) (by omega) (by omega) ?_
  exact KK th576 up576 lo576 le576 f _ _ _ hP hD hS (lv_sub hl [0, 1, 2, 3, 4] rfl)
set_option maxHeartbeats 8000000 in
set_option maxRecDepth 100000 in
theorem lc_9 {p : Program} {l : Launch} {e : Env} {s : State} {m : MethodId} {below : List Frame} {meth : Method} {c : Code} {dC : Nat → ClassId} {dI : Nat → Nat → Nat} {b L : Nat} {xs : Nat → Int32} (hfl : l.flags = flags0) (hL : L ≤ 3584) (C0 : lw_At p s m meth c b L xs) (hZ : th_Z s.heap.size s) {tt : Nat} (htt : 7 * tt + 7 ≤ L) {q0 q1 q2 : Nat} {cA : ClassId} {th : Int32} {up lo le : Int64} {f : Nat → Int64} {H : Heap} {locs : List Loc} {ls : Array Slot} {iv : Int32} (hi : iv = nI (7 * tt)) (hK : va_K (dC, dI) classes [(cA, .long)] s) (hP : va_P (dC, dI) classes (WX q0 q1 q2 cA th up lo le f) H) (hD : va_D (fun q : Nat => s.heap.size ≤ q) (WX q0 q1 q2 cA th up lo le f)) (hS : va_S (fun q : Nat => s.heap.size ≤ q) s.heap H locs) (hl : lv_has ls 8 [(4, .int iv), (3, .ref q2), (2, .ref q1), (1, .ref q0), (0, .ref b)])
    (KK : ∀ (th : Int32) (up lo le : Int64) (f : Nat → Int64) (H : Heap) (locs : List Loc) (ls : Array Slot), va_P (dC, dI) classes (WX q0 q1 q2 cA th up lo le f) H → va_D (fun q : Nat => s.heap.size ≤ q) (WX q0 q1 q2 cA th up lo le f) → va_S (fun q : Nat => s.heap.size ≤ q) s.heap H locs → lv_has ls 8 [(4, .int iv), (3, .ref q2), (2, .ref q1), (1, .ref q0), (0, .ref b)] → W p l e room_1 s m #[Value.ref b] below meth c H locs (4 + tt) (11 + 6 * tt) (lw_Z below #[Value.ref b] s) (F0 m 758 ls [])) :
    W p l e room_1 s m #[Value.ref b] below meth c H locs (3 + tt) (5 + 6 * tt) (lw_Z below #[Value.ref b] s) (F0 m 708 ls []) := by
  obtain ⟨hx, hb, hr, hml, hown, hts, hX, hbl, hlocks, hgv⟩ := C0
  have hown : s.vm.findClass R_L = some m.cls := hown
  have hA : ∀ q : Nat, s.heap.size ≤ q → (fun q : Nat => s.heap.size ≤ q) q := fun _ h => h
  obtain ⟨X1, hX1⟩ : ∃ y, y = xs (7 * tt + 1) := ⟨_, rfl⟩
  have hP : va_P (dC, dI) classes [(q0, .inr (0, [])), (q1, .inr (1, [.int th, .long up, .long lo, .long le])), (q2, .inl (cA, 1, .inr (.inl f)))] H := hP
  have hD : va_D (fun q : Nat => s.heap.size ≤ q) [(q0, .inr (0, [])), (q1, .inr (1, [.int th, .long up, .long lo, .long le])), (q2, .inl (cA, 1, .inr (.inl f)))] := hD
  refine lv_aload_n hx hb d_law_708 rfl (lv_at hl 3 rfl) ?_
  refine lv_aload_n hx hb d_law_709 rfl (lv_at hl 4 rfl) ?_
  refine lv_iload hx hb d_law_710 (lv_at hl 0 rfl) ?_
  refine lv_iconst (v := 1) hx hb d_law_712 (by decide) ?_
  refine lv_iadd hx hb d_law_713 ?_
  refine lv_topi (fun v713 e713 => ?_)
  refine lw_ld hx hb hX hbl hS hL (j := 7 * tt + 1) (by omega) (by rw [e713, hi]; exact nI_add _ _) hX1 d_law_714 ?_
  refine vp_callSi (W.runV (As := [.int X1]) (rest := []) ⟨hx, hb, hml, hown, hts⟩ (c_F_fromHalf l q0 X1) (cwV 1 hts g_law_77 rfl rfl rfl (by decide +kernel) ⟨Nat.le_of_ble_eq_true rfl, Nat.le_of_ble_eq_true rfl⟩) ⟨fun _ _ _ _ q => q, va_recv hK hP (ci := 0) (q0 := 0) rfl rfl, fun _ _ _ => rfl⟩ rfl rfl hl.1 rfl (lv_room (Nat.le_of_ble_eq_true rfl)) d_law_715 ⟨by show _ ≤ 1034; omega, by show _ ≤ 8239; omega⟩) (fun v715 e715 => ?_)
  try dsimp only at e715
  refine lv_aload_n hx hb d_law_718 rfl (lv_at hl 2 rfl) ?_
  refine lv_aload_n hx hb d_law_719 rfl (lv_at hl 4 rfl) ?_
  refine lv_iload hx hb d_law_720 (lv_at hl 0 rfl) ?_
  refine lv_iconst (v := 1) hx hb d_law_722 (by decide) ?_
  refine lv_iadd hx hb d_law_723 ?_
  refine lv_topi (fun v723 e723 => ?_)
  refine lw_ld hx hb hX hbl hS hL (j := 7 * tt + 1) (by omega) (by rw [e723, hi]; exact nI_add _ _) hX1 d_law_724 ?_
  have hPc := hP.sub (ws' := [(q1, .inr (1, [.int th, .long up, .long lo, .long le]))]) [1] rfl
  have hDc := hD.sub (ws' := [(q1, .inr (1, [.int th, .long up, .long lo, .long le]))]) [1] (by decide) rfl
  have hFc := va_free (wc := [(q1, .inr (1, [.int th, .long up, .long lo, .long le]))]) hD hS hA [1] rfl
  have hKc := hK.sub (tys' := []) [] rfl
  refine va_calli (va_runV (As := [.int X1]) (rest := [.int v715]) ⟨hx, hb, hml, hown, hts⟩ (c_M_fromHalf l dC dI q1 H.size th up lo le X1) (cwV 1 hts g_law_80 rfl rfl rfl (by decide +kernel) ⟨Nat.le_of_ble_eq_true rfl, Nat.le_of_ble_eq_true rfl⟩) ⟨fun a U g mk q => by obtain ⟨q0, q1, qP, qK, qD⟩ := q; exact ⟨q0, q1, qP, va_K.moved (u := U) (U := U.calling g mk a) (Vm.Alike.refl U.vm) qK, qD⟩, va_recv hKc hPc (ci := 1) (q0 := 0) rfl rfl, fun U hU hW => ⟨rfl, by rw [hU], by rw [hU]; exact hPc, va_K.moved hW.alike hKc, hDc.weaken (fun _ _ _ _ => trivial)⟩⟩ rfl rfl hl.1 rfl (lv_room (Nat.le_of_ble_eq_true rfl)) d_law_725 ⟨by show _ ≤ 1034; omega, by show _ ≤ 8239; omega⟩) hS (fun q _ h => hFc q h) hFc (fun v725 u t H1 locs ht hvm hw hB hz1 hk1 hS => ?_)
  obtain ⟨th725, up725, lo725, le725⟩ := u
  obtain ⟨hP1, hK1, hD1⟩ := hB
  rw [ht] at hP1
  have e725 := hw
  try dsimp only at e725
  obtain ⟨hP, hD⟩ := va_join (wr := [(q0, .inr (0, [])), (q2, .inl (cA, 1, .inr (.inl f)))]) (w1 := [(q1, .inr (1, [.int th725, .long up725, .long lo725, .long le725]))]) hP hD [1] [0, 2] rfl rfl (by decide) (by decide) hk1 hFc hP1 hD1
  generalize H1 = H at hP hS ⊢
  have hP := hP.sub (ws' := [(q0, .inr (0, [])), (q1, .inr (1, [.int th725, .long up725, .long lo725, .long le725])), (q2, .inl (cA, 1, .inr (.inl f)))]) [0, 2, 1] rfl
  have hD := hD.sub (ws' := [(q0, .inr (0, [])), (q1, .inr (1, [.int th725, .long up725, .long lo725, .long le725])), (q2, .inl (cA, 1, .inr (.inl f)))]) [0, 2, 1] (by decide) rfl
  refine lv_icmp_eq (tgt := 758) hx hb d_law_728 (by decide) (fun c728 => ?_) (fun c728 => absurd (Int32.toInt_inj.mp (e715.trans e725.symm)) c728)
  refine W.widen (k := 4 + tt) (n := 11 + 6 * tt) (by omega) (by omega) ?_
  exact KK th725 up725 lo725 le725 f _ _ _ hP hD hS (lv_sub hl [0, 1, 2, 3, 4] rfl)
set_option maxHeartbeats 8000000 in
set_option maxRecDepth 100000 in
theorem lc_10 {p : Program} {l : Launch} {e : Env} {s : State} {m : MethodId} {below : List Frame} {meth : Method} {c : Code} {dC : Nat → ClassId} {dI : Nat → Nat → Nat} {b L : Nat} {xs : Nat → Int32} (hfl : l.flags = flags0) (hL : L ≤ 3584) (C0 : lw_At p s m meth c b L xs) (hZ : th_Z s.heap.size s) {tt : Nat} (htt : 7 * tt + 7 ≤ L) {q0 q1 q2 : Nat} {cA : ClassId} {th : Int32} {up lo le : Int64} {f : Nat → Int64} {H : Heap} {locs : List Loc} {ls : Array Slot} {iv : Int32} (hi : iv = nI (7 * tt)) (hK : va_K (dC, dI) classes [(cA, .long)] s) (hP : va_P (dC, dI) classes (WX q0 q1 q2 cA th up lo le f) H) (hD : va_D (fun q : Nat => s.heap.size ≤ q) (WX q0 q1 q2 cA th up lo le f)) (hS : va_S (fun q : Nat => s.heap.size ≤ q) s.heap H locs) (hl : lv_has ls 8 [(4, .int iv), (3, .ref q2), (2, .ref q1), (1, .ref q0), (0, .ref b)])
    (KK : ∀ (th : Int32) (up lo le : Int64) (f : Nat → Int64) (H : Heap) (locs : List Loc) (ls : Array Slot), va_P (dC, dI) classes (WX q0 q1 q2 cA th up lo le f) H → va_D (fun q : Nat => s.heap.size ≤ q) (WX q0 q1 q2 cA th up lo le f) → va_S (fun q : Nat => s.heap.size ≤ q) s.heap H locs → lv_has ls 8 [(4, .int iv), (3, .ref q2), (2, .ref q1), (1, .ref q0), (0, .ref b)] → W p l e room_1 s m #[Value.ref b] below meth c H locs (4 + tt) (11 + 6 * tt) (lw_Z below #[Value.ref b] s) (F0 m 758 ls [])) :
    W p l e room_1 s m #[Value.ref b] below meth c H locs (3 + tt) (5 + 6 * tt) (lw_Z below #[Value.ref b] s) (F0 m 733 ls []) := by
  obtain ⟨hx, hb, hr, hml, hown, hts, hX, hbl, hlocks, hgv⟩ := C0
  have hown : s.vm.findClass R_L = some m.cls := hown
  have hA : ∀ q : Nat, s.heap.size ≤ q → (fun q : Nat => s.heap.size ≤ q) q := fun _ h => h
  obtain ⟨X1, hX1⟩ : ∃ y, y = xs (7 * tt + 1) := ⟨_, rfl⟩
  have hP : va_P (dC, dI) classes [(q0, .inr (0, [])), (q1, .inr (1, [.int th, .long up, .long lo, .long le])), (q2, .inl (cA, 1, .inr (.inl f)))] H := hP
  have hD : va_D (fun q : Nat => s.heap.size ≤ q) [(q0, .inr (0, [])), (q1, .inr (1, [.int th, .long up, .long lo, .long le])), (q2, .inl (cA, 1, .inr (.inl f)))] := hD
  refine lv_aload_n hx hb d_law_733 rfl (lv_at hl 3 rfl) ?_
  refine lv_aload_n hx hb d_law_734 rfl (lv_at hl 4 rfl) ?_
  refine lv_iload hx hb d_law_735 (lv_at hl 0 rfl) ?_
  refine lv_iconst (v := 1) hx hb d_law_737 (by decide) ?_
  refine lv_iadd hx hb d_law_738 ?_
  refine lv_topi (fun v738 e738 => ?_)
  refine lw_ld hx hb hX hbl hS hL (j := 7 * tt + 1) (by omega) (by rw [e738, hi]; exact nI_add _ _) hX1 d_law_739 ?_
  refine vp_callSi (W.runV (As := [.int X1]) (rest := []) ⟨hx, hb, hml, hown, hts⟩ (c_F_toHalf l q0 X1) (cwV 1 hts g_law_81 rfl rfl rfl (by decide +kernel) ⟨Nat.le_of_ble_eq_true rfl, Nat.le_of_ble_eq_true rfl⟩) ⟨fun _ _ _ _ q => q, va_recv hK hP (ci := 0) (q0 := 0) rfl rfl, fun _ _ _ => rfl⟩ rfl rfl hl.1 rfl (lv_room (Nat.le_of_ble_eq_true rfl)) d_law_740 ⟨by show _ ≤ 1034; omega, by show _ ≤ 8239; omega⟩) (fun v740 e740 => ?_)
  try dsimp only at e740
  refine lv_aload_n hx hb d_law_743 rfl (lv_at hl 2 rfl) ?_
  refine lv_aload_n hx hb d_law_744 rfl (lv_at hl 4 rfl) ?_
  refine lv_iload hx hb d_law_745 (lv_at hl 0 rfl) ?_
  refine lv_iconst (v := 1) hx hb d_law_747 (by decide) ?_
  refine lv_iadd hx hb d_law_748 ?_
  refine lv_topi (fun v748 e748 => ?_)
  refine lw_ld hx hb hX hbl hS hL (j := 7 * tt + 1) (by omega) (by rw [e748, hi]; exact nI_add _ _) hX1 d_law_749 ?_
  have hPc := hP.sub (ws' := [(q1, .inr (1, [.int th, .long up, .long lo, .long le]))]) [1] rfl
  have hDc := hD.sub (ws' := [(q1, .inr (1, [.int th, .long up, .long lo, .long le]))]) [1] (by decide) rfl
  have hFc := va_free (wc := [(q1, .inr (1, [.int th, .long up, .long lo, .long le]))]) hD hS hA [1] rfl
  have hKc := hK.sub (tys' := []) [] rfl
  refine va_calli (va_runV (As := [.int X1]) (rest := [.int v740]) ⟨hx, hb, hml, hown, hts⟩ (c_M_toHalf l dC dI q1 H.size th up lo le X1) (cwV 1 hts g_law_84 rfl rfl rfl (by decide +kernel) ⟨Nat.le_of_ble_eq_true rfl, Nat.le_of_ble_eq_true rfl⟩) ⟨fun a U g mk q => by obtain ⟨q0, q1, qP, qK, qD⟩ := q; exact ⟨q0, q1, qP, va_K.moved (u := U) (U := U.calling g mk a) (Vm.Alike.refl U.vm) qK, qD⟩, va_recv hKc hPc (ci := 1) (q0 := 0) rfl rfl, fun U hU hW => ⟨rfl, by rw [hU], by rw [hU]; exact hPc, va_K.moved hW.alike hKc, hDc.weaken (fun _ _ _ _ => trivial)⟩⟩ rfl rfl hl.1 rfl (lv_room (Nat.le_of_ble_eq_true rfl)) d_law_750 ⟨by show _ ≤ 1034; omega, by show _ ≤ 8239; omega⟩) hS (fun q _ h => hFc q h) hFc (fun v750 u t H1 locs ht hvm hw hB hz1 hk1 hS => ?_)
  obtain ⟨th750, up750, lo750, le750⟩ := u
  obtain ⟨hP1, hK1, hD1⟩ := hB
  rw [ht] at hP1
  have e750 := hw
  try dsimp only at e750
  obtain ⟨hP, hD⟩ := va_join (wr := [(q0, .inr (0, [])), (q2, .inl (cA, 1, .inr (.inl f)))]) (w1 := [(q1, .inr (1, [.int th750, .long up750, .long lo750, .long le750]))]) hP hD [1] [0, 2] rfl rfl (by decide) (by decide) hk1 hFc hP1 hD1
  generalize H1 = H at hP hS ⊢
  have hP := hP.sub (ws' := [(q0, .inr (0, [])), (q1, .inr (1, [.int th750, .long up750, .long lo750, .long le750])), (q2, .inl (cA, 1, .inr (.inl f)))]) [0, 2, 1] rfl
  have hD := hD.sub (ws' := [(q0, .inr (0, [])), (q1, .inr (1, [.int th750, .long up750, .long lo750, .long le750])), (q2, .inl (cA, 1, .inr (.inl f)))]) [0, 2, 1] (by decide) rfl
  refine lv_icmp_eq (tgt := 758) hx hb d_law_753 (by decide) (fun c753 => ?_) (fun c753 => absurd (e740.trans e750.symm) c753)
  refine W.widen (k := 4 + tt) (n := 11 + 6 * tt) (by omega) (by omega) ?_
  exact KK th750 up750 lo750 le750 f _ _ _ hP hD hS (lv_sub hl [0, 1, 2, 3, 4] rfl)
end
section
set_option maxHeartbeats 8000000 in
set_option maxRecDepth 100000 in
theorem lc_4 {p : Program} {l : Launch} {e : Env} {s : State} {m : MethodId} {below : List Frame} {meth : Method} {c : Code} {dC : Nat → ClassId} {dI : Nat → Nat → Nat} {b L : Nat} {xs : Nat → Int32} (hfl : l.flags = flags0) (hL : L ≤ 3584) (C0 : lw_At p s m meth c b L xs) (hZ : th_Z s.heap.size s) {tt : Nat} (htt : 7 * tt + 7 ≤ L) {q0 q1 q2 : Nat} {cA : ClassId} {th : Int32} {up lo le : Int64} {f : Nat → Int64} {H : Heap} {locs : List Loc} {ls : Array Slot} {iv : Int32} (hi : iv = nI (7 * tt)) (hK : va_K (dC, dI) classes [(cA, .long)] s) (hP : va_P (dC, dI) classes (WX q0 q1 q2 cA th up lo le f) H) (hD : va_D (fun q : Nat => s.heap.size ≤ q) (WX q0 q1 q2 cA th up lo le f)) (hS : va_S (fun q : Nat => s.heap.size ≤ q) s.heap H locs) (hl : lv_has ls 8 [(4, .int iv), (3, .ref q2), (2, .ref q1), (1, .ref q0), (0, .ref b)])
    (KK : ∀ (th : Int32) (up lo le : Int64) (f : Nat → Int64) (H : Heap) (locs : List Loc) (ls : Array Slot), va_P (dC, dI) classes (WX q0 q1 q2 cA th up lo le f) H → va_D (fun q : Nat => s.heap.size ≤ q) (WX q0 q1 q2 cA th up lo le f) → va_S (fun q : Nat => s.heap.size ≤ q) s.heap H locs → lv_has ls 8 [(4, .int iv), (3, .ref q2), (2, .ref q1), (1, .ref q0), (0, .ref b)] → W p l e room_1 s m #[Value.ref b] below meth c H locs (4 + tt) (11 + 6 * tt) (lw_Z below #[Value.ref b] s) (F0 m 758 ls [])) :
    W p l e room_1 s m #[Value.ref b] below meth c H locs (3 + tt) (5 + 6 * tt) (lw_Z below #[Value.ref b] s) (F0 m 224 ls []) := by
  obtain ⟨hx, hb, hr, hml, hown, hts, hX, hbl, hlocks, hgv⟩ := C0
  have hown : s.vm.findClass R_L = some m.cls := hown
  have hA : ∀ q : Nat, s.heap.size ≤ q → (fun q : Nat => s.heap.size ≤ q) q := fun _ h => h
  obtain ⟨X1, hX1⟩ : ∃ y, y = xs (7 * tt + 1) := ⟨_, rfl⟩
  obtain ⟨X2, hX2⟩ : ∃ y, y = xs (7 * tt + 2) := ⟨_, rfl⟩
  obtain ⟨X3, hX3⟩ : ∃ y, y = xs (7 * tt + 3) := ⟨_, rfl⟩
  obtain ⟨X4, hX4⟩ : ∃ y, y = xs (7 * tt + 4) := ⟨_, rfl⟩
  obtain ⟨X5, hX5⟩ : ∃ y, y = xs (7 * tt + 5) := ⟨_, rfl⟩
  obtain ⟨X6, hX6⟩ : ∃ y, y = xs (7 * tt + 6) := ⟨_, rfl⟩
  have hP : va_P (dC, dI) classes [(q0, .inr (0, [])), (q1, .inr (1, [.int th, .long up, .long lo, .long le])), (q2, .inl (cA, 1, .inr (.inl f)))] H := hP
  have hD : va_D (fun q : Nat => s.heap.size ≤ q) [(q0, .inr (0, [])), (q1, .inr (1, [.int th, .long up, .long lo, .long le])), (q2, .inl (cA, 1, .inr (.inl f)))] := hD
  refine lv_aload_n hx hb d_law_224 rfl (lv_at hl 3 rfl) ?_
  refine lv_aload_n hx hb d_law_225 rfl (lv_at hl 4 rfl) ?_
  refine lv_iload hx hb d_law_226 (lv_at hl 0 rfl) ?_
  refine lv_iconst (v := 1) hx hb d_law_228 (by decide) ?_
  refine lv_iadd hx hb d_law_229 ?_
  refine lv_topi (fun v229 e229 => ?_)
  refine lw_ld hx hb hX hbl hS hL (j := 7 * tt + 1) (by omega) (by rw [e229, hi]; exact nI_add _ _) hX1 d_law_230 ?_
  refine lv_i2l hx hb d_law_231 rfl ?_
  refine lv_topl (fun v231 e231 => ?_)
  refine lv_bipush (v := 32) hx hb d_law_232 (by decide) ?_
  refine lv_lshl hx hb d_law_234 rfl ?_
  refine lv_topl (fun v234 e234 => ?_)
  refine lv_aload_n hx hb d_law_235 rfl (lv_at hl 4 rfl) ?_
  refine lv_iload hx hb d_law_236 (lv_at hl 0 rfl) ?_
  refine lv_iconst (v := 2) hx hb d_law_238 (by decide) ?_
  refine lv_iadd hx hb d_law_239 ?_
  refine lv_topi (fun v239 e239 => ?_)
  refine lw_ld hx hb hX hbl hS hL (j := 7 * tt + 2) (by omega) (by rw [e239, hi]; exact nI_add _ _) hX2 d_law_240 ?_
  refine lv_i2l hx hb d_law_241 rfl ?_
  refine lv_topl (fun v241 e241 => ?_)
  refine lv_ldc2 (v := 4294967295) hx hb hown (hts (.constantLong R_L 49 4294967295) (by decide +kernel)) d_law_242 ?_
  refine lv_land hx hb d_law_245 ?_
  refine lv_topl (fun v245 e245 => ?_)
  refine lv_lor hx hb d_law_246 ?_
  refine lv_topl (fun v246 e246 => ?_)
  obtain rfl : v246 = lw_j X1 X2 := by rw [e246, e234, e231, e245, e241]; rfl
  refine lv_aload_n hx hb d_law_247 rfl (lv_at hl 4 rfl) ?_
  refine lv_iload hx hb d_law_248 (lv_at hl 0 rfl) ?_
  refine lv_iconst (v := 3) hx hb d_law_250 (by decide) ?_
  refine lv_iadd hx hb d_law_251 ?_
  refine lv_topi (fun v251 e251 => ?_)
  refine lw_ld hx hb hX hbl hS hL (j := 7 * tt + 3) (by omega) (by rw [e251, hi]; exact nI_add _ _) hX3 d_law_252 ?_
  refine lv_i2l hx hb d_law_253 rfl ?_
  refine lv_topl (fun v253 e253 => ?_)
  refine lv_bipush (v := 32) hx hb d_law_254 (by decide) ?_
  refine lv_lshl hx hb d_law_256 rfl ?_
  refine lv_topl (fun v256 e256 => ?_)
  refine lv_aload_n hx hb d_law_257 rfl (lv_at hl 4 rfl) ?_
  refine lv_iload hx hb d_law_258 (lv_at hl 0 rfl) ?_
  refine lv_iconst (v := 4) hx hb d_law_260 (by decide) ?_
  refine lv_iadd hx hb d_law_261 ?_
  refine lv_topi (fun v261 e261 => ?_)
  refine lw_ld hx hb hX hbl hS hL (j := 7 * tt + 4) (by omega) (by rw [e261, hi]; exact nI_add _ _) hX4 d_law_262 ?_
  refine lv_i2l hx hb d_law_263 rfl ?_
  refine lv_topl (fun v263 e263 => ?_)
  refine lv_ldc2 (v := 4294967295) hx hb hown (hts (.constantLong R_L 49 4294967295) (by decide +kernel)) d_law_264 ?_
  refine lv_land hx hb d_law_267 ?_
  refine lv_topl (fun v267 e267 => ?_)
  refine lv_lor hx hb d_law_268 ?_
  refine lv_topl (fun v268 e268 => ?_)
  obtain rfl : v268 = lw_j X3 X4 := by rw [e268, e256, e253, e267, e263]; rfl
  refine lv_aload_n hx hb d_law_269 rfl (lv_at hl 4 rfl) ?_
  refine lv_iload hx hb d_law_270 (lv_at hl 0 rfl) ?_
  refine lv_iconst (v := 5) hx hb d_law_272 (by decide) ?_
  refine lv_iadd hx hb d_law_273 ?_
  refine lv_topi (fun v273 e273 => ?_)
  refine lw_ld hx hb hX hbl hS hL (j := 7 * tt + 5) (by omega) (by rw [e273, hi]; exact nI_add _ _) hX5 d_law_274 ?_
  refine lv_i2l hx hb d_law_275 rfl ?_
  refine lv_topl (fun v275 e275 => ?_)
  refine lv_bipush (v := 32) hx hb d_law_276 (by decide) ?_
  refine lv_lshl hx hb d_law_278 rfl ?_
  refine lv_topl (fun v278 e278 => ?_)
  refine lv_aload_n hx hb d_law_279 rfl (lv_at hl 4 rfl) ?_
  refine lv_iload hx hb d_law_280 (lv_at hl 0 rfl) ?_
  refine lv_bipush (v := 6) hx hb d_law_282 (by decide) ?_
  refine lv_iadd hx hb d_law_284 ?_
  refine lv_topi (fun v284 e284 => ?_)
  refine lw_ld hx hb hX hbl hS hL (j := 7 * tt + 6) (by omega) (by rw [e284, hi]; exact nI_add _ _) hX6 d_law_285 ?_
  refine lv_i2l hx hb d_law_286 rfl ?_
  refine lv_topl (fun v286 e286 => ?_)
  refine lv_ldc2 (v := 4294967295) hx hb hown (hts (.constantLong R_L 49 4294967295) (by decide +kernel)) d_law_287 ?_
  refine lv_land hx hb d_law_290 ?_
  refine lv_topl (fun v290 e290 => ?_)
  refine lv_lor hx hb d_law_291 ?_
  refine lv_topl (fun v291 e291 => ?_)
  obtain rfl : v291 = lw_j X5 X6 := by rw [e291, e278, e275, e290, e286]; rfl
  refine lv_aload_n hx hb d_law_292 rfl (lv_at hl 1 rfl) ?_
  have hPc := hP.sub (ws' := [(q0, .inr (0, [])), (q2, .inl (cA, 1, .inr (.inl f)))]) [0, 2] rfl
  have hDc := hD.sub (ws' := [(q0, .inr (0, [])), (q2, .inl (cA, 1, .inr (.inl f)))]) [0, 2] (by decide) rfl
  have hFc := va_free (wc := [(q0, .inr (0, [])), (q2, .inl (cA, 1, .inr (.inl f)))]) hD hS hA [0, 2] rfl
  have hcw9 := th_cwSW (R := room_1) (rm := { frames := 7, cells := 1, slots := 6, locals := 140 }) (mc := 1) (ms := 6) 5 hts g_law_51 rfl rfl rfl (by decide +kernel) ⟨Nat.le_of_ble_eq_true rfl, Nat.le_of_ble_eq_true rfl⟩
  refine va_calli (th_runSW (As := [.ref q0, .long (lw_j X1 X2), .long (lw_j X3 X4), .long (lw_j X5 X6), .ref q2]) (rest := []) ⟨hx, hb, hml, hown, hts⟩ (c_L_ratio l hfl dC dI s.heap.size q0 q2 H.size cA f (lw_j X1 X2) (lw_j X3 X4) (lw_j X5 X6)) hcw9.1 hcw9.2 ⟨fun a U g mk q => by obtain ⟨q0, q1, qP, qK, qD, qZ⟩ := q; exact ⟨q0, q1, qP, va_K.moved (u := U) (U := U.calling g mk a) (Vm.Alike.refl U.vm) qK, qD, th_Z.call qZ⟩, fun U hU hW => ⟨rfl, by rw [hU], by rw [hU]; exact hPc, va_K.moved hW.alike hK, hDc.weaken (fun _ _ _ _ => trivial), th_Z.to hZ hW (fun q h1 h2 => by rw [hU]; exact hS.2.1 q h1 h2)⟩⟩ rfl rfl hl.1 rfl (lv_room (Nat.le_of_ble_eq_true rfl)) d_law_293 ⟨by show _ ≤ 1034; omega, by show _ ≤ 8239; omega⟩) hS (fun q _ h => hFc q h) hFc (fun v293 g293 t H1 locs ht hvm hw hB hz1 hk1 hS => ?_)
  obtain ⟨hP1, hK1, hD1⟩ := hB
  rw [ht] at hP1
  have e293 := hw
  try dsimp only at e293
  obtain ⟨hP, hD⟩ := va_join (wr := [(q1, .inr (1, [.int th, .long up, .long lo, .long le]))]) (w1 := [(q0, .inr (0, [])), (q2, .inl (cA, 1, .inr (.inl g293)))]) hP hD [0, 2] [1] rfl rfl (by decide) (by decide) hk1 hFc hP1 hD1
  generalize H1 = H at hP hS ⊢
  have hP := hP.sub (ws' := [(q0, .inr (0, [])), (q1, .inr (1, [.int th, .long up, .long lo, .long le])), (q2, .inl (cA, 1, .inr (.inl g293)))]) [1, 0, 2] rfl
  have hD := hD.sub (ws' := [(q0, .inr (0, [])), (q1, .inr (1, [.int th, .long up, .long lo, .long le])), (q2, .inl (cA, 1, .inr (.inl g293)))]) [1, 0, 2] (by decide) rfl
  refine lv_istore (lv' := [(5, .int v293), (4, .int iv), (3, .ref q2), (2, .ref q1), (1, .ref q0), (0, .ref b)]) hx hb d_law_296 hl (by decide) rfl (fun ls hl => ?_)
  refine lv_aload_n hx hb d_law_298 rfl (lv_at hl 3 rfl) ?_
  refine lv_aload_n hx hb d_law_299 rfl (lv_at hl 5 rfl) ?_
  refine lv_iload hx hb d_law_300 (lv_at hl 1 rfl) ?_
  refine lv_iconst (v := 1) hx hb d_law_302 (by decide) ?_
  refine lv_iadd hx hb d_law_303 ?_
  refine lv_topi (fun v303 e303 => ?_)
  refine lw_ld hx hb hX hbl hS hL (j := 7 * tt + 1) (by omega) (by rw [e303, hi]; exact nI_add _ _) hX1 d_law_304 ?_
  refine lv_i2l hx hb d_law_305 rfl ?_
  refine lv_topl (fun v305 e305 => ?_)
  refine lv_bipush (v := 32) hx hb d_law_306 (by decide) ?_
  refine lv_lshl hx hb d_law_308 rfl ?_
  refine lv_topl (fun v308 e308 => ?_)
  refine lv_aload_n hx hb d_law_309 rfl (lv_at hl 5 rfl) ?_
  refine lv_iload hx hb d_law_310 (lv_at hl 1 rfl) ?_
  refine lv_iconst (v := 2) hx hb d_law_312 (by decide) ?_
  refine lv_iadd hx hb d_law_313 ?_
  refine lv_topi (fun v313 e313 => ?_)
  refine lw_ld hx hb hX hbl hS hL (j := 7 * tt + 2) (by omega) (by rw [e313, hi]; exact nI_add _ _) hX2 d_law_314 ?_
  refine lv_i2l hx hb d_law_315 rfl ?_
  refine lv_topl (fun v315 e315 => ?_)
  refine lv_ldc2 (v := 4294967295) hx hb hown (hts (.constantLong R_L 49 4294967295) (by decide +kernel)) d_law_316 ?_
  refine lv_land hx hb d_law_319 ?_
  refine lv_topl (fun v319 e319 => ?_)
  refine lv_lor hx hb d_law_320 ?_
  refine lv_topl (fun v320 e320 => ?_)
  obtain rfl : v320 = lw_j X1 X2 := by rw [e320, e308, e305, e319, e315]; rfl
  refine lv_aload_n hx hb d_law_321 rfl (lv_at hl 5 rfl) ?_
  refine lv_iload hx hb d_law_322 (lv_at hl 1 rfl) ?_
  refine lv_iconst (v := 3) hx hb d_law_324 (by decide) ?_
  refine lv_iadd hx hb d_law_325 ?_
  refine lv_topi (fun v325 e325 => ?_)
  refine lw_ld hx hb hX hbl hS hL (j := 7 * tt + 3) (by omega) (by rw [e325, hi]; exact nI_add _ _) hX3 d_law_326 ?_
  refine lv_i2l hx hb d_law_327 rfl ?_
  refine lv_topl (fun v327 e327 => ?_)
  refine lv_bipush (v := 32) hx hb d_law_328 (by decide) ?_
  refine lv_lshl hx hb d_law_330 rfl ?_
  refine lv_topl (fun v330 e330 => ?_)
  refine lv_aload_n hx hb d_law_331 rfl (lv_at hl 5 rfl) ?_
  refine lv_iload hx hb d_law_332 (lv_at hl 1 rfl) ?_
  refine lv_iconst (v := 4) hx hb d_law_334 (by decide) ?_
  refine lv_iadd hx hb d_law_335 ?_
  refine lv_topi (fun v335 e335 => ?_)
  refine lw_ld hx hb hX hbl hS hL (j := 7 * tt + 4) (by omega) (by rw [e335, hi]; exact nI_add _ _) hX4 d_law_336 ?_
  refine lv_i2l hx hb d_law_337 rfl ?_
  refine lv_topl (fun v337 e337 => ?_)
  refine lv_ldc2 (v := 4294967295) hx hb hown (hts (.constantLong R_L 49 4294967295) (by decide +kernel)) d_law_338 ?_
  refine lv_land hx hb d_law_341 ?_
  refine lv_topl (fun v341 e341 => ?_)
  refine lv_lor hx hb d_law_342 ?_
  refine lv_topl (fun v342 e342 => ?_)
  obtain rfl : v342 = lw_j X3 X4 := by rw [e342, e330, e327, e341, e337]; rfl
  refine lv_aload_n hx hb d_law_343 rfl (lv_at hl 5 rfl) ?_
  refine lv_iload hx hb d_law_344 (lv_at hl 1 rfl) ?_
  refine lv_iconst (v := 5) hx hb d_law_346 (by decide) ?_
  refine lv_iadd hx hb d_law_347 ?_
  refine lv_topi (fun v347 e347 => ?_)
  refine lw_ld hx hb hX hbl hS hL (j := 7 * tt + 5) (by omega) (by rw [e347, hi]; exact nI_add _ _) hX5 d_law_348 ?_
  refine lv_i2l hx hb d_law_349 rfl ?_
  refine lv_topl (fun v349 e349 => ?_)
  refine lv_bipush (v := 32) hx hb d_law_350 (by decide) ?_
  refine lv_lshl hx hb d_law_352 rfl ?_
  refine lv_topl (fun v352 e352 => ?_)
  refine lv_aload_n hx hb d_law_353 rfl (lv_at hl 5 rfl) ?_
  refine lv_iload hx hb d_law_354 (lv_at hl 1 rfl) ?_
  refine lv_bipush (v := 6) hx hb d_law_356 (by decide) ?_
  refine lv_iadd hx hb d_law_358 ?_
  refine lv_topi (fun v358 e358 => ?_)
  refine lw_ld hx hb hX hbl hS hL (j := 7 * tt + 6) (by omega) (by rw [e358, hi]; exact nI_add _ _) hX6 d_law_359 ?_
  refine lv_i2l hx hb d_law_360 rfl ?_
  refine lv_topl (fun v360 e360 => ?_)
  refine lv_ldc2 (v := 4294967295) hx hb hown (hts (.constantLong R_L 49 4294967295) (by decide +kernel)) d_law_361 ?_
  refine lv_land hx hb d_law_364 ?_
  refine lv_topl (fun v364 e364 => ?_)
  refine lv_lor hx hb d_law_365 ?_
  refine lv_topl (fun v365 e365 => ?_)
  obtain rfl : v365 = lw_j X5 X6 := by rw [e365, e352, e349, e364, e360]; rfl
  have hPc := hP.sub (ws' := [(q1, .inr (1, [.int th, .long up, .long lo, .long le]))]) [1] rfl
  have hDc := hD.sub (ws' := [(q1, .inr (1, [.int th, .long up, .long lo, .long le]))]) [1] (by decide) rfl
  have hFc := va_free (wc := [(q1, .inr (1, [.int th, .long up, .long lo, .long le]))]) hD hS hA [1] rfl
  have hKc := hK.sub (tys' := []) [] rfl
  refine va_calll (va_runV (As := [.long (lw_j X1 X2), .long (lw_j X3 X4), .long (lw_j X5 X6)]) (rest := []) ⟨hx, hb, hml, hown, hts⟩ (c_M_ratio l dC dI q1 H.size th up lo le (lw_j X1 X2) (lw_j X3 X4) (lw_j X5 X6)) (cwV 3 hts g_law_56 rfl rfl rfl (by decide +kernel) ⟨Nat.le_of_ble_eq_true rfl, Nat.le_of_ble_eq_true rfl⟩) ⟨fun a U g mk q => by obtain ⟨q0, q1, qP, qK, qD⟩ := q; exact ⟨q0, q1, qP, va_K.moved (u := U) (U := U.calling g mk a) (Vm.Alike.refl U.vm) qK, qD⟩, va_recv hKc hPc (ci := 1) (q0 := 0) rfl rfl, fun U hU hW => ⟨rfl, by rw [hU], by rw [hU]; exact hPc, va_K.moved hW.alike hKc, hDc.weaken (fun _ _ _ _ => trivial)⟩⟩ rfl rfl hl.1 rfl (lv_room (Nat.le_of_ble_eq_true rfl)) d_law_366 ⟨by show _ ≤ 1034; omega, by show _ ≤ 8239; omega⟩) hS (fun q _ h => hFc q h) hFc (fun v366 u t H1 locs ht hvm hw hB hz1 hk1 hS => ?_)
  obtain ⟨th366, up366, lo366, le366⟩ := u
  obtain ⟨hP1, hK1, hD1⟩ := hB
  rw [ht] at hP1
  have e366 := hw
  try dsimp only at e366
  obtain ⟨hP, hD⟩ := va_join (wr := [(q0, .inr (0, [])), (q2, .inl (cA, 1, .inr (.inl g293)))]) (w1 := [(q1, .inr (1, [.int th366, .long up366, .long lo366, .long le366]))]) hP hD [1] [0, 2] rfl rfl (by decide) (by decide) hk1 hFc hP1 hD1
  generalize H1 = H at hP hS ⊢
  have hP := hP.sub (ws' := [(q0, .inr (0, [])), (q1, .inr (1, [.int th366, .long up366, .long lo366, .long le366])), (q2, .inl (cA, 1, .inr (.inl g293)))]) [0, 2, 1] rfl
  have hD := hD.sub (ws' := [(q0, .inr (0, [])), (q1, .inr (1, [.int th366, .long up366, .long lo366, .long le366])), (q2, .inl (cA, 1, .inr (.inl g293)))]) [0, 2, 1] (by decide) rfl
  refine lv_lstore (lv' := [(6, .long v366), (5, .int v293), (4, .int iv), (3, .ref q2), (2, .ref q1), (1, .ref q0), (0, .ref b)]) hx hb d_law_369 hl (by decide) rfl (fun ls hl => ?_)
  refine lv_aload_n hx hb d_law_371 rfl (lv_at hl 4 rfl) ?_
  have hPc := hP.sub (ws' := [(q1, .inr (1, [.int th366, .long up366, .long lo366, .long le366]))]) [1] rfl
  have hDc := hD.sub (ws' := [(q1, .inr (1, [.int th366, .long up366, .long lo366, .long le366]))]) [1] (by decide) rfl
  have hFc := va_free (wc := [(q1, .inr (1, [.int th366, .long up366, .long lo366, .long le366]))]) hD hS hA [1] rfl
  have hKc := hK.sub (tys' := []) [] rfl
  refine va_calli (va_runV (As := []) (rest := []) ⟨hx, hb, hml, hown, hts⟩ (c_M_thrown l dC dI q1 H.size th366 up366 lo366 le366 ) (cwV 0 hts g_law_57 rfl rfl rfl (by decide +kernel) ⟨Nat.le_of_ble_eq_true rfl, Nat.le_of_ble_eq_true rfl⟩) ⟨fun a U g mk q => by obtain ⟨q0, q1, qP, qK, qD⟩ := q; exact ⟨q0, q1, qP, va_K.moved (u := U) (U := U.calling g mk a) (Vm.Alike.refl U.vm) qK, qD⟩, va_recv hKc hPc (ci := 1) (q0 := 0) rfl rfl, fun U hU hW => ⟨rfl, by rw [hU], by rw [hU]; exact hPc, va_K.moved hW.alike hKc, hDc.weaken (fun _ _ _ _ => trivial)⟩⟩ rfl rfl hl.1 rfl (lv_room (Nat.le_of_ble_eq_true rfl)) d_law_372 ⟨by show _ ≤ 1034; omega, by show _ ≤ 8239; omega⟩) hS (fun q _ h => hFc q h) hFc (fun v372 u t H1 locs ht hvm hw hB hz1 hk1 hS => ?_)
  obtain ⟨th372, up372, lo372, le372⟩ := u
  obtain ⟨hP1, hK1, hD1⟩ := hB
  rw [ht] at hP1
  have e372 := hw
  try dsimp only at e372
  obtain ⟨hP, hD⟩ := va_join (wr := [(q0, .inr (0, [])), (q2, .inl (cA, 1, .inr (.inl g293)))]) (w1 := [(q1, .inr (1, [.int th372, .long up372, .long lo372, .long le372]))]) hP hD [1] [0, 2] rfl rfl (by decide) (by decide) hk1 hFc hP1 hD1
  generalize H1 = H at hP hS ⊢
  have hP := hP.sub (ws' := [(q0, .inr (0, [])), (q1, .inr (1, [.int th372, .long up372, .long lo372, .long le372])), (q2, .inl (cA, 1, .inr (.inl g293)))]) [0, 2, 1] rfl
  have hD := hD.sub (ws' := [(q0, .inr (0, [])), (q1, .inr (1, [.int th372, .long up372, .long lo372, .long le372])), (q2, .inl (cA, 1, .inr (.inl g293)))]) [0, 2, 1] (by decide) rfl
  refine lv_iload hx hb d_law_375 (lv_at hl 1 rfl) ?_
  refine lv_icmp_eq (tgt := 382) hx hb d_law_377 (by decide) (fun c377 => ?_) (fun c377 => absurd (lw_k e293 e366 (fun z => by obtain ⟨v, z, -⟩ := z; exact lw_q0 v z) (fun z => lw_q0 _ z) e372.1) c377)
  refine lv_iload hx hb d_law_382 (lv_at hl 1 rfl) ?_
  refine lv_if_ne (tgt := 398) hx hb d_law_384 (by decide) (fun c384 => ?_) (fun c384 => ?_)
  · skip
    refine lv_goto (tgt := 758) hx hb d_law_398 (by decide) ?_
    refine W.widen (k := 4 + tt) (n := 11 + 6 * tt) (by omega) (by omega) ?_
    exact KK th372 up372 lo372 le372 g293 _ _ _ hP hD hS (lv_sub hl [2, 3, 4, 5, 6] rfl)
  · skip
    refine lv_aload_n hx hb d_law_387 rfl (lv_at hl 3 rfl) ?_
    refine lv_iconst (v := 0) hx hb d_law_388 (by decide) ?_
    refine va_lald hx hb hK hP 2 0 rfl rfl (i := 0) (pk_in 0 1 (by decide)) d_law_389 ?_
    refine lv_topl (fun v389 e389 => ?_)
    refine lv_lload hx hb d_law_390 (lv_at hl 0 rfl) ?_
    refine W.lcmp hx hb d_law_392 ?_
    refine lv_if_eq (tgt := 398) hx hb d_law_393 (by decide) (fun c393 => ?_) (fun c393 => absurd ((lg_cmp_eq _ _).mpr (lw_v4 e293 e366 lw_q1 lw_q0 c384 e389)) c393)
    refine lv_goto (tgt := 758) hx hb d_law_398 (by decide) ?_
    refine W.widen (k := 4 + tt) (n := 11 + 6 * tt) (by omega) (by omega) ?_
    exact KK th372 up372 lo372 le372 g293 _ _ _ hP hD hS (lv_sub hl [2, 3, 4, 5, 6] rfl)
set_option maxHeartbeats 8000000 in
set_option maxRecDepth 100000 in
theorem lc_5 {p : Program} {l : Launch} {e : Env} {s : State} {m : MethodId} {below : List Frame} {meth : Method} {c : Code} {dC : Nat → ClassId} {dI : Nat → Nat → Nat} {b L : Nat} {xs : Nat → Int32} (hfl : l.flags = flags0) (hL : L ≤ 3584) (C0 : lw_At p s m meth c b L xs) (hZ : th_Z s.heap.size s) {tt : Nat} (htt : 7 * tt + 7 ≤ L) {q0 q1 q2 : Nat} {cA : ClassId} {th : Int32} {up lo le : Int64} {f : Nat → Int64} {H : Heap} {locs : List Loc} {ls : Array Slot} {iv : Int32} (hi : iv = nI (7 * tt)) (hK : va_K (dC, dI) classes [(cA, .long)] s) (hP : va_P (dC, dI) classes (WX q0 q1 q2 cA th up lo le f) H) (hD : va_D (fun q : Nat => s.heap.size ≤ q) (WX q0 q1 q2 cA th up lo le f)) (hS : va_S (fun q : Nat => s.heap.size ≤ q) s.heap H locs) (hl : lv_has ls 8 [(4, .int iv), (3, .ref q2), (2, .ref q1), (1, .ref q0), (0, .ref b)])
    (KK : ∀ (th : Int32) (up lo le : Int64) (f : Nat → Int64) (H : Heap) (locs : List Loc) (ls : Array Slot), va_P (dC, dI) classes (WX q0 q1 q2 cA th up lo le f) H → va_D (fun q : Nat => s.heap.size ≤ q) (WX q0 q1 q2 cA th up lo le f) → va_S (fun q : Nat => s.heap.size ≤ q) s.heap H locs → lv_has ls 8 [(4, .int iv), (3, .ref q2), (2, .ref q1), (1, .ref q0), (0, .ref b)] → W p l e room_1 s m #[Value.ref b] below meth c H locs (4 + tt) (11 + 6 * tt) (lw_Z below #[Value.ref b] s) (F0 m 758 ls [])) :
    W p l e room_1 s m #[Value.ref b] below meth c H locs (3 + tt) (5 + 6 * tt) (lw_Z below #[Value.ref b] s) (F0 m 401 ls []) := by
  obtain ⟨hx, hb, hr, hml, hown, hts, hX, hbl, hlocks, hgv⟩ := C0
  have hown : s.vm.findClass R_L = some m.cls := hown
  have hA : ∀ q : Nat, s.heap.size ≤ q → (fun q : Nat => s.heap.size ≤ q) q := fun _ h => h
  obtain ⟨X1, hX1⟩ : ∃ y, y = xs (7 * tt + 1) := ⟨_, rfl⟩
  obtain ⟨X2, hX2⟩ : ∃ y, y = xs (7 * tt + 2) := ⟨_, rfl⟩
  obtain ⟨X3, hX3⟩ : ∃ y, y = xs (7 * tt + 3) := ⟨_, rfl⟩
  obtain ⟨X4, hX4⟩ : ∃ y, y = xs (7 * tt + 4) := ⟨_, rfl⟩
  obtain ⟨X5, hX5⟩ : ∃ y, y = xs (7 * tt + 5) := ⟨_, rfl⟩
  obtain ⟨X6, hX6⟩ : ∃ y, y = xs (7 * tt + 6) := ⟨_, rfl⟩
  have hP : va_P (dC, dI) classes [(q0, .inr (0, [])), (q1, .inr (1, [.int th, .long up, .long lo, .long le])), (q2, .inl (cA, 1, .inr (.inl f)))] H := hP
  have hD : va_D (fun q : Nat => s.heap.size ≤ q) [(q0, .inr (0, [])), (q1, .inr (1, [.int th, .long up, .long lo, .long le])), (q2, .inl (cA, 1, .inr (.inl f)))] := hD
  refine lv_aload_n hx hb d_law_401 rfl (lv_at hl 3 rfl) ?_
  refine lv_aload_n hx hb d_law_402 rfl (lv_at hl 4 rfl) ?_
  refine lv_iload hx hb d_law_403 (lv_at hl 0 rfl) ?_
  refine lv_iconst (v := 1) hx hb d_law_405 (by decide) ?_
  refine lv_iadd hx hb d_law_406 ?_
  refine lv_topi (fun v406 e406 => ?_)
  refine lw_ld hx hb hX hbl hS hL (j := 7 * tt + 1) (by omega) (by rw [e406, hi]; exact nI_add _ _) hX1 d_law_407 ?_
  refine lv_aload_n hx hb d_law_408 rfl (lv_at hl 4 rfl) ?_
  refine lv_iload hx hb d_law_409 (lv_at hl 0 rfl) ?_
  refine lv_iconst (v := 2) hx hb d_law_411 (by decide) ?_
  refine lv_iadd hx hb d_law_412 ?_
  refine lv_topi (fun v412 e412 => ?_)
  refine lw_ld hx hb hX hbl hS hL (j := 7 * tt + 2) (by omega) (by rw [e412, hi]; exact nI_add _ _) hX2 d_law_413 ?_
  refine lv_aload_n hx hb d_law_414 rfl (lv_at hl 4 rfl) ?_
  refine lv_iload hx hb d_law_415 (lv_at hl 0 rfl) ?_
  refine lv_iconst (v := 3) hx hb d_law_417 (by decide) ?_
  refine lv_iadd hx hb d_law_418 ?_
  refine lv_topi (fun v418 e418 => ?_)
  refine lw_ld hx hb hX hbl hS hL (j := 7 * tt + 3) (by omega) (by rw [e418, hi]; exact nI_add _ _) hX3 d_law_419 ?_
  refine lv_i2l hx hb d_law_420 rfl ?_
  refine lv_topl (fun v420 e420 => ?_)
  refine lv_bipush (v := 32) hx hb d_law_421 (by decide) ?_
  refine lv_lshl hx hb d_law_423 rfl ?_
  refine lv_topl (fun v423 e423 => ?_)
  refine lv_aload_n hx hb d_law_424 rfl (lv_at hl 4 rfl) ?_
  refine lv_iload hx hb d_law_425 (lv_at hl 0 rfl) ?_
  refine lv_iconst (v := 4) hx hb d_law_427 (by decide) ?_
  refine lv_iadd hx hb d_law_428 ?_
  refine lv_topi (fun v428 e428 => ?_)
  refine lw_ld hx hb hX hbl hS hL (j := 7 * tt + 4) (by omega) (by rw [e428, hi]; exact nI_add _ _) hX4 d_law_429 ?_
  refine lv_i2l hx hb d_law_430 rfl ?_
  refine lv_topl (fun v430 e430 => ?_)
  refine lv_ldc2 (v := 4294967295) hx hb hown (hts (.constantLong R_L 49 4294967295) (by decide +kernel)) d_law_431 ?_
  refine lv_land hx hb d_law_434 ?_
  refine lv_topl (fun v434 e434 => ?_)
  refine lv_lor hx hb d_law_435 ?_
  refine lv_topl (fun v435 e435 => ?_)
  obtain rfl : v435 = lw_j X3 X4 := by rw [e435, e423, e420, e434, e430]; rfl
  refine lv_aload_n hx hb d_law_436 rfl (lv_at hl 4 rfl) ?_
  refine lv_iload hx hb d_law_437 (lv_at hl 0 rfl) ?_
  refine lv_iconst (v := 5) hx hb d_law_439 (by decide) ?_
  refine lv_iadd hx hb d_law_440 ?_
  refine lv_topi (fun v440 e440 => ?_)
  refine lw_ld hx hb hX hbl hS hL (j := 7 * tt + 5) (by omega) (by rw [e440, hi]; exact nI_add _ _) hX5 d_law_441 ?_
  refine lv_i2l hx hb d_law_442 rfl ?_
  refine lv_topl (fun v442 e442 => ?_)
  refine lv_bipush (v := 32) hx hb d_law_443 (by decide) ?_
  refine lv_lshl hx hb d_law_445 rfl ?_
  refine lv_topl (fun v445 e445 => ?_)
  refine lv_aload_n hx hb d_law_446 rfl (lv_at hl 4 rfl) ?_
  refine lv_iload hx hb d_law_447 (lv_at hl 0 rfl) ?_
  refine lv_bipush (v := 6) hx hb d_law_449 (by decide) ?_
  refine lv_iadd hx hb d_law_451 ?_
  refine lv_topi (fun v451 e451 => ?_)
  refine lw_ld hx hb hX hbl hS hL (j := 7 * tt + 6) (by omega) (by rw [e451, hi]; exact nI_add _ _) hX6 d_law_452 ?_
  refine lv_i2l hx hb d_law_453 rfl ?_
  refine lv_topl (fun v453 e453 => ?_)
  refine lv_ldc2 (v := 4294967295) hx hb hown (hts (.constantLong R_L 49 4294967295) (by decide +kernel)) d_law_454 ?_
  refine lv_land hx hb d_law_457 ?_
  refine lv_topl (fun v457 e457 => ?_)
  refine lv_lor hx hb d_law_458 ?_
  refine lv_topl (fun v458 e458 => ?_)
  obtain rfl : v458 = lw_j X5 X6 := by rw [e458, e445, e442, e457, e453]; rfl
  refine lv_aload_n hx hb d_law_459 rfl (lv_at hl 1 rfl) ?_
  have hPc := hP.sub (ws' := [(q0, .inr (0, [])), (q2, .inl (cA, 1, .inr (.inl f)))]) [0, 2] rfl
  have hDc := hD.sub (ws' := [(q0, .inr (0, [])), (q2, .inl (cA, 1, .inr (.inl f)))]) [0, 2] (by decide) rfl
  have hFc := va_free (wc := [(q0, .inr (0, [])), (q2, .inl (cA, 1, .inr (.inl f)))]) hD hS hA [0, 2] rfl
  have hcw9 := th_cwSW (R := room_1) (rm := { frames := 7, cells := 1, slots := 6, locals := 140 }) (mc := 1) (ms := 6) 6 hts g_law_61 rfl rfl rfl (by decide +kernel) ⟨Nat.le_of_ble_eq_true rfl, Nat.le_of_ble_eq_true rfl⟩
  refine va_calli (th_runSW (As := [.ref q0, .int X1, .int X2, .long (lw_j X3 X4), .long (lw_j X5 X6), .ref q2]) (rest := []) ⟨hx, hb, hml, hown, hts⟩ (c_L_between l hfl dC dI s.heap.size q0 q2 H.size cA f X1 X2 (lw_j X3 X4) (lw_j X5 X6)) hcw9.1 hcw9.2 ⟨fun a U g mk q => by obtain ⟨q0, q1, qP, qK, qD, qZ⟩ := q; exact ⟨q0, q1, qP, va_K.moved (u := U) (U := U.calling g mk a) (Vm.Alike.refl U.vm) qK, qD, th_Z.call qZ⟩, fun U hU hW => ⟨rfl, by rw [hU], by rw [hU]; exact hPc, va_K.moved hW.alike hK, hDc.weaken (fun _ _ _ _ => trivial), th_Z.to hZ hW (fun q h1 h2 => by rw [hU]; exact hS.2.1 q h1 h2)⟩⟩ rfl rfl hl.1 rfl (lv_room (Nat.le_of_ble_eq_true rfl)) d_law_460 ⟨by show _ ≤ 1034; omega, by show _ ≤ 8239; omega⟩) hS (fun q _ h => hFc q h) hFc (fun v460 g460 t H1 locs ht hvm hw hB hz1 hk1 hS => ?_)
  obtain ⟨hP1, hK1, hD1⟩ := hB
  rw [ht] at hP1
  have e460 := hw
  try dsimp only at e460
  obtain ⟨hP, hD⟩ := va_join (wr := [(q1, .inr (1, [.int th, .long up, .long lo, .long le]))]) (w1 := [(q0, .inr (0, [])), (q2, .inl (cA, 1, .inr (.inl g460)))]) hP hD [0, 2] [1] rfl rfl (by decide) (by decide) hk1 hFc hP1 hD1
  generalize H1 = H at hP hS ⊢
  have hP := hP.sub (ws' := [(q0, .inr (0, [])), (q1, .inr (1, [.int th, .long up, .long lo, .long le])), (q2, .inl (cA, 1, .inr (.inl g460)))]) [1, 0, 2] rfl
  have hD := hD.sub (ws' := [(q0, .inr (0, [])), (q1, .inr (1, [.int th, .long up, .long lo, .long le])), (q2, .inl (cA, 1, .inr (.inl g460)))]) [1, 0, 2] (by decide) rfl
  refine lv_istore (lv' := [(5, .int v460), (4, .int iv), (3, .ref q2), (2, .ref q1), (1, .ref q0), (0, .ref b)]) hx hb d_law_463 hl (by decide) rfl (fun ls hl => ?_)
  refine lv_aload_n hx hb d_law_465 rfl (lv_at hl 3 rfl) ?_
  refine lv_aload_n hx hb d_law_466 rfl (lv_at hl 5 rfl) ?_
  refine lv_iload hx hb d_law_467 (lv_at hl 1 rfl) ?_
  refine lv_iconst (v := 1) hx hb d_law_469 (by decide) ?_
  refine lv_iadd hx hb d_law_470 ?_
  refine lv_topi (fun v470 e470 => ?_)
  refine lw_ld hx hb hX hbl hS hL (j := 7 * tt + 1) (by omega) (by rw [e470, hi]; exact nI_add _ _) hX1 d_law_471 ?_
  refine lv_aload_n hx hb d_law_472 rfl (lv_at hl 5 rfl) ?_
  refine lv_iload hx hb d_law_473 (lv_at hl 1 rfl) ?_
  refine lv_iconst (v := 2) hx hb d_law_475 (by decide) ?_
  refine lv_iadd hx hb d_law_476 ?_
  refine lv_topi (fun v476 e476 => ?_)
  refine lw_ld hx hb hX hbl hS hL (j := 7 * tt + 2) (by omega) (by rw [e476, hi]; exact nI_add _ _) hX2 d_law_477 ?_
  refine lv_aload_n hx hb d_law_478 rfl (lv_at hl 5 rfl) ?_
  refine lv_iload hx hb d_law_479 (lv_at hl 1 rfl) ?_
  refine lv_iconst (v := 3) hx hb d_law_481 (by decide) ?_
  refine lv_iadd hx hb d_law_482 ?_
  refine lv_topi (fun v482 e482 => ?_)
  refine lw_ld hx hb hX hbl hS hL (j := 7 * tt + 3) (by omega) (by rw [e482, hi]; exact nI_add _ _) hX3 d_law_483 ?_
  refine lv_i2l hx hb d_law_484 rfl ?_
  refine lv_topl (fun v484 e484 => ?_)
  refine lv_bipush (v := 32) hx hb d_law_485 (by decide) ?_
  refine lv_lshl hx hb d_law_487 rfl ?_
  refine lv_topl (fun v487 e487 => ?_)
  refine lv_aload_n hx hb d_law_488 rfl (lv_at hl 5 rfl) ?_
  refine lv_iload hx hb d_law_489 (lv_at hl 1 rfl) ?_
  refine lv_iconst (v := 4) hx hb d_law_491 (by decide) ?_
  refine lv_iadd hx hb d_law_492 ?_
  refine lv_topi (fun v492 e492 => ?_)
  refine lw_ld hx hb hX hbl hS hL (j := 7 * tt + 4) (by omega) (by rw [e492, hi]; exact nI_add _ _) hX4 d_law_493 ?_
  refine lv_i2l hx hb d_law_494 rfl ?_
  refine lv_topl (fun v494 e494 => ?_)
  refine lv_ldc2 (v := 4294967295) hx hb hown (hts (.constantLong R_L 49 4294967295) (by decide +kernel)) d_law_495 ?_
  refine lv_land hx hb d_law_498 ?_
  refine lv_topl (fun v498 e498 => ?_)
  refine lv_lor hx hb d_law_499 ?_
  refine lv_topl (fun v499 e499 => ?_)
  obtain rfl : v499 = lw_j X3 X4 := by rw [e499, e487, e484, e498, e494]; rfl
  refine lv_aload_n hx hb d_law_500 rfl (lv_at hl 5 rfl) ?_
  refine lv_iload hx hb d_law_501 (lv_at hl 1 rfl) ?_
  refine lv_iconst (v := 5) hx hb d_law_503 (by decide) ?_
  refine lv_iadd hx hb d_law_504 ?_
  refine lv_topi (fun v504 e504 => ?_)
  refine lw_ld hx hb hX hbl hS hL (j := 7 * tt + 5) (by omega) (by rw [e504, hi]; exact nI_add _ _) hX5 d_law_505 ?_
  refine lv_i2l hx hb d_law_506 rfl ?_
  refine lv_topl (fun v506 e506 => ?_)
  refine lv_bipush (v := 32) hx hb d_law_507 (by decide) ?_
  refine lv_lshl hx hb d_law_509 rfl ?_
  refine lv_topl (fun v509 e509 => ?_)
  refine lv_aload_n hx hb d_law_510 rfl (lv_at hl 5 rfl) ?_
  refine lv_iload hx hb d_law_511 (lv_at hl 1 rfl) ?_
  refine lv_bipush (v := 6) hx hb d_law_513 (by decide) ?_
  refine lv_iadd hx hb d_law_515 ?_
  refine lv_topi (fun v515 e515 => ?_)
  refine lw_ld hx hb hX hbl hS hL (j := 7 * tt + 6) (by omega) (by rw [e515, hi]; exact nI_add _ _) hX6 d_law_516 ?_
  refine lv_i2l hx hb d_law_517 rfl ?_
  refine lv_topl (fun v517 e517 => ?_)
  refine lv_ldc2 (v := 4294967295) hx hb hown (hts (.constantLong R_L 49 4294967295) (by decide +kernel)) d_law_518 ?_
  refine lv_land hx hb d_law_521 ?_
  refine lv_topl (fun v521 e521 => ?_)
  refine lv_lor hx hb d_law_522 ?_
  refine lv_topl (fun v522 e522 => ?_)
  obtain rfl : v522 = lw_j X5 X6 := by rw [e522, e509, e506, e521, e517]; rfl
  have hPc := hP.sub (ws' := [(q1, .inr (1, [.int th, .long up, .long lo, .long le]))]) [1] rfl
  have hDc := hD.sub (ws' := [(q1, .inr (1, [.int th, .long up, .long lo, .long le]))]) [1] (by decide) rfl
  have hFc := va_free (wc := [(q1, .inr (1, [.int th, .long up, .long lo, .long le]))]) hD hS hA [1] rfl
  have hKc := hK.sub (tys' := []) [] rfl
  refine va_calli (va_runV (As := [.int X1, .int X2, .long (lw_j X3 X4), .long (lw_j X5 X6)]) (rest := []) ⟨hx, hb, hml, hown, hts⟩ (c_M_between l dC dI q1 H.size th up lo le X1 X2 (lw_j X3 X4) (lw_j X5 X6)) (cwV 4 hts g_law_64 rfl rfl rfl (by decide +kernel) ⟨Nat.le_of_ble_eq_true rfl, Nat.le_of_ble_eq_true rfl⟩) ⟨fun a U g mk q => by obtain ⟨q0, q1, qP, qK, qD⟩ := q; exact ⟨q0, q1, qP, va_K.moved (u := U) (U := U.calling g mk a) (Vm.Alike.refl U.vm) qK, qD⟩, va_recv hKc hPc (ci := 1) (q0 := 0) rfl rfl, fun U hU hW => ⟨rfl, by rw [hU], by rw [hU]; exact hPc, va_K.moved hW.alike hKc, hDc.weaken (fun _ _ _ _ => trivial)⟩⟩ rfl rfl hl.1 rfl (lv_room (Nat.le_of_ble_eq_true rfl)) d_law_523 ⟨by show _ ≤ 1034; omega, by show _ ≤ 8239; omega⟩) hS (fun q _ h => hFc q h) hFc (fun v523 u t H1 locs ht hvm hw hB hz1 hk1 hS => ?_)
  obtain ⟨th523, up523, lo523, le523⟩ := u
  obtain ⟨hP1, hK1, hD1⟩ := hB
  rw [ht] at hP1
  have e523 := hw
  try dsimp only at e523
  obtain ⟨hP, hD⟩ := va_join (wr := [(q0, .inr (0, [])), (q2, .inl (cA, 1, .inr (.inl g460)))]) (w1 := [(q1, .inr (1, [.int th523, .long up523, .long lo523, .long le523]))]) hP hD [1] [0, 2] rfl rfl (by decide) (by decide) hk1 hFc hP1 hD1
  generalize H1 = H at hP hS ⊢
  have hP := hP.sub (ws' := [(q0, .inr (0, [])), (q1, .inr (1, [.int th523, .long up523, .long lo523, .long le523])), (q2, .inl (cA, 1, .inr (.inl g460)))]) [0, 2, 1] rfl
  have hD := hD.sub (ws' := [(q0, .inr (0, [])), (q1, .inr (1, [.int th523, .long up523, .long lo523, .long le523])), (q2, .inl (cA, 1, .inr (.inl g460)))]) [0, 2, 1] (by decide) rfl
  refine lv_istore (lv' := [(6, .int v523), (5, .int v460), (4, .int iv), (3, .ref q2), (2, .ref q1), (1, .ref q0), (0, .ref b)]) hx hb d_law_526 hl (by decide) rfl (fun ls hl => ?_)
  refine lv_aload_n hx hb d_law_528 rfl (lv_at hl 4 rfl) ?_
  have hPc := hP.sub (ws' := [(q1, .inr (1, [.int th523, .long up523, .long lo523, .long le523]))]) [1] rfl
  have hDc := hD.sub (ws' := [(q1, .inr (1, [.int th523, .long up523, .long lo523, .long le523]))]) [1] (by decide) rfl
  have hFc := va_free (wc := [(q1, .inr (1, [.int th523, .long up523, .long lo523, .long le523]))]) hD hS hA [1] rfl
  have hKc := hK.sub (tys' := []) [] rfl
  refine va_calli (va_runV (As := []) (rest := []) ⟨hx, hb, hml, hown, hts⟩ (c_M_thrown l dC dI q1 H.size th523 up523 lo523 le523 ) (cwV 0 hts g_law_57 rfl rfl rfl (by decide +kernel) ⟨Nat.le_of_ble_eq_true rfl, Nat.le_of_ble_eq_true rfl⟩) ⟨fun a U g mk q => by obtain ⟨q0, q1, qP, qK, qD⟩ := q; exact ⟨q0, q1, qP, va_K.moved (u := U) (U := U.calling g mk a) (Vm.Alike.refl U.vm) qK, qD⟩, va_recv hKc hPc (ci := 1) (q0 := 0) rfl rfl, fun U hU hW => ⟨rfl, by rw [hU], by rw [hU]; exact hPc, va_K.moved hW.alike hKc, hDc.weaken (fun _ _ _ _ => trivial)⟩⟩ rfl rfl hl.1 rfl (lv_room (Nat.le_of_ble_eq_true rfl)) d_law_529 ⟨by show _ ≤ 1034; omega, by show _ ≤ 8239; omega⟩) hS (fun q _ h => hFc q h) hFc (fun v529 u t H1 locs ht hvm hw hB hz1 hk1 hS => ?_)
  obtain ⟨th529, up529, lo529, le529⟩ := u
  obtain ⟨hP1, hK1, hD1⟩ := hB
  rw [ht] at hP1
  have e529 := hw
  try dsimp only at e529
  obtain ⟨hP, hD⟩ := va_join (wr := [(q0, .inr (0, [])), (q2, .inl (cA, 1, .inr (.inl g460)))]) (w1 := [(q1, .inr (1, [.int th529, .long up529, .long lo529, .long le529]))]) hP hD [1] [0, 2] rfl rfl (by decide) (by decide) hk1 hFc hP1 hD1
  generalize H1 = H at hP hS ⊢
  have hP := hP.sub (ws' := [(q0, .inr (0, [])), (q1, .inr (1, [.int th529, .long up529, .long lo529, .long le529])), (q2, .inl (cA, 1, .inr (.inl g460)))]) [0, 2, 1] rfl
  have hD := hD.sub (ws' := [(q0, .inr (0, [])), (q1, .inr (1, [.int th529, .long up529, .long lo529, .long le529])), (q2, .inl (cA, 1, .inr (.inl g460)))]) [0, 2, 1] (by decide) rfl
  refine lv_iload hx hb d_law_532 (lv_at hl 1 rfl) ?_
  refine lv_icmp_eq (tgt := 539) hx hb d_law_534 (by decide) (fun c534 => ?_) (fun c534 => absurd (lw_k e460 e523 (fun z => by obtain ⟨v, z, -⟩ := z; exact lw_b0 z.1) (fun z => lw_b0 z.1) e529.1) c534)
  refine lv_iload hx hb d_law_539 (lv_at hl 1 rfl) ?_
  refine lv_if_ne (tgt := 556) hx hb d_law_541 (by decide) (fun c541 => ?_) (fun c541 => ?_)
  · skip
    refine lv_goto (tgt := 758) hx hb d_law_556 (by decide) ?_
    refine W.widen (k := 4 + tt) (n := 11 + 6 * tt) (by omega) (by omega) ?_
    exact KK th529 up529 lo529 le529 g460 _ _ _ hP hD hS (lv_sub hl [2, 3, 4, 5, 6] rfl)
  · skip
    refine lv_aload_n hx hb d_law_544 rfl (lv_at hl 3 rfl) ?_
    refine lv_iconst (v := 0) hx hb d_law_545 (by decide) ?_
    refine va_lald hx hb hK hP 2 0 rfl rfl (i := 0) (pk_in 0 1 (by decide)) d_law_546 ?_
    refine lv_topl (fun v546 e546 => ?_)
    refine lv_iload hx hb d_law_547 (lv_at hl 0 rfl) ?_
    refine lv_i2l hx hb d_law_549 rfl ?_
    refine lv_topl (fun v549 e549 => ?_)
    refine W.lcmp hx hb d_law_550 ?_
    refine lv_if_eq (tgt := 556) hx hb d_law_551 (by decide) (fun c551 => ?_) (fun c551 => absurd ((lg_cmp_eq _ _).mpr (lw_v e460 e523 (fun x y hx hy => Int32.toInt_inj.mp (hx.2.trans hy.2.symm)) (fun x hx => lw_b0 hx.1) c541 e546 e549)) c551)
    refine lv_goto (tgt := 758) hx hb d_law_556 (by decide) ?_
    refine W.widen (k := 4 + tt) (n := 11 + 6 * tt) (by omega) (by omega) ?_
    exact KK th529 up529 lo529 le529 g460 _ _ _ hP hD hS (lv_sub hl [2, 3, 4, 5, 6] rfl)
set_option maxHeartbeats 8000000 in
set_option maxRecDepth 100000 in
theorem lc_7 {p : Program} {l : Launch} {e : Env} {s : State} {m : MethodId} {below : List Frame} {meth : Method} {c : Code} {dC : Nat → ClassId} {dI : Nat → Nat → Nat} {b L : Nat} {xs : Nat → Int32} (hfl : l.flags = flags0) (hL : L ≤ 3584) (C0 : lw_At p s m meth c b L xs) (hZ : th_Z s.heap.size s) {tt : Nat} (htt : 7 * tt + 7 ≤ L) {q0 q1 q2 : Nat} {cA : ClassId} {th : Int32} {up lo le : Int64} {f : Nat → Int64} {H : Heap} {locs : List Loc} {ls : Array Slot} {iv : Int32} (hi : iv = nI (7 * tt)) (hK : va_K (dC, dI) classes [(cA, .long)] s) (hP : va_P (dC, dI) classes (WX q0 q1 q2 cA th up lo le f) H) (hD : va_D (fun q : Nat => s.heap.size ≤ q) (WX q0 q1 q2 cA th up lo le f)) (hS : va_S (fun q : Nat => s.heap.size ≤ q) s.heap H locs) (hl : lv_has ls 8 [(4, .int iv), (3, .ref q2), (2, .ref q1), (1, .ref q0), (0, .ref b)])
    (KK : ∀ (th : Int32) (up lo le : Int64) (f : Nat → Int64) (H : Heap) (locs : List Loc) (ls : Array Slot), va_P (dC, dI) classes (WX q0 q1 q2 cA th up lo le f) H → va_D (fun q : Nat => s.heap.size ≤ q) (WX q0 q1 q2 cA th up lo le f) → va_S (fun q : Nat => s.heap.size ≤ q) s.heap H locs → lv_has ls 8 [(4, .int iv), (3, .ref q2), (2, .ref q1), (1, .ref q0), (0, .ref b)] → W p l e room_1 s m #[Value.ref b] below meth c H locs (4 + tt) (11 + 6 * tt) (lw_Z below #[Value.ref b] s) (F0 m 758 ls [])) :
    W p l e room_1 s m #[Value.ref b] below meth c H locs (3 + tt) (5 + 6 * tt) (lw_Z below #[Value.ref b] s) (F0 m 584 ls []) := by
  obtain ⟨hx, hb, hr, hml, hown, hts, hX, hbl, hlocks, hgv⟩ := C0
  have hown : s.vm.findClass R_L = some m.cls := hown
  have hA : ∀ q : Nat, s.heap.size ≤ q → (fun q : Nat => s.heap.size ≤ q) q := fun _ h => h
  obtain ⟨X1, hX1⟩ : ∃ y, y = xs (7 * tt + 1) := ⟨_, rfl⟩
  have hP : va_P (dC, dI) classes [(q0, .inr (0, [])), (q1, .inr (1, [.int th, .long up, .long lo, .long le])), (q2, .inl (cA, 1, .inr (.inl f)))] H := hP
  have hD : va_D (fun q : Nat => s.heap.size ≤ q) [(q0, .inr (0, [])), (q1, .inr (1, [.int th, .long up, .long lo, .long le])), (q2, .inl (cA, 1, .inr (.inl f)))] := hD
  refine lv_aload_n hx hb d_law_584 rfl (lv_at hl 3 rfl) ?_
  refine lv_aload_n hx hb d_law_585 rfl (lv_at hl 4 rfl) ?_
  refine lv_iload hx hb d_law_586 (lv_at hl 0 rfl) ?_
  refine lv_iconst (v := 1) hx hb d_law_588 (by decide) ?_
  refine lv_iadd hx hb d_law_589 ?_
  refine lv_topi (fun v589 e589 => ?_)
  refine lw_ld hx hb hX hbl hS hL (j := 7 * tt + 1) (by omega) (by rw [e589, hi]; exact nI_add _ _) hX1 d_law_590 ?_
  refine lv_aload_n hx hb d_law_591 rfl (lv_at hl 1 rfl) ?_
  have hPc := hP.sub (ws' := [(q0, .inr (0, [])), (q2, .inl (cA, 1, .inr (.inl f)))]) [0, 2] rfl
  have hDc := hD.sub (ws' := [(q0, .inr (0, [])), (q2, .inl (cA, 1, .inr (.inl f)))]) [0, 2] (by decide) rfl
  have hFc := va_free (wc := [(q0, .inr (0, [])), (q2, .inl (cA, 1, .inr (.inl f)))]) hD hS hA [0, 2] rfl
  have hcw9 := th_cwSW (R := room_1) (rm := { frames := 7, cells := 1, slots := 6, locals := 140 }) (mc := 1) (ms := 6) 3 hts g_law_69 rfl rfl rfl (by decide +kernel) ⟨Nat.le_of_ble_eq_true rfl, Nat.le_of_ble_eq_true rfl⟩
  refine va_calli (th_runSW (As := [.ref q0, .int X1, .ref q2]) (rest := []) ⟨hx, hb, hml, hown, hts⟩ (c_L_fixed l hfl dC dI s.heap.size q0 q2 H.size cA f X1) hcw9.1 hcw9.2 ⟨fun a U g mk q => by obtain ⟨q0, q1, qP, qK, qD, qZ⟩ := q; exact ⟨q0, q1, qP, va_K.moved (u := U) (U := U.calling g mk a) (Vm.Alike.refl U.vm) qK, qD, th_Z.call qZ⟩, fun U hU hW => ⟨rfl, by rw [hU], by rw [hU]; exact hPc, va_K.moved hW.alike hK, hDc.weaken (fun _ _ _ _ => trivial), th_Z.to hZ hW (fun q h1 h2 => by rw [hU]; exact hS.2.1 q h1 h2)⟩⟩ rfl rfl hl.1 rfl (lv_room (Nat.le_of_ble_eq_true rfl)) d_law_592 ⟨by show _ ≤ 1034; omega, by show _ ≤ 8239; omega⟩) hS (fun q _ h => hFc q h) hFc (fun v592 g592 t H1 locs ht hvm hw hB hz1 hk1 hS => ?_)
  obtain ⟨hP1, hK1, hD1⟩ := hB
  rw [ht] at hP1
  have e592 := hw
  try dsimp only at e592
  obtain ⟨hP, hD⟩ := va_join (wr := [(q1, .inr (1, [.int th, .long up, .long lo, .long le]))]) (w1 := [(q0, .inr (0, [])), (q2, .inl (cA, 1, .inr (.inl g592)))]) hP hD [0, 2] [1] rfl rfl (by decide) (by decide) hk1 hFc hP1 hD1
  generalize H1 = H at hP hS ⊢
  have hP := hP.sub (ws' := [(q0, .inr (0, [])), (q1, .inr (1, [.int th, .long up, .long lo, .long le])), (q2, .inl (cA, 1, .inr (.inl g592)))]) [1, 0, 2] rfl
  have hD := hD.sub (ws' := [(q0, .inr (0, [])), (q1, .inr (1, [.int th, .long up, .long lo, .long le])), (q2, .inl (cA, 1, .inr (.inl g592)))]) [1, 0, 2] (by decide) rfl
  refine lv_istore (lv' := [(5, .int v592), (4, .int iv), (3, .ref q2), (2, .ref q1), (1, .ref q0), (0, .ref b)]) hx hb d_law_595 hl (by decide) rfl (fun ls hl => ?_)
  refine lv_aload_n hx hb d_law_597 rfl (lv_at hl 3 rfl) ?_
  refine lv_aload_n hx hb d_law_598 rfl (lv_at hl 5 rfl) ?_
  refine lv_iload hx hb d_law_599 (lv_at hl 1 rfl) ?_
  refine lv_iconst (v := 1) hx hb d_law_601 (by decide) ?_
  refine lv_iadd hx hb d_law_602 ?_
  refine lv_topi (fun v602 e602 => ?_)
  refine lw_ld hx hb hX hbl hS hL (j := 7 * tt + 1) (by omega) (by rw [e602, hi]; exact nI_add _ _) hX1 d_law_603 ?_
  have hPc := hP.sub (ws' := [(q1, .inr (1, [.int th, .long up, .long lo, .long le]))]) [1] rfl
  have hDc := hD.sub (ws' := [(q1, .inr (1, [.int th, .long up, .long lo, .long le]))]) [1] (by decide) rfl
  have hFc := va_free (wc := [(q1, .inr (1, [.int th, .long up, .long lo, .long le]))]) hD hS hA [1] rfl
  have hKc := hK.sub (tys' := []) [] rfl
  refine va_calli (va_runV (As := [.int X1]) (rest := []) ⟨hx, hb, hml, hown, hts⟩ (c_M_fixed l dC dI q1 H.size th up lo le X1) (cwV 1 hts g_law_72 rfl rfl rfl (by decide +kernel) ⟨Nat.le_of_ble_eq_true rfl, Nat.le_of_ble_eq_true rfl⟩) ⟨fun a U g mk q => by obtain ⟨q0, q1, qP, qK, qD⟩ := q; exact ⟨q0, q1, qP, va_K.moved (u := U) (U := U.calling g mk a) (Vm.Alike.refl U.vm) qK, qD⟩, va_recv hKc hPc (ci := 1) (q0 := 0) rfl rfl, fun U hU hW => ⟨rfl, by rw [hU], by rw [hU]; exact hPc, va_K.moved hW.alike hKc, hDc.weaken (fun _ _ _ _ => trivial)⟩⟩ rfl rfl hl.1 rfl (lv_room (Nat.le_of_ble_eq_true rfl)) d_law_604 ⟨by show _ ≤ 1034; omega, by show _ ≤ 8239; omega⟩) hS (fun q _ h => hFc q h) hFc (fun v604 u t H1 locs ht hvm hw hB hz1 hk1 hS => ?_)
  obtain ⟨th604, up604, lo604, le604⟩ := u
  obtain ⟨hP1, hK1, hD1⟩ := hB
  rw [ht] at hP1
  have e604 := hw
  try dsimp only at e604
  obtain ⟨hP, hD⟩ := va_join (wr := [(q0, .inr (0, [])), (q2, .inl (cA, 1, .inr (.inl g592)))]) (w1 := [(q1, .inr (1, [.int th604, .long up604, .long lo604, .long le604]))]) hP hD [1] [0, 2] rfl rfl (by decide) (by decide) hk1 hFc hP1 hD1
  generalize H1 = H at hP hS ⊢
  have hP := hP.sub (ws' := [(q0, .inr (0, [])), (q1, .inr (1, [.int th604, .long up604, .long lo604, .long le604])), (q2, .inl (cA, 1, .inr (.inl g592)))]) [0, 2, 1] rfl
  have hD := hD.sub (ws' := [(q0, .inr (0, [])), (q1, .inr (1, [.int th604, .long up604, .long lo604, .long le604])), (q2, .inl (cA, 1, .inr (.inl g592)))]) [0, 2, 1] (by decide) rfl
  refine lv_istore (lv' := [(6, .int v604), (5, .int v592), (4, .int iv), (3, .ref q2), (2, .ref q1), (1, .ref q0), (0, .ref b)]) hx hb d_law_607 hl (by decide) rfl (fun ls hl => ?_)
  refine lv_aload_n hx hb d_law_609 rfl (lv_at hl 4 rfl) ?_
  have hPc := hP.sub (ws' := [(q1, .inr (1, [.int th604, .long up604, .long lo604, .long le604]))]) [1] rfl
  have hDc := hD.sub (ws' := [(q1, .inr (1, [.int th604, .long up604, .long lo604, .long le604]))]) [1] (by decide) rfl
  have hFc := va_free (wc := [(q1, .inr (1, [.int th604, .long up604, .long lo604, .long le604]))]) hD hS hA [1] rfl
  have hKc := hK.sub (tys' := []) [] rfl
  refine va_calli (va_runV (As := []) (rest := []) ⟨hx, hb, hml, hown, hts⟩ (c_M_thrown l dC dI q1 H.size th604 up604 lo604 le604 ) (cwV 0 hts g_law_57 rfl rfl rfl (by decide +kernel) ⟨Nat.le_of_ble_eq_true rfl, Nat.le_of_ble_eq_true rfl⟩) ⟨fun a U g mk q => by obtain ⟨q0, q1, qP, qK, qD⟩ := q; exact ⟨q0, q1, qP, va_K.moved (u := U) (U := U.calling g mk a) (Vm.Alike.refl U.vm) qK, qD⟩, va_recv hKc hPc (ci := 1) (q0 := 0) rfl rfl, fun U hU hW => ⟨rfl, by rw [hU], by rw [hU]; exact hPc, va_K.moved hW.alike hKc, hDc.weaken (fun _ _ _ _ => trivial)⟩⟩ rfl rfl hl.1 rfl (lv_room (Nat.le_of_ble_eq_true rfl)) d_law_610 ⟨by show _ ≤ 1034; omega, by show _ ≤ 8239; omega⟩) hS (fun q _ h => hFc q h) hFc (fun v610 u t H1 locs ht hvm hw hB hz1 hk1 hS => ?_)
  obtain ⟨th610, up610, lo610, le610⟩ := u
  obtain ⟨hP1, hK1, hD1⟩ := hB
  rw [ht] at hP1
  have e610 := hw
  try dsimp only at e610
  obtain ⟨hP, hD⟩ := va_join (wr := [(q0, .inr (0, [])), (q2, .inl (cA, 1, .inr (.inl g592)))]) (w1 := [(q1, .inr (1, [.int th610, .long up610, .long lo610, .long le610]))]) hP hD [1] [0, 2] rfl rfl (by decide) (by decide) hk1 hFc hP1 hD1
  generalize H1 = H at hP hS ⊢
  have hP := hP.sub (ws' := [(q0, .inr (0, [])), (q1, .inr (1, [.int th610, .long up610, .long lo610, .long le610])), (q2, .inl (cA, 1, .inr (.inl g592)))]) [0, 2, 1] rfl
  have hD := hD.sub (ws' := [(q0, .inr (0, [])), (q1, .inr (1, [.int th610, .long up610, .long lo610, .long le610])), (q2, .inl (cA, 1, .inr (.inl g592)))]) [0, 2, 1] (by decide) rfl
  refine lv_iload hx hb d_law_613 (lv_at hl 1 rfl) ?_
  refine lv_icmp_eq (tgt := 620) hx hb d_law_615 (by decide) (fun c615 => ?_) (fun c615 => absurd (lw_k e592 e604 (fun z w => by obtain ⟨v, z, -⟩ := z; exact w z.1) (fun z w => w z.1) e610.1) c615)
  refine lv_iload hx hb d_law_620 (lv_at hl 1 rfl) ?_
  refine lv_if_ne (tgt := 637) hx hb d_law_622 (by decide) (fun c622 => ?_) (fun c622 => ?_)
  · skip
    refine lv_goto (tgt := 758) hx hb d_law_637 (by decide) ?_
    refine W.widen (k := 4 + tt) (n := 11 + 6 * tt) (by omega) (by omega) ?_
    exact KK th610 up610 lo610 le610 g592 _ _ _ hP hD hS (lv_sub hl [2, 3, 4, 5, 6] rfl)
  · skip
    refine lv_aload_n hx hb d_law_625 rfl (lv_at hl 3 rfl) ?_
    refine lv_iconst (v := 0) hx hb d_law_626 (by decide) ?_
    refine va_lald hx hb hK hP 2 0 rfl rfl (i := 0) (pk_in 0 1 (by decide)) d_law_627 ?_
    refine lv_topl (fun v627 e627 => ?_)
    refine lv_iload hx hb d_law_628 (lv_at hl 0 rfl) ?_
    refine lv_i2l hx hb d_law_630 rfl ?_
    refine lv_topl (fun v630 e630 => ?_)
    refine W.lcmp hx hb d_law_631 ?_
    refine lv_if_eq (tgt := 637) hx hb d_law_632 (by decide) (fun c632 => ?_) (fun c632 => absurd ((lg_cmp_eq _ _).mpr (lw_v e592 e604 (fun x y hx hy => Int32.toInt_inj.mp (hx.2.trans hy.2.symm)) (fun x hx w => w hx.1) c622 e627 e630)) c632)
    refine lv_goto (tgt := 758) hx hb d_law_637 (by decide) ?_
    refine W.widen (k := 4 + tt) (n := 11 + 6 * tt) (by omega) (by omega) ?_
    exact KK th610 up610 lo610 le610 g592 _ _ _ hP hD hS (lv_sub hl [2, 3, 4, 5, 6] rfl)
set_option maxHeartbeats 8000000 in
set_option maxRecDepth 100000 in
theorem lc_8 {p : Program} {l : Launch} {e : Env} {s : State} {m : MethodId} {below : List Frame} {meth : Method} {c : Code} {dC : Nat → ClassId} {dI : Nat → Nat → Nat} {b L : Nat} {xs : Nat → Int32} (hfl : l.flags = flags0) (hL : L ≤ 3584) (C0 : lw_At p s m meth c b L xs) (hZ : th_Z s.heap.size s) {tt : Nat} (htt : 7 * tt + 7 ≤ L) {q0 q1 q2 : Nat} {cA : ClassId} {th : Int32} {up lo le : Int64} {f : Nat → Int64} {H : Heap} {locs : List Loc} {ls : Array Slot} {iv : Int32} (hi : iv = nI (7 * tt)) (hK : va_K (dC, dI) classes [(cA, .long)] s) (hP : va_P (dC, dI) classes (WX q0 q1 q2 cA th up lo le f) H) (hD : va_D (fun q : Nat => s.heap.size ≤ q) (WX q0 q1 q2 cA th up lo le f)) (hS : va_S (fun q : Nat => s.heap.size ≤ q) s.heap H locs) (hl : lv_has ls 8 [(4, .int iv), (3, .ref q2), (2, .ref q1), (1, .ref q0), (0, .ref b)])
    (KK : ∀ (th : Int32) (up lo le : Int64) (f : Nat → Int64) (H : Heap) (locs : List Loc) (ls : Array Slot), va_P (dC, dI) classes (WX q0 q1 q2 cA th up lo le f) H → va_D (fun q : Nat => s.heap.size ≤ q) (WX q0 q1 q2 cA th up lo le f) → va_S (fun q : Nat => s.heap.size ≤ q) s.heap H locs → lv_has ls 8 [(4, .int iv), (3, .ref q2), (2, .ref q1), (1, .ref q0), (0, .ref b)] → W p l e room_1 s m #[Value.ref b] below meth c H locs (4 + tt) (11 + 6 * tt) (lw_Z below #[Value.ref b] s) (F0 m 758 ls [])) :
    W p l e room_1 s m #[Value.ref b] below meth c H locs (3 + tt) (5 + 6 * tt) (lw_Z below #[Value.ref b] s) (F0 m 640 ls []) := by
  obtain ⟨hx, hb, hr, hml, hown, hts, hX, hbl, hlocks, hgv⟩ := C0
  have hown : s.vm.findClass R_L = some m.cls := hown
  have hA : ∀ q : Nat, s.heap.size ≤ q → (fun q : Nat => s.heap.size ≤ q) q := fun _ h => h
  obtain ⟨X1, hX1⟩ : ∃ y, y = xs (7 * tt + 1) := ⟨_, rfl⟩
  obtain ⟨X2, hX2⟩ : ∃ y, y = xs (7 * tt + 2) := ⟨_, rfl⟩
  have hP : va_P (dC, dI) classes [(q0, .inr (0, [])), (q1, .inr (1, [.int th, .long up, .long lo, .long le])), (q2, .inl (cA, 1, .inr (.inl f)))] H := hP
  have hD : va_D (fun q : Nat => s.heap.size ≤ q) [(q0, .inr (0, [])), (q1, .inr (1, [.int th, .long up, .long lo, .long le])), (q2, .inl (cA, 1, .inr (.inl f)))] := hD
  refine lv_aload_n hx hb d_law_640 rfl (lv_at hl 3 rfl) ?_
  refine lv_aload_n hx hb d_law_641 rfl (lv_at hl 4 rfl) ?_
  refine lv_iload hx hb d_law_642 (lv_at hl 0 rfl) ?_
  refine lv_iconst (v := 1) hx hb d_law_644 (by decide) ?_
  refine lv_iadd hx hb d_law_645 ?_
  refine lv_topi (fun v645 e645 => ?_)
  refine lw_ld hx hb hX hbl hS hL (j := 7 * tt + 1) (by omega) (by rw [e645, hi]; exact nI_add _ _) hX1 d_law_646 ?_
  refine lv_aload_n hx hb d_law_647 rfl (lv_at hl 4 rfl) ?_
  refine lv_iload hx hb d_law_648 (lv_at hl 0 rfl) ?_
  refine lv_iconst (v := 2) hx hb d_law_650 (by decide) ?_
  refine lv_iadd hx hb d_law_651 ?_
  refine lv_topi (fun v651 e651 => ?_)
  refine lw_ld hx hb hX hbl hS hL (j := 7 * tt + 2) (by omega) (by rw [e651, hi]; exact nI_add _ _) hX2 d_law_652 ?_
  refine lv_aload_n hx hb d_law_653 rfl (lv_at hl 1 rfl) ?_
  have hPc := hP.sub (ws' := [(q0, .inr (0, [])), (q2, .inl (cA, 1, .inr (.inl f)))]) [0, 2] rfl
  have hDc := hD.sub (ws' := [(q0, .inr (0, [])), (q2, .inl (cA, 1, .inr (.inl f)))]) [0, 2] (by decide) rfl
  have hFc := va_free (wc := [(q0, .inr (0, [])), (q2, .inl (cA, 1, .inr (.inl f)))]) hD hS hA [0, 2] rfl
  have hcw9 := th_cwSW (R := room_1) (rm := { frames := 7, cells := 1, slots := 6, locals := 140 }) (mc := 1) (ms := 6) 4 hts g_law_73 rfl rfl rfl (by decide +kernel) ⟨Nat.le_of_ble_eq_true rfl, Nat.le_of_ble_eq_true rfl⟩
  refine va_calli (th_runSW (As := [.ref q0, .int X1, .int X2, .ref q2]) (rest := []) ⟨hx, hb, hml, hown, hts⟩ (c_L_shade l hfl dC dI s.heap.size q0 q2 H.size cA f X1 X2) hcw9.1 hcw9.2 ⟨fun a U g mk q => by obtain ⟨q0, q1, qP, qK, qD, qZ⟩ := q; exact ⟨q0, q1, qP, va_K.moved (u := U) (U := U.calling g mk a) (Vm.Alike.refl U.vm) qK, qD, th_Z.call qZ⟩, fun U hU hW => ⟨rfl, by rw [hU], by rw [hU]; exact hPc, va_K.moved hW.alike hK, hDc.weaken (fun _ _ _ _ => trivial), th_Z.to hZ hW (fun q h1 h2 => by rw [hU]; exact hS.2.1 q h1 h2)⟩⟩ rfl rfl hl.1 rfl (lv_room (Nat.le_of_ble_eq_true rfl)) d_law_654 ⟨by show _ ≤ 1034; omega, by show _ ≤ 8239; omega⟩) hS (fun q _ h => hFc q h) hFc (fun v654 g654 t H1 locs ht hvm hw hB hz1 hk1 hS => ?_)
  obtain ⟨hP1, hK1, hD1⟩ := hB
  rw [ht] at hP1
  have e654 := hw
  try dsimp only at e654
  obtain ⟨hP, hD⟩ := va_join (wr := [(q1, .inr (1, [.int th, .long up, .long lo, .long le]))]) (w1 := [(q0, .inr (0, [])), (q2, .inl (cA, 1, .inr (.inl g654)))]) hP hD [0, 2] [1] rfl rfl (by decide) (by decide) hk1 hFc hP1 hD1
  generalize H1 = H at hP hS ⊢
  have hP := hP.sub (ws' := [(q0, .inr (0, [])), (q1, .inr (1, [.int th, .long up, .long lo, .long le])), (q2, .inl (cA, 1, .inr (.inl g654)))]) [1, 0, 2] rfl
  have hD := hD.sub (ws' := [(q0, .inr (0, [])), (q1, .inr (1, [.int th, .long up, .long lo, .long le])), (q2, .inl (cA, 1, .inr (.inl g654)))]) [1, 0, 2] (by decide) rfl
  refine lv_istore (lv' := [(5, .int v654), (4, .int iv), (3, .ref q2), (2, .ref q1), (1, .ref q0), (0, .ref b)]) hx hb d_law_657 hl (by decide) rfl (fun ls hl => ?_)
  refine lv_aload_n hx hb d_law_659 rfl (lv_at hl 3 rfl) ?_
  refine lv_aload_n hx hb d_law_660 rfl (lv_at hl 5 rfl) ?_
  refine lv_iload hx hb d_law_661 (lv_at hl 1 rfl) ?_
  refine lv_iconst (v := 1) hx hb d_law_663 (by decide) ?_
  refine lv_iadd hx hb d_law_664 ?_
  refine lv_topi (fun v664 e664 => ?_)
  refine lw_ld hx hb hX hbl hS hL (j := 7 * tt + 1) (by omega) (by rw [e664, hi]; exact nI_add _ _) hX1 d_law_665 ?_
  refine lv_aload_n hx hb d_law_666 rfl (lv_at hl 5 rfl) ?_
  refine lv_iload hx hb d_law_667 (lv_at hl 1 rfl) ?_
  refine lv_iconst (v := 2) hx hb d_law_669 (by decide) ?_
  refine lv_iadd hx hb d_law_670 ?_
  refine lv_topi (fun v670 e670 => ?_)
  refine lw_ld hx hb hX hbl hS hL (j := 7 * tt + 2) (by omega) (by rw [e670, hi]; exact nI_add _ _) hX2 d_law_671 ?_
  have hPc := hP.sub (ws' := [(q1, .inr (1, [.int th, .long up, .long lo, .long le]))]) [1] rfl
  have hDc := hD.sub (ws' := [(q1, .inr (1, [.int th, .long up, .long lo, .long le]))]) [1] (by decide) rfl
  have hFc := va_free (wc := [(q1, .inr (1, [.int th, .long up, .long lo, .long le]))]) hD hS hA [1] rfl
  have hKc := hK.sub (tys' := []) [] rfl
  refine va_calli (va_runV (As := [.int X1, .int X2]) (rest := []) ⟨hx, hb, hml, hown, hts⟩ (c_M_shade l dC dI q1 H.size th up lo le X1 X2) (cwV 2 hts g_law_76 rfl rfl rfl (by decide +kernel) ⟨Nat.le_of_ble_eq_true rfl, Nat.le_of_ble_eq_true rfl⟩) ⟨fun a U g mk q => by obtain ⟨q0, q1, qP, qK, qD⟩ := q; exact ⟨q0, q1, qP, va_K.moved (u := U) (U := U.calling g mk a) (Vm.Alike.refl U.vm) qK, qD⟩, va_recv hKc hPc (ci := 1) (q0 := 0) rfl rfl, fun U hU hW => ⟨rfl, by rw [hU], by rw [hU]; exact hPc, va_K.moved hW.alike hKc, hDc.weaken (fun _ _ _ _ => trivial)⟩⟩ rfl rfl hl.1 rfl (lv_room (Nat.le_of_ble_eq_true rfl)) d_law_672 ⟨by show _ ≤ 1034; omega, by show _ ≤ 8239; omega⟩) hS (fun q _ h => hFc q h) hFc (fun v672 u t H1 locs ht hvm hw hB hz1 hk1 hS => ?_)
  obtain ⟨th672, up672, lo672, le672⟩ := u
  obtain ⟨hP1, hK1, hD1⟩ := hB
  rw [ht] at hP1
  have e672 := hw
  try dsimp only at e672
  obtain ⟨hP, hD⟩ := va_join (wr := [(q0, .inr (0, [])), (q2, .inl (cA, 1, .inr (.inl g654)))]) (w1 := [(q1, .inr (1, [.int th672, .long up672, .long lo672, .long le672]))]) hP hD [1] [0, 2] rfl rfl (by decide) (by decide) hk1 hFc hP1 hD1
  generalize H1 = H at hP hS ⊢
  have hP := hP.sub (ws' := [(q0, .inr (0, [])), (q1, .inr (1, [.int th672, .long up672, .long lo672, .long le672])), (q2, .inl (cA, 1, .inr (.inl g654)))]) [0, 2, 1] rfl
  have hD := hD.sub (ws' := [(q0, .inr (0, [])), (q1, .inr (1, [.int th672, .long up672, .long lo672, .long le672])), (q2, .inl (cA, 1, .inr (.inl g654)))]) [0, 2, 1] (by decide) rfl
  refine lv_istore (lv' := [(6, .int v672), (5, .int v654), (4, .int iv), (3, .ref q2), (2, .ref q1), (1, .ref q0), (0, .ref b)]) hx hb d_law_675 hl (by decide) rfl (fun ls hl => ?_)
  refine lv_aload_n hx hb d_law_677 rfl (lv_at hl 4 rfl) ?_
  have hPc := hP.sub (ws' := [(q1, .inr (1, [.int th672, .long up672, .long lo672, .long le672]))]) [1] rfl
  have hDc := hD.sub (ws' := [(q1, .inr (1, [.int th672, .long up672, .long lo672, .long le672]))]) [1] (by decide) rfl
  have hFc := va_free (wc := [(q1, .inr (1, [.int th672, .long up672, .long lo672, .long le672]))]) hD hS hA [1] rfl
  have hKc := hK.sub (tys' := []) [] rfl
  refine va_calli (va_runV (As := []) (rest := []) ⟨hx, hb, hml, hown, hts⟩ (c_M_thrown l dC dI q1 H.size th672 up672 lo672 le672 ) (cwV 0 hts g_law_57 rfl rfl rfl (by decide +kernel) ⟨Nat.le_of_ble_eq_true rfl, Nat.le_of_ble_eq_true rfl⟩) ⟨fun a U g mk q => by obtain ⟨q0, q1, qP, qK, qD⟩ := q; exact ⟨q0, q1, qP, va_K.moved (u := U) (U := U.calling g mk a) (Vm.Alike.refl U.vm) qK, qD⟩, va_recv hKc hPc (ci := 1) (q0 := 0) rfl rfl, fun U hU hW => ⟨rfl, by rw [hU], by rw [hU]; exact hPc, va_K.moved hW.alike hKc, hDc.weaken (fun _ _ _ _ => trivial)⟩⟩ rfl rfl hl.1 rfl (lv_room (Nat.le_of_ble_eq_true rfl)) d_law_678 ⟨by show _ ≤ 1034; omega, by show _ ≤ 8239; omega⟩) hS (fun q _ h => hFc q h) hFc (fun v678 u t H1 locs ht hvm hw hB hz1 hk1 hS => ?_)
  obtain ⟨th678, up678, lo678, le678⟩ := u
  obtain ⟨hP1, hK1, hD1⟩ := hB
  rw [ht] at hP1
  have e678 := hw
  try dsimp only at e678
  obtain ⟨hP, hD⟩ := va_join (wr := [(q0, .inr (0, [])), (q2, .inl (cA, 1, .inr (.inl g654)))]) (w1 := [(q1, .inr (1, [.int th678, .long up678, .long lo678, .long le678]))]) hP hD [1] [0, 2] rfl rfl (by decide) (by decide) hk1 hFc hP1 hD1
  generalize H1 = H at hP hS ⊢
  have hP := hP.sub (ws' := [(q0, .inr (0, [])), (q1, .inr (1, [.int th678, .long up678, .long lo678, .long le678])), (q2, .inl (cA, 1, .inr (.inl g654)))]) [0, 2, 1] rfl
  have hD := hD.sub (ws' := [(q0, .inr (0, [])), (q1, .inr (1, [.int th678, .long up678, .long lo678, .long le678])), (q2, .inl (cA, 1, .inr (.inl g654)))]) [0, 2, 1] (by decide) rfl
  refine lv_iload hx hb d_law_681 (lv_at hl 1 rfl) ?_
  refine lv_icmp_eq (tgt := 688) hx hb d_law_683 (by decide) (fun c683 => ?_) (fun c683 => absurd (lw_k e654 e672 (fun z w => by obtain ⟨v, z, -⟩ := z; exact w.elim (fun w => w z.1) (fun w => w z.2.1)) (fun z w => w.elim (fun w => w z.1) (fun w => w z.2.1)) e678.1) c683)
  refine lv_iload hx hb d_law_688 (lv_at hl 1 rfl) ?_
  refine lv_if_ne (tgt := 705) hx hb d_law_690 (by decide) (fun c690 => ?_) (fun c690 => ?_)
  · skip
    refine lv_goto (tgt := 758) hx hb d_law_705 (by decide) ?_
    refine W.widen (k := 4 + tt) (n := 11 + 6 * tt) (by omega) (by omega) ?_
    exact KK th678 up678 lo678 le678 g654 _ _ _ hP hD hS (lv_sub hl [2, 3, 4, 5, 6] rfl)
  · skip
    refine lv_aload_n hx hb d_law_693 rfl (lv_at hl 3 rfl) ?_
    refine lv_iconst (v := 0) hx hb d_law_694 (by decide) ?_
    refine va_lald hx hb hK hP 2 0 rfl rfl (i := 0) (pk_in 0 1 (by decide)) d_law_695 ?_
    refine lv_topl (fun v695 e695 => ?_)
    refine lv_iload hx hb d_law_696 (lv_at hl 0 rfl) ?_
    refine lv_i2l hx hb d_law_698 rfl ?_
    refine lv_topl (fun v698 e698 => ?_)
    refine W.lcmp hx hb d_law_699 ?_
    refine lv_if_eq (tgt := 705) hx hb d_law_700 (by decide) (fun c700 => ?_) (fun c700 => absurd ((lg_cmp_eq _ _).mpr (lw_v e654 e672 (fun x y hx hy => Int32.toInt_inj.mp (hx.2.2.trans hy.2.2.symm)) (fun x hx w => w.elim (fun w => w hx.1) (fun w => w hx.2.1)) c690 e695 e698)) c700)
    refine lv_goto (tgt := 758) hx hb d_law_705 (by decide) ?_
    refine W.widen (k := 4 + tt) (n := 11 + 6 * tt) (by omega) (by omega) ?_
    exact KK th678 up678 lo678 le678 g654 _ _ _ hP hD hS (lv_sub hl [2, 3, 4, 5, 6] rfl)
end
section
set_option maxHeartbeats 8000000 in
set_option maxRecDepth 100000 in
theorem law_loop {p : Program} {l : Launch} {e : Env} {s : State} {m : MethodId} {below : List Frame} {meth : Method} {c : Code} {dC : Nat → ClassId} {dI : Nat → Nat → Nat} {b L : Nat} {xs : Nat → Int32} (hfl : l.flags = flags0) (hL : L ≤ 3584) (C0 : lw_At p s m meth c b L xs) (hZ : th_Z s.heap.size s) :
    ∀ (n tt : Nat) (iv : Int32), 7 * tt ≤ L → L + 1 ≤ 7 * tt + n → iv = nI (7 * tt) → ∀ (q0 q1 q2 : Nat) (cA : ClassId) (th : Int32) (up lo le : Int64) (f : Nat → Int64) (H : Heap) (locs : List Loc), va_K (dC, dI) classes [(cA, .long)] s → va_P (dC, dI) classes (WX q0 q1 q2 cA th up lo le f) H → va_D (fun q : Nat => s.heap.size ≤ q) (WX q0 q1 q2 cA th up lo le f) → va_S (fun q : Nat => s.heap.size ≤ q) s.heap H locs → ∀ (ls : Array Slot), lv_has ls 8 [(4, .int iv), (3, .ref q2), (2, .ref q1), (1, .ref q0), (0, .ref b)] → W p l e room_1 s m #[Value.ref b] below meth c H locs (3 + tt) (5 + 6 * tt) (lw_Z below #[Value.ref b] s) (F0 m 23 ls []) := by
  obtain ⟨hx, hb, hr, hml, hown, hts, hX, hbl, hlocks, hgv⟩ := id C0
  have hbA : ¬ (fun q : Nat => s.heap.size ≤ q) b := Nat.not_le.mpr hbl
  intro n
  induction n with
  | zero =>
    intro tt iv h1 h2
    exact absurd h2 (by omega)
  | succ n ih =>
    intro tt iv ht1 ht2 hi q0 q1 q2 cA th up lo le f H locs hK hP hD hS ls hl
    refine lv_iload hx hb d_law_23 (lv_at hl 0 rfl) ?_
    refine lv_aload_n hx hb d_law_25 rfl (lv_at hl 4 rfl) ?_
    refine va_slen hx hb hX hbl hbA hS d_law_26 ?_
    refine lv_bipush (v := 7) hx hb d_law_27 (by decide) ?_
    refine lv_isub hx hb d_law_29 ?_
    refine lv_topi (fun v29 e29 => ?_)
    have e29i : v29.toInt = (L : Int) - 7 := by rw [e29]; exact pk_sub_toInt (a := L) (b := 7) (by omega) (by decide)
    have hii : iv.toInt = ((7 * tt : Nat) : Int) := by rw [hi]; exact nI_toInt (by omega)
    refine lv_icmp_gt (tgt := 764) hx hb d_law_30 (by decide) (fun c30 => ?_) (fun c30 => ?_)
    · refine lv_iconst (v := 1) hx hb d_law_764 (by decide) ?_
      refine va_forget (fun q hq => hS.2.2 q hq) ?_
      refine W.widen (k := 1034) (n := 8239) (by omega) (by omega) ?_
      exact lw_ret hx hb hr hlocks d_law_765
    · rw [Int32.lt_iff_toInt_lt, e29i, hii] at c30
      have htt : 7 * tt + 7 ≤ L := by omega
      refine lv_aload_n hx hb d_law_33 rfl (lv_at hl 4 rfl) ?_
      refine lv_iload hx hb d_law_34 (lv_at hl 0 rfl) ?_
      refine lw_ld hx hb hX hbl hS hL (j := 7 * tt) (by omega) hi rfl d_law_36 ?_
      refine lv_bipush (v := 15) hx hb d_law_37 (by decide) ?_
      refine lv_iand hx hb d_law_39 ?_
      have KK : ∀ (th : Int32) (up lo le : Int64) (f : Nat → Int64) (H : Heap) (locs : List Loc) (ls : Array Slot), va_P (dC, dI) classes (WX q0 q1 q2 cA th up lo le f) H → va_D (fun q : Nat => s.heap.size ≤ q) (WX q0 q1 q2 cA th up lo le f) → va_S (fun q : Nat => s.heap.size ≤ q) s.heap H locs → lv_has ls 8 [(4, .int iv), (3, .ref q2), (2, .ref q1), (1, .ref q0), (0, .ref b)] → W p l e room_1 s m #[Value.ref b] below meth c H locs (4 + tt) (11 + 6 * tt) (lw_Z below #[Value.ref b] s) (F0 m 758 ls []) := by
        intro th up lo le f H locs ls hP hD hS hl
        obtain ⟨v758, e758⟩ : ∃ y : Int32, y = iv + Int32.ofInt 7 := ⟨_, rfl⟩
        refine lv_iinc (v := v758) (lv' := [(4, .int v758), (3, .ref q2), (2, .ref q1), (1, .ref q0), (0, .ref b)]) hx hb d_law_758 hl (k := 0) rfl (by rw [e758]) (by decide) rfl (fun ls hl => ?_)
        refine lv_goto (tgt := 23) hx hb d_law_761 (by decide) ?_
        refine W.widen (k := 3 + (tt + 1)) (n := 5 + 6 * (tt + 1)) (by omega) (by omega) ?_
        exact ih (tt + 1) v758 (by omega) (by omega) (by rw [e758, hi]; exact nI_add (7 * tt) 7) q0 q1 q2 cA th up lo le f H locs hK hP hD hS ls hl
      obtain ⟨j, hj, hje⟩ := pk_andE (xs (7 * tt)) (m := 15) 4 (by decide)
      rw [hje]
      have hj : j < 16 := hj
      rcases Nat.lt_or_ge j 11 with hj2 | hj2
      · match j, hj2 with
        | 0, _ => exact lv_tableIn (off := 60) (tgt := 100) hx hb d_law_40 (by decide) (by decide) rfl rfl (lc_0 hfl hL C0 hZ htt hi hK hP hD hS hl KK)
        | 1, _ => exact lv_tableIn (off := 97) (tgt := 137) hx hb d_law_40 (by decide) (by decide) rfl rfl (lc_1 hfl hL C0 hZ htt hi hK hP hD hS hl KK)
        | 2, _ => exact lv_tableIn (off := 134) (tgt := 174) hx hb d_law_40 (by decide) (by decide) rfl rfl (lc_2 hfl hL C0 hZ htt hi hK hP hD hS hl KK)
        | 3, _ => exact lv_tableIn (off := 159) (tgt := 199) hx hb d_law_40 (by decide) (by decide) rfl rfl (lc_3 hfl hL C0 hZ htt hi hK hP hD hS hl KK)
        | 4, _ => exact lv_tableIn (off := 184) (tgt := 224) hx hb d_law_40 (by decide) (by decide) rfl rfl (lc_4 hfl hL C0 hZ htt hi hK hP hD hS hl KK)
        | 5, _ => exact lv_tableIn (off := 361) (tgt := 401) hx hb d_law_40 (by decide) (by decide) rfl rfl (lc_5 hfl hL C0 hZ htt hi hK hP hD hS hl KK)
        | 6, _ => exact lv_tableIn (off := 519) (tgt := 559) hx hb d_law_40 (by decide) (by decide) rfl rfl (lc_6 hfl hL C0 hZ htt hi hK hP hD hS hl KK)
        | 7, _ => exact lv_tableIn (off := 544) (tgt := 584) hx hb d_law_40 (by decide) (by decide) rfl rfl (lc_7 hfl hL C0 hZ htt hi hK hP hD hS hl KK)
        | 8, _ => exact lv_tableIn (off := 600) (tgt := 640) hx hb d_law_40 (by decide) (by decide) rfl rfl (lc_8 hfl hL C0 hZ htt hi hK hP hD hS hl KK)
        | 9, _ => exact lv_tableIn (off := 668) (tgt := 708) hx hb d_law_40 (by decide) (by decide) rfl rfl (lc_9 hfl hL C0 hZ htt hi hK hP hD hS hl KK)
        | 10, _ => exact lv_tableIn (off := 693) (tgt := 733) hx hb d_law_40 (by decide) (by decide) rfl rfl (lc_10 hfl hL C0 hZ htt hi hK hP hD hS hl KK)
      · refine lv_tableOut (tgt := 758) hx hb d_law_40 (Or.inr (by rw [nI_toInt (by omega)]; omega)) rfl ?_
        refine W.widen (k := 4 + tt) (n := 11 + 6 * tt) (by omega) (by omega) ?_
        exact KK th up lo le f H locs ls hP hD hS hl
end
section
theorem t_F_ok : ∀ k, k < 0 → parseFieldDescriptor (F_F k).2.2.1 = some (t_F k) := fun k h => absurd h (Nat.not_lt_zero k)
theorem i_FL : ∀ w ∈ u_ws R_F F_F 0, w ∈ lw_tbl := by decide +kernel
theorem i_ML : ∀ w ∈ u_ws R_M F_M 4, w ∈ lw_tbl := i_M0
/-- what a throw needs, at the law's start -/
theorem lw_Z0 {p : Program} {s : State} {m : MethodId} {meth : Method} {c : Code} {b L : Nat} {xs : Nat → Int32} (C0 : lw_At p s m meth c b L xs) : th_Z s.heap.size s := by
  obtain ⟨hx, hb, hr, hml, hown, hts, hX, hbl, hlocks, hgv⟩ := C0
  have hA : ∀ a : Nat, a < s.heap.size → ¬ (fun q : Nat => s.heap.size ≤ q) a := fun a h => Nat.not_le.mpr h
  have hg := flat_of_before _ hgv
  obtain ⟨cF, -, hcF, -⟩ := Cond.instantiable_spec (hts (.instantiable R_F 0) (by decide +kernel))
  refine ⟨⟨va_Zqof (hts (.laysStatic Bundle.tN "UNASSIGNED_STACK" Bundle.steD) (by decide +kernel)) (hts (.initialized Bundle.tN) (by decide +kernel)) (hg (.isRef (.static Bundle.tN "UNASSIGNED_STACK" Bundle.steD)) (by decide +kernel)) hA, va_Zqof (hts (.laysStatic Bundle.tN "SUPPRESSED_SENTINEL" Bundle.listD) (by decide +kernel)) (hts (.initialized Bundle.tN) (by decide +kernel)) (hg (.isRef (.static Bundle.tN "SUPPRESSED_SENTINEL" Bundle.listD)) (by decide +kernel)) hA⟩, ⟨th_L.of (hts (.laysStatic Bundle.tN "UNASSIGNED_STACK" Bundle.steD) (by decide +kernel)) hA, th_L.of (hts (.laysStatic Bundle.tN "SUPPRESSED_SENTINEL" Bundle.listD) (by decide +kernel)) hA⟩, fun w hw hk => ?_, fun z hz => ?_⟩
  · have hk2 := hk
    unfold th_k at hk2
    rw [Bool.and_eq_true] at hk2
    exact va_tabs hk2.1 rfl (hts w hw)
  · have hz2 : z = (30, "the divisor is 0") ∨ z = (46, "a long can't hold the ratio") ∨ z = (62, "d is not above 0") ∨ z = (65, "n is not 0 .. d") ∨ z = (80, "c is not 0 .. 255") ∨ z = (86, "x or y is not 0 .. 255") := by simpa [thS] using hz
    have hs : ∀ (k : Nat) (tx : String), Cond.stringRef R_F k tx ∈ lw_tbl → ∃ q, vk_R R_F k tx q s := fun k tx h => th_str (m := ⟨cF, 0⟩) hcF (hts _ h)
    rcases hz2 with rfl | rfl | rfl | rfl | rfl | rfl <;> exact hs _ _ (by decide +kernel)
set_option maxHeartbeats 8000000 in
set_option maxRecDepth 100000 in
/-- THE LAW, from its entry -/
theorem whole_start {p : Program} {e : Env} {s : State} {m : MethodId} {below : List Frame} {meth : Method} {c : Code} (l : Launch) (hfl : l.flags = flags0) {b L : Nat} {xs : Nat → Int32} (hL : L ≤ 3584) (C0 : lw_At p s m meth c b L xs) : W p l e room_1 s m #[Value.ref b] below meth c s.heap [] 0 0 (lw_Z below #[Value.ref b] s) (entryFrame m ([Value.ref b] : List Value).toArray 8) := by
  have hZ := lw_Z0 C0
  obtain ⟨hx, hb, hr, hml, hown, hts, hX, hbl, hlocks, hgv⟩ := id C0
  have hown : s.vm.findClass R_L = some m.cls := hown
  have hA : ∀ q : Nat, s.heap.size ≤ q → (fun q : Nat => s.heap.size ≤ q) q := fun _ h => h
  obtain ⟨c0, iS0, hKn0⟩ := u_known (C := R_F) (T := F_F) (N := 0) (n := 0) hts i_FL (hts (.instantiable R_F 0) (by decide +kernel))
  obtain ⟨c1, iS1, hKn1⟩ := u_known (C := R_M) (T := F_M) (N := 4) (n := 4) hts i_ML (hts (.instantiable R_M 4) (by decide +kernel))
  obtain ⟨dC, dI, hKc⟩ : ∃ (dC : Nat → ClassId) (dI : Nat → Nat → Nat), ∀ (k : Nat) (q : vw_C), classes[k]? = some q → u_Kn s q.1 q.2.1 q.2.2 (dC k) (dI k) := by
    refine ⟨fun k => if k = 0 then c0 else c1, fun k => if k = 0 then iS0 else iS1, ?_⟩
    intro k q hq
    match k, hq with
    | 0, hq => cases hq; exact hKn0
    | 1, hq => cases hq; exact hKn1
    | k + 2, hq => simp [classes] at hq
  have hS : va_S (fun q : Nat => s.heap.size ≤ q) s.heap s.heap [] := va_S.rf
  have hK : va_K (dC, dI) classes [] s := ⟨hKc, fun k q h => by simp at h⟩
  have hP : va_P (dC, dI) classes [] s.heap := fun k q h => by simp at h
  have hD : va_D (fun q : Nat => s.heap.size ≤ q) [] := ⟨fun i j p q h => by simp at h, fun k q h => by simp at h⟩
  have hl := lv_entry ([.ref b]) (n := 8) (Nat.le_of_ble_eq_true rfl)
  rw [lg_entry_eq]
  generalize (lg_sl ([.ref b]) ++ List.replicate (8 - (lg_sl ([.ref b])).length) Slot.unset).toArray = ls at hl ⊢
  have hl : lv_has ls 8 [(0, .ref b)] := hl
  refine va_new (ci := 0) (fs := []) (C := R_F) (T := F_F) (N := 0) hx hb hts i_FL t_F t_F_ok hown (hts (.classLink R_L 8 R_F) (by decide +kernel)) (hts (.instantiable R_F 0) (by decide +kernel)) (hts (.initialized R_F) (by decide +kernel)) hK hP hD hS hA rfl (fun j hj => absurd hj (Nat.not_lt_zero j)) (Nat.le_of_ble_eq_true rfl) (Nat.le_of_ble_eq_true rfl) d_law_0 (fun q0 H hP hD hS => ?_)
  have hP : va_P (dC, dI) classes [(q0, .inr (0, []))] H := hP
  have hD : va_D (fun q : Nat => s.heap.size ≤ q) [(q0, .inr (0, []))] := hD
  refine W.widen (k := 1) (n := 0) (by omega) (by omega) ?_
  refine lv_dup hx hb d_law_3 rfl ?_
  refine va_callv (va_runI (As := []) (rest := [.ref q0]) ⟨hx, hb, hml, hown, hts⟩ (c_F_init l q0) (cwI 0 hts g_law_29 rfl rfl rfl (hts (.initialized R_F) (by decide +kernel)) (hts (.methodLink R_L 29 y_F_init) (by decide +kernel)) (hts (.instanceMethod y_F_init) (by decide +kernel)) rfl (by decide +kernel) ⟨Nat.le_of_ble_eq_true rfl, Nat.le_of_ble_eq_true rfl⟩) ⟨fun _ _ _ _ q => q, fun _ _ _ => rfl⟩ rfl rfl hl.1 rfl (lv_room (Nat.le_of_ble_eq_true rfl)) d_law_4 ⟨Nat.le_of_ble_eq_true rfl, Nat.le_of_ble_eq_true rfl⟩) hS (fun q _ h => h.elim) (fun q h => h.elim) (fun u t H1 locs ht hvm hw hB hz1 hk1 hS => ?_)
  have hP := hP.kept (H1 := H1) (fun k9 q9 hq9 => hk1 _ ((hP k9 q9 hq9).lt) (fun z => z))
  generalize H1 = H at hP hS ⊢
  refine lv_astore_n (lv' := [(1, .ref q0), (0, .ref b)]) hx hb d_law_7 rfl hl (by decide) rfl (fun ls hl => ?_)
  refine va_new (ci := 1) (fs := [.int 0, .long 0, .long 0, .long 0]) (C := R_M) (T := F_M) (N := 4) hx hb hts i_ML t_M t_M_ok hown (hts (.classLink R_L 30 R_M) (by decide +kernel)) (hts (.instantiable R_M 4) (by decide +kernel)) (hts (.initialized R_M) (by decide +kernel)) hK hP hD hS hA rfl (fun j hj => by rcases (show j = 0 ∨ j = 1 ∨ j = 2 ∨ j = 3 by omega) with rfl | rfl | rfl | rfl <;> rfl) (Nat.le_of_ble_eq_true rfl) (Nat.le_of_ble_eq_true rfl) d_law_8 (fun q1 H hP hD hS => ?_)
  have hP : va_P (dC, dI) classes [(q0, .inr (0, [])), (q1, .inr (1, [.int 0, .long 0, .long 0, .long 0]))] H := hP
  have hD : va_D (fun q : Nat => s.heap.size ≤ q) [(q0, .inr (0, [])), (q1, .inr (1, [.int 0, .long 0, .long 0, .long 0]))] := hD
  refine W.widen (k := 2) (n := 4) (by omega) (by omega) ?_
  refine lv_dup hx hb d_law_11 rfl ?_
  refine va_callv (va_runI (As := []) (rest := [.ref q1]) ⟨hx, hb, hml, hown, hts⟩ (c_M_init l q1) (cwI 0 hts g_law_32 rfl rfl rfl (hts (.initialized R_M) (by decide +kernel)) (hts (.methodLink R_L 32 y_M_init) (by decide +kernel)) (hts (.instanceMethod y_M_init) (by decide +kernel)) rfl (by decide +kernel) ⟨Nat.le_of_ble_eq_true rfl, Nat.le_of_ble_eq_true rfl⟩) ⟨fun _ _ _ _ q => q, fun _ _ _ => rfl⟩ rfl rfl hl.1 rfl (lv_room (Nat.le_of_ble_eq_true rfl)) d_law_12 ⟨Nat.le_of_ble_eq_true rfl, Nat.le_of_ble_eq_true rfl⟩) hS (fun q _ h => h.elim) (fun q h => h.elim) (fun u t H1 locs ht hvm hw hB hz1 hk1 hS => ?_)
  have hP := hP.kept (H1 := H1) (fun k9 q9 hq9 => hk1 _ ((hP k9 q9 hq9).lt) (fun z => z))
  generalize H1 = H at hP hS ⊢
  refine lv_astore_n (lv' := [(2, .ref q1), (1, .ref q0), (0, .ref b)]) hx hb d_law_15 rfl hl (by decide) rfl (fun ls hl => ?_)
  refine lv_iconst (v := 1) hx hb d_law_16 (by decide) ?_
  refine va_newa (atype := .long) hx hb (hts (.arrayClass .long) (by decide +kernel)) (ty := .long) rfl hK hP hD hS hA (n := 1) (N' := 1) (a0 := (1, .inr (.inl (fun _ => 0)))) (fun _ => rfl) (by decide) (by decide) (by decide) (Nat.le_of_ble_eq_true rfl) (Nat.le_of_ble_eq_true rfl) d_law_17 (fun q2 cA H hK hP hD hS => ?_)
  have hP : va_P (dC, dI) classes (WX q0 q1 q2 cA 0 0 0 0 (fun _ => 0)) H := hP
  have hD : va_D (fun q : Nat => s.heap.size ≤ q) (WX q0 q1 q2 cA 0 0 0 0 (fun _ => 0)) := hD
  have hK : va_K (dC, dI) classes [(cA, .long)] s := hK
  refine lv_astore_n (lv' := [(3, .ref q2), (2, .ref q1), (1, .ref q0), (0, .ref b)]) hx hb d_law_19 rfl hl (by decide) rfl (fun ls hl => ?_)
  refine lv_iconst (v := 0) hx hb d_law_20 (by decide) ?_
  refine lv_istore (lv' := [(4, .int 0), (3, .ref q2), (2, .ref q1), (1, .ref q0), (0, .ref b)]) hx hb d_law_21 hl (by decide) rfl (fun ls hl => ?_)
  refine W.widen (k := 3 + 0) (n := 5 + 6 * 0) (by omega) (by omega) ?_
  exact law_loop hfl hL C0 hZ (L + 1) 0 0 (Nat.zero_le _) (by omega) nI_0.symm q0 q1 q2 cA 0 0 0 0 (fun _ => 0) H _ hK hP hD hS ls hl
set_option maxHeartbeats 4000000 in
theorem lw_walk (l : Launch) (hfl : l.flags = flags0) (b : Addr) (xs : List Int32) : MetFree l x (headSpec (Jvm.Cond.code x code maxLocals ret :: tables_1) room_1) (lw_P b xs) (fun _ _ _ _ _ => True) lw_Q := by
  refine MetFree.of_bodyS (code := code) (maxLocals := maxLocals) (ret := ret) (by decide) ?_ ?_
  · intro args s m h hn
    obtain ⟨meth, c, h1, h2, h3, h4, h5, h6, -, -⟩ := Cond.code_spec hn (atoms_spec (ws := Jvm.Cond.code x code maxLocals ret :: tables_1) h _ List.mem_cons_self)
    exact ⟨meth, c, h1, h2, h3, h4, h5, h6⟩
  · intro p e s m args below meth c s₁ B hml0 hP _
    obtain ⟨rfl, hx, hbd, hgv⟩ := hP
    obtain ⟨scr, harrAt, hlist, hof, hsmall⟩ := hx
    obtain ⟨hcb, hkn, -, -⟩ := State.arrayAt?_spec harrAt
    have hown : s.vm.findClass R_law = some m.cls := findClass_of_methodNamed B.named
    have hts0 : ∀ c ∈ (Jvm.Cond.code x code maxLocals ret :: tables_1), c.before #[Value.ref b] s = true := atoms_spec (ws := Jvm.Cond.code x code maxLocals ret :: tables_1) B.pre
    have hts : ∀ w ∈ lw_tbl, w.before #[Value.ref b] s = true := k2_hts_sels lw_privs (fun w hw => hts0 w (List.mem_cons_of_mem _ hw)) lw_privs_ok
    have hml : c.maxLocals = 8 := B.maxLocals_eq (hts0 _ List.mem_cons_self)
    have X₀ : Stand p l e room_1 s m #[Value.ref b] below meth c s₁ [] 0 0 := Stand.of_body B
    have hh0 : s₁.heap = s.heap := by rw [B.state]; rfl
    have hsz : scr.slots.size = xs.length := by rw [← Array.length_toList, hlist, List.length_map]
    have hval : ∀ j : Nat, j < xs.length → scr.slots[j]? = some (.int (xs.getD j 0)) := fun j hj => by
      rw [← Array.getElem?_toList, hlist]
      simp [hj]
    have hbl : b < s.heap.size := (Array.getElem?_eq_some_iff.mp hcb).1
    have hX : va_X b xs.length (fun j => xs.getD j 0) s s.heap := ⟨scr, hcb, hof, hkn, hsz, hval⟩
    have K : W p l e room_1 s m #[Value.ref b] below meth c s₁.heap [] 0 0 (lw_Z below #[Value.ref b] s) (entryFrame m ([Value.ref b] : List Value).toArray 8) := by
      rw [hh0]
      exact whole_start l hfl hbd ⟨B.exec, B.bytes, B.returns, hml, hown, hts, hX, hbl, B.notSynchronized, hgv⟩
    obtain ⟨t, a1, o, b1, b2, b3⟩ := K s₁ rfl X₀
    exact ⟨t, o, a1, b1, b2, b3⟩
theorem lw_pre_spec {args : Array Value} {s : State} (h : (Jvm.Cond.and given_1 narrow_1).before args s = true) (hr : rest_1_c.before args s = true) : ∃ (b : Addr) (xs : List Int32), lw_P b xs args s := by
  have hs := flat_of_before _ h
  have hq := flat_of_before _ hr
  have hc : (Cond.count 1).before args s = true := hs _ (by decide +kernel)
  have harr : (Cond.arrayOf (.arg 0) .int).before args s = true := hs _ (by decide +kernel)
  have hle : (Cond.le (.length (.arg 0)) (.int 3584)).before args s = true := hs _ (by decide +kernel)
  have hlen : (Cond.isInt (.length (.arg 0))).before args s = true := hq _ (by decide +kernel)
  have hall : (Cond.all (.arg 0) (.isInt (.elem (.arg 0) (.index 0)))).before args s = true := hq _ (by decide +kernel)
  obtain ⟨b, xs, hb, hx⟩ := State.ints_of_pre rfl harr hlen hall
  have hsm : xs.length < 2 ^ 31 := hx.choose_spec.2.2.2
  have hev : (Term.length (.arg 0)).eval args s none [] s = some (.int xs.length.toInt32) := hx.length_eval hb
  have hv := Cond.le_ints hev (show (Term.int 3584).eval args s none [] s = some (.int 3584) from rfl)
  have hd : xs.length.toInt32 ≤ 3584 := by
    simpa [Cond.before, Cond.holds, hv] using hle
  have hN : xs.length ≤ 3584 := (Int32.ofNat_le_ofNat hsm (by decide)).mp (show Int32.ofNat xs.length ≤ Int32.ofNat 3584 from hd)
  exact ⟨b, xs, Cond.one_arg hc (show args[0]? = some (.ref b) from hb), hx, hN, h⟩
theorem lw_comes (l : Launch) (hfl : l.flags = flags0) : Comes l x (Jvm.Cond.code x code maxLocals ret :: tables_1) room_1 (fun tb e args s => Calls_1 tb e args s ∧ rest_1 tb e args s ∧ Pre_1 tb e args s)
    (fun _ _ args s o t => lw_Q args s o t) := by
  intro p e ha hc hk s m args below hf hfit hheap happ hpre
  obtain ⟨b, xs, hP⟩ := lw_pre_spec hpre.2.2 hpre.2.1
  obtain ⟨k, o, h1, h2, h3, hQ⟩ := lw_walk l hfl b xs p e ha hc hk s m args below hf ((Spec.applies_iff_loose hf).mp happ).1 hP trivial
  exact ⟨k, o, h1, h2, h3, hQ⟩
theorem lw_frame {s t : State} {o : Outcome} {args : Array Value} (h : Framed s o t [] 1034 8239) :
    Framed s o t (fieldLocs frame_1_writes args s ++ arrayLocs frame_1_arrays args s ++ staticLocs frame_1_statics s) 1034 8239 := h
theorem lw_limb (L : Cond) (hL : ∀ (args : Array Value) (s t : State), L.after args s (.returned (some (.int 1))) t = true) :
    ArmFor flags0 classFile x code maxLocals ret World_1 tables_1 room_1 Calls_1 rest_1 Pre_1
      (fun tb e a s o t => postC L tb e a s o t ∧ Framed s o t (fieldLocs frame_1_writes a s ++ arrayLocs frame_1_arrays a s ++ staticLocs frame_1_statics s) 1034 8239) := by
  intro l hfl _ _ p e ha hc hk s m args below hf hfit hheap happ hpre
  obtain ⟨k, o, h1, h2, h3, rfl, hF⟩ := lw_comes l hfl p e ha hc hk s m args below hf hfit hheap happ hpre
  exact ⟨k, _, h1, h2, h3, hL args s _, lw_frame hF⟩
theorem i_vc : Claimed_1_1 ∧ Claimed_1_2 := ⟨lw_limb limb_1_1 (fun args s t => by simp [limb_1_1, Cond.after, Cond.holds, Cond.value]), lw_limb limb_1_2 (fun args s t => Cond.after_iff.mpr (by
  first | (rw [show limb_1_2 = Cond.eq .result (.int 1) from rfl, Cond.eq_ints (x := 1) (y := 1) rfl rfl]; simp; done) | (simp [limb_1_2, Cond.value, Term.eval]; done)))⟩
end
