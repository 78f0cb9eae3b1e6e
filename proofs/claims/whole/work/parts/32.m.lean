/-! the reference: digits, burns -/
theorem bf_10lt {m : Nat} (h : m ≤ 9) : 10 ^ m < 2 ^ 31 := Nat.lt_of_le_of_lt (Nat.pow_le_pow_right (by decide) h) (by decide)
theorem c_X9_ten {d : Nat} (hd : 1 ≤ d) (D : bf_D) {m : Nat} (hm : m ≤ 9) : bf_Cf d mX9_ten [.ref 37, .int (nI m)] D (some (.int (nI (10 ^ m)))) D := by
  refine bf_Cf_of 0 hd mo_X9_ten (Nat.le_of_ble_eq_true rfl) (fun e he J r => ?_)
  show J 0 [some (.ref 37), some (.int (nI m)), none, none] [] (bf_MD D)
  refine bf_iconst r.1 (v := nI 1) dX9_ten_0 rfl ?_
  refine bf_istore_n r.1 (L2 := [some (.ref 37), some (.int (nI m)), some (.int (nI 1)), none]) dX9_ten_1 rfl ?_
  refine bf_iconst r.1 (v := nI 0) dX9_ten_2 rfl ?_
  refine bf_istore_n r.1 (L2 := [some (.ref 37), some (.int (nI m)), some (.int (nI 1)), some (.int (nI 0))]) dX9_ten_3 rfl ?_
  have loop : ∀ j : Nat, j ≤ m → J 4 [some (.ref 37), some (.int (nI m)), some (.int (nI (10 ^ j))), some (.int (nI j))] [] (bf_MD D) := by
    refine bf_down (fun j hle ih => ?_)
    refine bf_iload_n r.1 dX9_ten_4 rfl ?_
    refine bf_iload_n r.1 dX9_ten_5 rfl ?_
    refine nc_ge r (tgt := 20) dX9_ten_6 (by decide) (by omega) (by omega) (fun c300 => ?_) (fun c300 => ?_)
    · refine bf_iload_n r.1 dX9_ten_20 rfl ?_
      have ej : j = m := by omega
      subst ej
      exact rt_i r dX9_ten_21 rfl rfl rfl rfl
    · refine bf_iload_n r.1 dX9_ten_9 rfl ?_
      refine bf_bipush r.1 (v := nI 10) dX9_ten_10 rfl ?_
      refine na_mul r dX9_ten_12  ?_
      refine bf_istore_n r.1 (L2 := [some (.ref 37), some (.int (nI m)), some (.int (nI ((10 ^ j) * 10))), some (.int (nI j))]) dX9_ten_13 rfl ?_
      refine na_inc r (v := j + 1) (L2 := [some (.ref 37), some (.int (nI m)), some (.int (nI ((10 ^ j) * 10))), some (.int (nI (j + 1)))]) dX9_ten_14 rfl (nI_add _ 1) rfl ?_
      refine bf_goto r.1 (tgt := 4) dX9_ten_17 (by decide) ?_
      exact ih (by omega)
  exact loop 0 (by omega) 
theorem c_X9_last {d : Nat} (hd : 2 ≤ d) {D : bf_D} {P : bf_Pn} (hv : vP P) (hm : mP D P) : bf_Cf d mX9_last [.ref 37] D (some (.int (nI (pX P - 1)))) D := by
  refine bf_Cf_of 1 hd mo_X9_last (Nat.le_of_ble_eq_true rfl) (fun e he J r => ?_)
  show J 0 [some (.ref 37)] [] (bf_MD D)
  have hn4 := hv.1
  have hx4 := pX_le hv
  have hx0 := pX_pos P
  refine bf_aload_n r.1 dX9_last_0 rfl ?_
  refine bf_aload_n r.1 dX9_last_1 rfl ?_
  refine ig_int r (v := nI (pN P)) dX9_last_2 fl_X9_77 rfl (by decide) rfl (mP_n (P := P) hm) ?_
  refine cl_v r (y2 := mX9_ten) dX9_last_5 li_X9_154 mv_X9_ten rfl (by decide) [.int (nI (pN P))] [] rfl (Nat.le_of_ble_eq_true rfl) rfl (c_X9_ten (by omega) D (by omega)) ?_
  show J 8 [some (.ref 37)] [.int (nI (10 ^ (pN P)))] (bf_MD D)
  show J 8 [some (.ref 37)] [.int (nI (pX P))] (bf_MD D)
  refine bf_iconst r.1 (v := nI 1) dX9_last_8 rfl ?_
  refine na_sub r dX9_last_9 (by omega) ?_
  exact rt_i r dX9_last_10 rfl rfl rfl rfl
theorem c_X9_digitAt {d : Nat} (hd : 2 ≤ d) {D : bf_D} {P : bf_Pn} (hv : vP P) (hm : mP D P) {k u : Nat} (hk : k < pN P) (hu : u < 2 ^ 31) : bf_Cf d mX9_digitAt [.ref 37, .int (nI k), .int (nI u)] D (some (.int (nI (pG P u k)))) D := by
  refine bf_Cf_of 1 hd mo_X9_digitAt (Nat.le_of_ble_eq_true rfl) (fun e he J r => ?_)
  show J 0 [some (.ref 37), some (.int (nI k)), some (.int (nI u))] [] (bf_MD D)
  have hn4 := hv.1
  have hx4 := pX_le hv
  have hx0 := pX_pos P
  refine bf_iload_n r.1 dX9_digitAt_0 rfl ?_
  refine bf_aload_n r.1 dX9_digitAt_1 rfl ?_
  refine bf_aload_n r.1 dX9_digitAt_2 rfl ?_
  refine ig_int r (v := nI (pN P)) dX9_digitAt_3 fl_X9_77 rfl (by decide) rfl (mP_n (P := P) hm) ?_
  refine bf_iconst r.1 (v := nI 1) dX9_digitAt_6 rfl ?_
  refine na_sub r dX9_digitAt_7 (by omega) ?_
  refine bf_iload_n r.1 dX9_digitAt_8 rfl ?_
  refine na_sub r dX9_digitAt_9 (by omega) ?_
  refine cl_v r (y2 := mX9_ten) dX9_digitAt_10 li_X9_154 mv_X9_ten rfl (by decide) [.int (nI ((pN P - 1) - k))] [.int (nI u)] rfl (Nat.le_of_ble_eq_true rfl) rfl (c_X9_ten (by omega) D (by omega)) ?_
  show J 13 [some (.ref 37), some (.int (nI k)), some (.int (nI u))] [.int (nI (10 ^ ((pN P - 1) - k))), .int (nI u)] (bf_MD D)
  refine na_div r dX9_digitAt_13 hu (Nat.pow_pos (by decide)) (bf_10lt (by omega)) ?_
  refine bf_bipush r.1 (v := nI 10) dX9_digitAt_14 rfl ?_
  refine na_rem r dX9_digitAt_16 (Nat.lt_of_le_of_lt (Nat.div_le_self _ _) hu) (by decide) (by decide) ?_
  exact rt_i r dX9_digitAt_17 rfl rfl rfl rfl
theorem c_X9_noNumber {d : Nat} (hd : 3 ≤ d) {D : bf_D} {P : bf_Pn} (hv : vP P) (hm : mP D P) (v : Int32) : bf_Cf d mX9_noNumber [.ref 37, .int (v)] D (some (.int (if ¬ (0 ≤ v ∧ v < nI (pX P)) then 1 else 0))) D := by
  refine bf_Cf_of 2 hd mo_X9_noNumber (Nat.le_of_ble_eq_true rfl) (fun e he J r => ?_)
  show J 0 [some (.ref 37), some (.int (v))] [] (bf_MD D)
  have hn4 := hv.1
  have hx4 := pX_le hv
  have hx0 := pX_pos P
  refine bf_iload_n r.1 dX9_noNumber_0 rfl ?_
  refine bf_i2l r.1 dX9_noNumber_1 ?_
  refine bf_lconst r.1 (v := lN 0) dX9_noNumber_2 rfl ?_
  refine bf_aload_n r.1 dX9_noNumber_3 rfl ?_
  refine cl_v r (y2 := mX9_last) dX9_noNumber_4 li_X9_181 mv_X9_last rfl (by decide) [] [.long (lN 0), .long (v.toInt64)] rfl (Nat.le_of_ble_eq_true rfl) rfl (c_X9_last (by omega) hv hm) ?_
  show J 7 [some (.ref 37), some (.int (v))] [.int (nI (pX P - 1)), .long (lN 0), .long (v.toInt64)] (bf_MD D)
  refine na_i2l r dX9_noNumber_7 (by omega) ?_
  refine cl_s r (y2 := mX9_in) dX9_noNumber_8 li_X9_80 mv_X9_in [.long (v.toInt64), .long (lN 0), .long (lN (pX P - 1))] [] rfl (Nat.le_of_ble_eq_true rfl) rfl (c_X9_in32 (by omega) D v (h := pX P - 1) (m := pX P) (by omega) (by omega)) ?_
  show J 11 [some (.ref 37), some (.int (v))] [.int (if 0 ≤ v ∧ v < nI (pX P) then 1 else 0)] (bf_MD D)
  refine nb_ne r (tgt := 18) dX9_noNumber_11 (by decide) (fun c301 => ?_) (fun c301 => ?_)
  · refine bf_iconst r.1 (v := nI 0) dX9_noNumber_18 rfl ?_
    exact rt_i r dX9_noNumber_19 rfl (by decide) (if_neg (fun q => q c301)).symm rfl
  · refine bf_iconst r.1 (v := nI 1) dX9_noNumber_14 rfl ?_
    refine bf_goto r.1 (tgt := 19) dX9_noNumber_15 (by decide) ?_
    exact rt_i r dX9_noNumber_19 rfl (by decide) (if_pos c301).symm rfl
theorem c_X9_digitsOf {d : Nat} (hd : 5 ≤ d) {D : bf_D} {P : bf_Pn} (hv : vP P) (hm : mP D P) {k : Nat} (hk : k < pN P) {x : Nat} (hx : x < 2 ^ 31) : bf_Cf d mX9_digitsOf [.ref 37, .int (nI k), .int (nI x)] D (some (.int (nI (pM P k x)))) D := by
  refine bf_Cf_of 4 hd mo_X9_digitsOf (Nat.le_of_ble_eq_true rfl) (fun e he J r => ?_)
  show J 0 [some (.ref 37), some (.int (nI k)), some (.int (nI x)), none, none] [] (bf_MD D)
  have hn4 := hv.1
  have hx4 := pX_le hv
  have hx0 := pX_pos P
  refine bf_iconst r.1 (v := nI 0) dX9_digitsOf_0 rfl ?_
  refine bf_istore_n r.1 (L2 := [some (.ref 37), some (.int (nI k)), some (.int (nI x)), some (.int (nI 0)), none]) dX9_digitsOf_1 rfl ?_
  refine bf_iconst r.1 (v := nI 0) dX9_digitsOf_2 rfl ?_
  refine bf_istore r.1 (L2 := [some (.ref 37), some (.int (nI k)), some (.int (nI x)), some (.int (nI 0)), some (.int (nI 0))]) dX9_digitsOf_3 rfl ?_
  have loop : ∀ j : Nat, j ≤ 10 → J 5 [some (.ref 37), some (.int (nI k)), some (.int (nI x)), some (.int (nI (bf_bm (fun d => decide (pB P k d = x)) j))), some (.int (nI j))] [] (bf_MD D) := by
    refine bf_down (fun j hle ih => ?_)
    refine bf_iload r.1 dX9_digitsOf_5 rfl ?_
    refine bf_bipush r.1 (v := nI 10) dX9_digitsOf_7 rfl ?_
    refine nc_ge r (tgt := 40) dX9_digitsOf_9 (by decide) (by omega) (by decide) (fun c302 => ?_) (fun c302 => ?_)
    · refine bf_iload_n r.1 dX9_digitsOf_40 rfl ?_
      have ej : j = 10 := by omega
      subst ej
      exact rt_i r dX9_digitsOf_41 rfl rfl rfl rfl
    · refine bf_iload_n r.1 dX9_digitsOf_12 rfl ?_
      refine bf_aload_n r.1 dX9_digitsOf_13 rfl ?_
      refine bf_iload_n r.1 dX9_digitsOf_14 rfl ?_
      refine bf_iload r.1 dX9_digitsOf_15 rfl ?_
      refine cl_v r (y2 := mX9_burnsAt) dX9_digitsOf_17 li_X9_157 mv_X9_burnsAt rfl (by decide) [.int (nI k), .int (nI j)] [.int (nI (bf_bm (fun d => decide (pB P k d = x)) j))] rfl (Nat.le_of_ble_eq_true rfl) rfl (c_X9_burnsAt (by omega) hv hm hk (by omega)) ?_
      show J 20 [some (.ref 37), some (.int (nI k)), some (.int (nI x)), some (.int (nI (bf_bm (fun d => decide (pB P k d = x)) j))), some (.int (nI j))] [.int (nI (pB P k j)), .int (nI (bf_bm (fun d => decide (pB P k d = x)) j))] (bf_MD D)
      refine bf_iload_n r.1 dX9_digitsOf_20 rfl ?_
      refine nc_ne r (tgt := 31) dX9_digitsOf_21 (by decide) (bf_lt31 (pB_lt hv hk j) (by decide)) hx (fun c303 => ?_) (fun c303 => ?_)
      · refine bf_iconst r.1 (v := nI 0) dX9_digitsOf_31 rfl ?_
        refine na_or r dX9_digitsOf_32  ?_
        refine eq_i (congrArg nI (Nat.or_zero _)) ?_
        refine bf_istore_n r.1 (L2 := [some (.ref 37), some (.int (nI k)), some (.int (nI x)), some (.int (nI (bf_bm (fun d => decide (pB P k d = x)) j))), some (.int (nI j))]) dX9_digitsOf_33 rfl ?_
        refine na_inc r (v := j + 1) (L2 := [some (.ref 37), some (.int (nI k)), some (.int (nI x)), some (.int (nI (bf_bm (fun d => decide (pB P k d = x)) j))), some (.int (nI (j + 1)))]) dX9_digitsOf_34 rfl (nI_add _ 1) rfl ?_
        refine bf_goto r.1 (tgt := 5) dX9_digitsOf_37 (by decide) ?_
        have hi := ih c302
        rw [bf_bm_f (by simp [c303])] at hi
        exact hi
      · refine bf_iconst r.1 (v := nI 1) dX9_digitsOf_24 rfl ?_
        refine bf_iload r.1 dX9_digitsOf_25 rfl ?_
        refine na_shl r dX9_digitsOf_27 (by omega) (bf_sh1 (by omega)) ?_
        refine bf_goto r.1 (tgt := 32) dX9_digitsOf_28 (by decide) ?_
        refine na_or r dX9_digitsOf_32  ?_
        refine bf_istore_n r.1 (L2 := [some (.ref 37), some (.int (nI k)), some (.int (nI x)), some (.int (nI ((bf_bm (fun d => decide (pB P k d = x)) j) ||| (1 * 2 ^ j)))), some (.int (nI j))]) dX9_digitsOf_33 rfl ?_
        refine na_inc r (v := j + 1) (L2 := [some (.ref 37), some (.int (nI k)), some (.int (nI x)), some (.int (nI ((bf_bm (fun d => decide (pB P k d = x)) j) ||| (1 * 2 ^ j)))), some (.int (nI (j + 1)))]) dX9_digitsOf_34 rfl (nI_add _ 1) rfl ?_
        refine bf_goto r.1 (tgt := 5) dX9_digitsOf_37 (by decide) ?_
        have hi := ih c302
        rw [bf_bm_t (by simp [c303])] at hi
        exact hi
  exact loop 0 (by omega) 
theorem bf_low0 {m d : Nat} : (m &&& (1 * 2 ^ d - 1) = 0) ↔ ∀ x, x < d → m.testBit x = false := by
  rw [Nat.one_mul]
  constructor
  · intro h x hx
    have h1 := congrArg (fun q => q.testBit x) h
    simp only [Nat.testBit_and, Nat.testBit_two_pow_sub_one, Nat.zero_testBit, decide_eq_true hx, Bool.and_true] at h1
    exact h1
  · intro h
    apply Nat.eq_of_testBit_eq
    intro x
    simp only [Nat.testBit_and, Nat.testBit_two_pow_sub_one, Nat.zero_testBit]
    by_cases hx : x < d
    · rw [h x hx, Bool.false_and]
    · rw [decide_eq_false hx, Bool.and_false]
theorem pU_iff {P : bf_Pn} {k d : Nat} (hd : d < 10) : (pM P k (pB P k d) &&& (1 * 2 ^ d - 1) = 0) ↔ bf_al (fun x => decide (pB P k x ≠ pB P k d)) d = true := by
  rw [bf_low0, bf_al_t]
  constructor
  · intro h x hx
    have h1 := h x hx
    rw [pM_bit, decide_eq_true (show x < 10 by omega), Bool.true_and] at h1
    exact decide_eq_true (of_decide_eq_false h1)
  · intro h x hx
    rw [pM_bit, decide_eq_true (show x < 10 by omega), Bool.true_and]
    exact decide_eq_false (of_decide_eq_true (h x hx))
theorem c_X9_unlikeAt {d : Nat} (hd : 5 ≤ d) {D : bf_D} {P : bf_Pn} (hv : vP P) (hm : mP D P) {k : Nat} (hk : k < pN P) : bf_Cf d mX9_unlikeAt [.ref 37, .int (nI k)] D (some (.int (nI (pU P k)))) D := by
  refine bf_Cf_of 4 hd mo_X9_unlikeAt (Nat.le_of_ble_eq_true rfl) (fun e he J r => ?_)
  show J 0 [some (.ref 37), some (.int (nI k)), none, none, none, none] [] (bf_MD D)
  have hn4 := hv.1
  have hx4 := pX_le hv
  have hx0 := pX_pos P
  refine bf_iconst r.1 (v := nI 0) dX9_unlikeAt_0 rfl ?_
  refine bf_istore_n r.1 (L2 := [some (.ref 37), some (.int (nI k)), some (.int (nI 0)), none, none, none]) dX9_unlikeAt_1 rfl ?_
  refine bf_iconst r.1 (v := nI 0) dX9_unlikeAt_2 rfl ?_
  refine bf_istore_n r.1 (L2 := [some (.ref 37), some (.int (nI k)), some (.int (nI 0)), some (.int (nI 0)), none, none]) dX9_unlikeAt_3 rfl ?_
  have loop : ∀ j : Nat, j ≤ 10 → J 4 [some (.ref 37), some (.int (nI k)), some (.int (nI (bf_ct (fun d => decide (pM P k (pB P k d) &&& (1 * 2 ^ d - 1) = 0)) j))), some (.int (nI j)), none, none] [] (bf_MD D) := by
    refine bf_down (fun j hle ih => ?_)
    refine bf_iload_n r.1 dX9_unlikeAt_4 rfl ?_
    refine bf_bipush r.1 (v := nI 10) dX9_unlikeAt_5 rfl ?_
    refine nc_ge r (tgt := 75) dX9_unlikeAt_7 (by decide) (by omega) (by decide) (fun c304 => ?_) (fun c304 => ?_)
    · refine bf_iload_n r.1 dX9_unlikeAt_75 rfl ?_
      have ej : j = 10 := by omega
      subst ej
      exact rt_i r dX9_unlikeAt_76 rfl rfl rfl rfl
    · refine bf_iconst r.1 (v := nI 1) dX9_unlikeAt_10 rfl ?_
      refine bf_istore r.1 (L2 := [some (.ref 37), some (.int (nI k)), some (.int (nI (bf_ct (fun d => decide (pM P k (pB P k d) &&& (1 * 2 ^ d - 1) = 0)) j))), some (.int (nI j)), some (.int (nI 1)), none]) dX9_unlikeAt_11 rfl ?_
      refine bf_iconst r.1 (v := nI 0) dX9_unlikeAt_13 rfl ?_
      refine bf_istore r.1 (L2 := [some (.ref 37), some (.int (nI k)), some (.int (nI (bf_ct (fun d => decide (pM P k (pB P k d) &&& (1 * 2 ^ d - 1) = 0)) j))), some (.int (nI j)), some (.int (nI 1)), some (.int (nI 0))]) dX9_unlikeAt_14 rfl ?_
      have ihj := ih
      have hj10 : j < 10 := c304
      have lob : ∀ t : Nat, t ≤ j → J 16 [some (.ref 37), some (.int (nI k)), some (.int (nI (bf_ct (fun d => decide (pM P k (pB P k d) &&& (1 * 2 ^ d - 1) = 0)) j))), some (.int (nI j)), some (.int (if bf_al (fun x => decide (pB P k x ≠ pB P k j)) t = true then 1 else 0)), some (.int (nI t))] [] (bf_MD D) := by
        refine bf_down (fun t hle ih => ?_)
        refine bf_iload r.1 dX9_unlikeAt_16 rfl ?_
        refine bf_iload_n r.1 dX9_unlikeAt_18 rfl ?_
        refine nc_ge r (tgt := 56) dX9_unlikeAt_19 (by decide) (by omega) (by omega) (fun c305 => ?_) (fun c305 => ?_)
        · have et : j = t := by omega
          subst et
          refine bf_iload_n r.1 dX9_unlikeAt_56 rfl ?_
          refine bf_iload r.1 dX9_unlikeAt_57 rfl ?_
          refine nb_eq r (tgt := 66) dX9_unlikeAt_59 (by decide) (fun c306 => ?_) (fun c306 => ?_)
          · refine bf_iconst r.1 (v := nI 0) dX9_unlikeAt_66 rfl ?_
            refine na_add r dX9_unlikeAt_67  ?_
            refine bf_istore_n r.1 (L2 := [some (.ref 37), some (.int (nI k)), some (.int (nI (bf_ct (fun d => decide (pM P k (pB P k d) &&& (1 * 2 ^ d - 1) = 0)) j + 0))), some (.int (nI j)), some (.int (if bf_al (fun x => decide (pB P k x ≠ pB P k j)) j = true then 1 else 0)), some (.int (nI j))]) dX9_unlikeAt_68 rfl ?_
            refine na_inc r (v := j + 1) (L2 := [some (.ref 37), some (.int (nI k)), some (.int (nI (bf_ct (fun d => decide (pM P k (pB P k d) &&& (1 * 2 ^ d - 1) = 0)) j + 0))), some (.int (nI (j + 1))), some (.int (if bf_al (fun x => decide (pB P k x ≠ pB P k j)) j = true then 1 else 0)), some (.int (nI j))]) dX9_unlikeAt_69 rfl (nI_add _ 1) rfl ?_
            refine bf_goto r.1 (tgt := 4) dX9_unlikeAt_72 (by decide) ?_
            refine bf_fgt r.1 (i := 4) (L2 := [some (.ref 37), some (.int (nI k)), some (.int (nI (bf_ct (fun d => decide (pM P k (pB P k d) &&& (1 * 2 ^ d - 1) = 0)) j + 0))), some (.int (nI (j + 1))), none, some (.int (nI j))]) rfl ?_
            refine bf_fgt r.1 (i := 5) (L2 := [some (.ref 37), some (.int (nI k)), some (.int (nI (bf_ct (fun d => decide (pM P k (pB P k d) &&& (1 * 2 ^ d - 1) = 0)) j + 0))), some (.int (nI (j + 1))), none, none]) rfl ?_
            have hi := ihj (by omega)
            rw [bf_ct_f (p := (fun d => decide (pM P k (pB P k d) &&& (1 * 2 ^ d - 1) = 0))) (fun h9 => c306 ((pU_iff hj10).mp (of_decide_eq_true h9)))] at hi
            exact hi
          · refine bf_iconst r.1 (v := nI 1) dX9_unlikeAt_62 rfl ?_
            refine bf_goto r.1 (tgt := 67) dX9_unlikeAt_63 (by decide) ?_
            refine na_add r dX9_unlikeAt_67  ?_
            refine bf_istore_n r.1 (L2 := [some (.ref 37), some (.int (nI k)), some (.int (nI (bf_ct (fun d => decide (pM P k (pB P k d) &&& (1 * 2 ^ d - 1) = 0)) j + 1))), some (.int (nI j)), some (.int (if bf_al (fun x => decide (pB P k x ≠ pB P k j)) j = true then 1 else 0)), some (.int (nI j))]) dX9_unlikeAt_68 rfl ?_
            refine na_inc r (v := j + 1) (L2 := [some (.ref 37), some (.int (nI k)), some (.int (nI (bf_ct (fun d => decide (pM P k (pB P k d) &&& (1 * 2 ^ d - 1) = 0)) j + 1))), some (.int (nI (j + 1))), some (.int (if bf_al (fun x => decide (pB P k x ≠ pB P k j)) j = true then 1 else 0)), some (.int (nI j))]) dX9_unlikeAt_69 rfl (nI_add _ 1) rfl ?_
            refine bf_goto r.1 (tgt := 4) dX9_unlikeAt_72 (by decide) ?_
            refine bf_fgt r.1 (i := 4) (L2 := [some (.ref 37), some (.int (nI k)), some (.int (nI (bf_ct (fun d => decide (pM P k (pB P k d) &&& (1 * 2 ^ d - 1) = 0)) j + 1))), some (.int (nI (j + 1))), none, some (.int (nI j))]) rfl ?_
            refine bf_fgt r.1 (i := 5) (L2 := [some (.ref 37), some (.int (nI k)), some (.int (nI (bf_ct (fun d => decide (pM P k (pB P k d) &&& (1 * 2 ^ d - 1) = 0)) j + 1))), some (.int (nI (j + 1))), none, none]) rfl ?_
            have hi := ihj (by omega)
            rw [bf_ct_t (p := (fun d => decide (pM P k (pB P k d) &&& (1 * 2 ^ d - 1) = 0))) (decide_eq_true ((pU_iff hj10).mpr c306))] at hi
            exact hi
        · refine bf_iload r.1 dX9_unlikeAt_22 rfl ?_
          refine nb_eq r (tgt := 47) dX9_unlikeAt_24 (by decide) (fun c307 => ?_) (fun c307 => ?_)
          · refine bf_iconst r.1 (v := nI 0) dX9_unlikeAt_47 rfl ?_
            refine eq_i (v := if bf_al (fun x => decide (pB P k x ≠ pB P k j)) (t + 1) = true then 1 else 0) (if_neg (fun h => c307 (by simp only [bf_al, Bool.and_eq_true] at h; exact h.1))).symm ?_
            refine bf_istore r.1 (L2 := [some (.ref 37), some (.int (nI k)), some (.int (nI (bf_ct (fun d => decide (pM P k (pB P k d) &&& (1 * 2 ^ d - 1) = 0)) j))), some (.int (nI j)), some (.int (if bf_al (fun x => decide (pB P k x ≠ pB P k j)) (t + 1) = true then 1 else 0)), some (.int (nI t))]) dX9_unlikeAt_48 rfl ?_
            refine na_inc r (v := t + 1) (L2 := [some (.ref 37), some (.int (nI k)), some (.int (nI (bf_ct (fun d => decide (pM P k (pB P k d) &&& (1 * 2 ^ d - 1) = 0)) j))), some (.int (nI j)), some (.int (if bf_al (fun x => decide (pB P k x ≠ pB P k j)) (t + 1) = true then 1 else 0)), some (.int (nI (t + 1)))]) dX9_unlikeAt_50 rfl (nI_add _ 1) rfl ?_
            refine bf_goto r.1 (tgt := 16) dX9_unlikeAt_53 (by decide) ?_
            exact ih (by omega)
          · refine bf_aload_n r.1 dX9_unlikeAt_27 rfl ?_
            refine bf_iload_n r.1 dX9_unlikeAt_28 rfl ?_
            refine bf_iload r.1 dX9_unlikeAt_29 rfl ?_
            refine cl_v r (y2 := mX9_burnsAt) dX9_unlikeAt_31 li_X9_157 mv_X9_burnsAt rfl (by decide) [.int (nI k), .int (nI t)] [] rfl (Nat.le_of_ble_eq_true rfl) rfl (c_X9_burnsAt (by omega) hv hm hk (by omega)) ?_
            show J 34 [some (.ref 37), some (.int (nI k)), some (.int (nI (bf_ct (fun d => decide (pM P k (pB P k d) &&& (1 * 2 ^ d - 1) = 0)) j))), some (.int (nI j)), some (.int (if bf_al (fun x => decide (pB P k x ≠ pB P k j)) t = true then 1 else 0)), some (.int (nI t))] [.int (nI (pB P k t))] (bf_MD D)
            refine bf_aload_n r.1 dX9_unlikeAt_34 rfl ?_
            refine bf_iload_n r.1 dX9_unlikeAt_35 rfl ?_
            refine bf_iload_n r.1 dX9_unlikeAt_36 rfl ?_
            refine cl_v r (y2 := mX9_burnsAt) dX9_unlikeAt_37 li_X9_157 mv_X9_burnsAt rfl (by decide) [.int (nI k), .int (nI j)] [.int (nI (pB P k t))] rfl (Nat.le_of_ble_eq_true rfl) rfl (c_X9_burnsAt (by omega) hv hm hk (by omega)) ?_
            show J 40 [some (.ref 37), some (.int (nI k)), some (.int (nI (bf_ct (fun d => decide (pM P k (pB P k d) &&& (1 * 2 ^ d - 1) = 0)) j))), some (.int (nI j)), some (.int (if bf_al (fun x => decide (pB P k x ≠ pB P k j)) t = true then 1 else 0)), some (.int (nI t))] [.int (nI (pB P k j)), .int (nI (pB P k t))] (bf_MD D)
            refine nc_eq r (tgt := 47) dX9_unlikeAt_40 (by decide) (bf_lt31 (pB_lt hv hk t) (by decide)) (bf_lt31 (pB_lt hv hk j) (by decide)) (fun c308 => ?_) (fun c308 => ?_)
            · refine bf_iconst r.1 (v := nI 0) dX9_unlikeAt_47 rfl ?_
              refine eq_i (v := if bf_al (fun x => decide (pB P k x ≠ pB P k j)) (t + 1) = true then 1 else 0) (if_neg (fun h => by simp only [bf_al, Bool.and_eq_true] at h; exact of_decide_eq_true h.2 c308)).symm ?_
              refine bf_istore r.1 (L2 := [some (.ref 37), some (.int (nI k)), some (.int (nI (bf_ct (fun d => decide (pM P k (pB P k d) &&& (1 * 2 ^ d - 1) = 0)) j))), some (.int (nI j)), some (.int (if bf_al (fun x => decide (pB P k x ≠ pB P k j)) (t + 1) = true then 1 else 0)), some (.int (nI t))]) dX9_unlikeAt_48 rfl ?_
              refine na_inc r (v := t + 1) (L2 := [some (.ref 37), some (.int (nI k)), some (.int (nI (bf_ct (fun d => decide (pM P k (pB P k d) &&& (1 * 2 ^ d - 1) = 0)) j))), some (.int (nI j)), some (.int (if bf_al (fun x => decide (pB P k x ≠ pB P k j)) (t + 1) = true then 1 else 0)), some (.int (nI (t + 1)))]) dX9_unlikeAt_50 rfl (nI_add _ 1) rfl ?_
              refine bf_goto r.1 (tgt := 16) dX9_unlikeAt_53 (by decide) ?_
              exact ih (by omega)
            · refine bf_iconst r.1 (v := nI 1) dX9_unlikeAt_43 rfl ?_
              refine bf_goto r.1 (tgt := 48) dX9_unlikeAt_44 (by decide) ?_
              refine eq_i (v := if bf_al (fun x => decide (pB P k x ≠ pB P k j)) (t + 1) = true then 1 else 0) (if_pos (by simp only [bf_al, Bool.and_eq_true]; exact ⟨c307, decide_eq_true c308⟩)).symm ?_
              refine bf_istore r.1 (L2 := [some (.ref 37), some (.int (nI k)), some (.int (nI (bf_ct (fun d => decide (pM P k (pB P k d) &&& (1 * 2 ^ d - 1) = 0)) j))), some (.int (nI j)), some (.int (if bf_al (fun x => decide (pB P k x ≠ pB P k j)) (t + 1) = true then 1 else 0)), some (.int (nI t))]) dX9_unlikeAt_48 rfl ?_
              refine na_inc r (v := t + 1) (L2 := [some (.ref 37), some (.int (nI k)), some (.int (nI (bf_ct (fun d => decide (pM P k (pB P k d) &&& (1 * 2 ^ d - 1) = 0)) j))), some (.int (nI j)), some (.int (if bf_al (fun x => decide (pB P k x ≠ pB P k j)) (t + 1) = true then 1 else 0)), some (.int (nI (t + 1)))]) dX9_unlikeAt_50 rfl (nI_add _ 1) rfl ?_
              refine bf_goto r.1 (tgt := 16) dX9_unlikeAt_53 (by decide) ?_
              exact ih (by omega)
      exact lob 0 (by omega)
  exact loop 0 (by omega) 
theorem c_X9_ofPlace {d : Nat} (hd : 7 ≤ d) {D : bf_D} {P : bf_Pn} (hv : vP P) (hm : mP D P) (k wh : Int32) : bf_Cf d mX9_ofPlace [.ref 37, .int (k), .int (wh)] D (some (.int (ox_ofPlace P k wh))) D := by
  refine bf_Cf_of 6 hd mo_X9_ofPlace (Nat.le_of_ble_eq_true rfl) (fun e he J r => ?_)
  show J 0 [some (.ref 37), some (.int (k)), some (.int (wh))] [] (bf_MD D)
  have hn4 := hv.1
  have hx4 := pX_le hv
  have hx0 := pX_pos P
  refine bf_aload_n r.1 dX9_ofPlace_0 rfl ?_
  refine bf_iload_n r.1 dX9_ofPlace_1 rfl ?_
  refine cl_v r (y2 := mX9_noPlace) dX9_ofPlace_2 li_X9_160 mv_X9_noPlace rfl (by decide) [.int (k)] [] rfl (Nat.le_of_ble_eq_true rfl) rfl (c_X9_noPlace (by omega) hv hm _) ?_
  show J 5 [some (.ref 37), some (.int (k)), some (.int (wh))] [.int (if ¬ (0 ≤ k ∧ k < nI (pN P)) then 1 else 0)] (bf_MD D)
  refine nb_eq r (tgt := 10) dX9_ofPlace_5 (by decide) (fun c309 => ?_) (fun c309 => ?_)
  · obtain ⟨k0, hk0, rfl⟩ := rg_in (by omega) (Decidable.not_not.mp c309)
    have wk := rg_s hk0 (by omega)
    refine bf_iload_n r.1 dX9_ofPlace_10 rfl ?_
    by_cases c310 : wh = nI 0
    · refine bf_tabIn r.1 (off := 33) (tgt := 44) dX9_ofPlace_11 (by rw [c310]; decide) (by rw [c310]; decide) (by rw [c310]; rfl) (by decide) ?_
      refine bf_aload_n r.1 dX9_ofPlace_44 rfl ?_
      refine ig_ref r (b := 38) dX9_ofPlace_45 fl_X9_7 rfl (by decide) rfl ?_
      refine bf_iload_n r.1 dX9_ofPlace_48 rfl ?_
      refine ia_ld r (n := 4) (v := nI (pK P k0)) dX9_ofPlace_49 rfl (by decide) (by omega) (mP_k (P := P) hm hk0) ?_
      exact rt_i r dX9_ofPlace_50 rfl rfl (by simp only [ox_ofPlace, wk, if_pos c310, on_n, on_s]) rfl
    · by_cases c311 : wh = nI 1
      · refine bf_tabIn r.1 (off := 40) (tgt := 51) dX9_ofPlace_11 (by rw [c311]; decide) (by rw [c311]; decide) (by rw [c311]; rfl) (by decide) ?_
        refine bf_aload_n r.1 dX9_ofPlace_51 rfl ?_
        refine ig_ref r (b := 39) dX9_ofPlace_52 fl_X9_13 rfl (by decide) rfl ?_
        refine bf_iload_n r.1 dX9_ofPlace_55 rfl ?_
        refine ia_ld r (n := 4) (v := nI (pD P k0)) dX9_ofPlace_56 rfl (by decide) (by omega) (mP_d (P := P) hm hk0) ?_
        exact rt_i r dX9_ofPlace_57 rfl rfl (by simp only [ox_ofPlace, wk, if_neg c310, if_pos c311, on_n, on_s]) rfl
      · by_cases c312 : wh = nI 2
        · refine bf_tabIn r.1 (off := 47) (tgt := 58) dX9_ofPlace_11 (by rw [c312]; decide) (by rw [c312]; decide) (by rw [c312]; rfl) (by decide) ?_
          refine bf_aload_n r.1 dX9_ofPlace_58 rfl ?_
          refine ig_ref r (b := 40) dX9_ofPlace_59 fl_X9_16 rfl (by decide) rfl ?_
          refine bf_iload_n r.1 dX9_ofPlace_62 rfl ?_
          refine ia_ld r (n := 4) (v := nI (pT P k0)) dX9_ofPlace_63 rfl (by decide) (by omega) (mP_t (P := P) hm hk0) ?_
          exact rt_i r dX9_ofPlace_64 rfl rfl (by simp only [ox_ofPlace, wk, if_neg c310, if_neg c311, if_pos c312, on_n, on_s]) rfl
        · by_cases c313 : wh = nI 3
          · refine bf_tabIn r.1 (off := 54) (tgt := 65) dX9_ofPlace_11 (by rw [c313]; decide) (by rw [c313]; decide) (by rw [c313]; rfl) (by decide) ?_
            refine bf_aload_n r.1 dX9_ofPlace_65 rfl ?_
            refine bf_iload_n r.1 dX9_ofPlace_66 rfl ?_
            refine cl_v r (y2 := mX9_unlikeAt) dX9_ofPlace_67 li_X9_163 mv_X9_unlikeAt rfl (by decide) [.int (nI k0)] [] rfl (Nat.le_of_ble_eq_true rfl) rfl (c_X9_unlikeAt (by omega) hv hm hk0) ?_
            show J 70 [some (.ref 37), some (.int (nI k0)), some (.int (wh))] [.int (nI (pU P k0))] (bf_MD D)
            exact rt_i r dX9_ofPlace_70 rfl rfl (by simp only [ox_ofPlace, wk, if_neg c310, if_neg c311, if_neg c312, if_pos c313, on_n, on_s]) rfl
          · by_cases c314 : wh = nI 4
            · refine bf_tabIn r.1 (off := 60) (tgt := 71) dX9_ofPlace_11 (by rw [c314]; decide) (by rw [c314]; decide) (by rw [c314]; rfl) (by decide) ?_
              refine bf_aload_n r.1 dX9_ofPlace_71 rfl ?_
              refine bf_iload_n r.1 dX9_ofPlace_72 rfl ?_
              refine bf_aload_n r.1 dX9_ofPlace_73 rfl ?_
              refine bf_iload_n r.1 dX9_ofPlace_74 rfl ?_
              refine bf_aload_n r.1 dX9_ofPlace_75 rfl ?_
              refine ig_int r (v := nI (pS P)) dX9_ofPlace_76 fl_X9_132 rfl (by decide) rfl (mP_s (P := P) hm) ?_
              refine cl_v r (y2 := mX9_digitAt) dX9_ofPlace_79 li_X9_166 mv_X9_digitAt rfl (by decide) [.int (nI k0), .int (nI (pS P))] [.int (nI k0), .ref 37] rfl (Nat.le_of_ble_eq_true rfl) rfl (c_X9_digitAt (by omega) hv hm hk0 (by have := hv.2.2.2.1; omega)) ?_
              show J 82 [some (.ref 37), some (.int (nI k0)), some (.int (wh))] [.int (nI (pG P (pS P) k0)), .int (nI k0), .ref 37] (bf_MD D)
              refine cl_v r (y2 := mX9_burnsAt) dX9_ofPlace_82 li_X9_157 mv_X9_burnsAt rfl (by decide) [.int (nI k0), .int (nI (pG P (pS P) k0))] [] rfl (Nat.le_of_ble_eq_true rfl) rfl (c_X9_burnsAt (by omega) hv hm hk0 (pG_lt P _ _)) ?_
              show J 85 [some (.ref 37), some (.int (nI k0)), some (.int (wh))] [.int (nI (pB P k0 (pG P (pS P) k0)))] (bf_MD D)
              exact rt_i r dX9_ofPlace_85 rfl rfl (by simp only [ox_ofPlace, wk, if_neg c310, if_neg c311, if_neg c312, if_neg c313, if_pos c314, on_n, on_s]) rfl
            · refine bf_tabOut r.1 (tgt := 86) dX9_ofPlace_11 (by have q0 := lv_neT c310 (a := 0) (by decide); have q1 := lv_neT c311 (a := 1) (by decide); have q2 := lv_neT c312 (a := 2) (by decide); have q3 := lv_neT c313 (a := 3) (by decide); have q4 := lv_neT c314 (a := 4) (by decide); omega) (by decide) ?_
              refine bf_bipush r.1 (v := -2) dX9_ofPlace_86 rfl ?_
              exact rt_i r dX9_ofPlace_88 rfl rfl (by simp only [ox_ofPlace, wk, if_neg c310, if_neg c311, if_neg c312, if_neg c313, if_neg c314, on_n, on_s]) rfl
  · have wk := rg_n c309
    refine bf_iconst r.1 (v := -1) dX9_ofPlace_8 rfl ?_
    exact rt_i r dX9_ofPlace_9 rfl rfl (by simp only [ox_ofPlace, wk, on_n, on_s]) rfl
theorem c_X9_wear {d : Nat} (hd : 7 ≤ d) {D : bf_D} {P : bf_Pn} (hv : vP P) (hm : mP D P) (k b : Int32) : bf_Cf d mX9_wear [.ref 37, .int (k), .int (b)] D (some (.int (ox_wear P k b))) D := by
  refine bf_Cf_of 6 hd mo_X9_wear (Nat.le_of_ble_eq_true rfl) (fun e he J r => ?_)
  show J 0 [some (.ref 37), some (.int (k)), some (.int (b))] [] (bf_MD D)
  have hn4 := hv.1
  have hx4 := pX_le hv
  have hx0 := pX_pos P
  refine bf_aload_n r.1 dX9_wear_0 rfl ?_
  refine bf_iload_n r.1 dX9_wear_1 rfl ?_
  refine cl_v r (y2 := mX9_noPlace) dX9_wear_2 li_X9_160 mv_X9_noPlace rfl (by decide) [.int (k)] [] rfl (Nat.le_of_ble_eq_true rfl) rfl (c_X9_noPlace (by omega) hv hm _) ?_
  show J 5 [some (.ref 37), some (.int (k)), some (.int (b))] [.int (if ¬ (0 ≤ k ∧ k < nI (pN P)) then 1 else 0)] (bf_MD D)
  refine nb_ne r (tgt := 20) dX9_wear_5 (by decide) (fun c315 => ?_) (fun c315 => ?_)
  · have wk := rg_n c315
    refine bf_iconst r.1 (v := -1) dX9_wear_20 rfl ?_
    refine bf_goto r.1 (tgt := 35) dX9_wear_21 (by decide) ?_
    exact rt_i r dX9_wear_35 rfl rfl (by simp only [ox_wear, wk, on_n, on_s]) rfl
  · obtain ⟨k0, hk0, rfl⟩ := rg_in (by omega) (Decidable.not_not.mp c315)
    have wk := rg_s hk0 (by omega)
    refine bf_iload_n r.1 dX9_wear_8 rfl ?_
    refine bf_i2l r.1 dX9_wear_9 ?_
    refine bf_lconst r.1 (v := lN 0) dX9_wear_10 rfl ?_
    refine bf_ldc2 r.1 dX9_wear_11 lc_X9_169 ?_
    refine eq_l (v := lN 6) rfl ?_
    refine cl_s r (y2 := mX9_in) dX9_wear_14 li_X9_80 mv_X9_in [.long (b.toInt64), .long (lN 0), .long (lN 6)] [] rfl (Nat.le_of_ble_eq_true rfl) rfl (c_X9_in32 (by omega) D b (h := 6) (m := 7) rfl (by decide)) ?_
    show J 17 [some (.ref 37), some (.int (nI k0)), some (.int (b))] [.int (if 0 ≤ b ∧ b < nI 7 then 1 else 0)] (bf_MD D)
    refine nb_ne r (tgt := 24) dX9_wear_17 (by decide) (fun c316 => ?_) (fun c316 => ?_)
    · obtain ⟨b0, hb0, rfl⟩ := rg_in (by decide) c316
      have wb := rg_s hb0 (by decide)
      refine bf_aload_n r.1 dX9_wear_24 rfl ?_
      refine ig_ref r (b := 41) dX9_wear_25 fl_X9_19 rfl (by decide) rfl ?_
      refine bf_bipush r.1 (v := nI 7) dX9_wear_28 rfl ?_
      refine bf_iload_n r.1 dX9_wear_30 rfl ?_
      refine na_mul r dX9_wear_31  ?_
      refine bf_iload_n r.1 dX9_wear_32 rfl ?_
      refine na_add r dX9_wear_33  ?_
      refine ia_ld r (n := 28) (v := nI (pW P k0 b0)) dX9_wear_34 rfl (by decide) (by omega) (mP_w (P := P) hm hk0 hb0) ?_
      exact rt_i r dX9_wear_35 rfl rfl (by simp only [ox_wear, wk, wb, on_n, on_s]) rfl
    · have wb := rg_n c316
      refine bf_iconst r.1 (v := -1) dX9_wear_20 rfl ?_
      refine bf_goto r.1 (tgt := 35) dX9_wear_21 (by decide) ?_
      exact rt_i r dX9_wear_35 rfl rfl (by simp only [ox_wear, wk, wb, on_n, on_s]) rfl
theorem c_X9_burns {d : Nat} (hd : 7 ≤ d) {D : bf_D} {P : bf_Pn} (hv : vP P) (hm : mP D P) (k x : Int32) : bf_Cf d mX9_burns [.ref 37, .int (k), .int (x)] D (some (.int (ox_burns P k x))) D := by
  refine bf_Cf_of 6 hd mo_X9_burns (Nat.le_of_ble_eq_true rfl) (fun e he J r => ?_)
  show J 0 [some (.ref 37), some (.int (k)), some (.int (x))] [] (bf_MD D)
  have hn4 := hv.1
  have hx4 := pX_le hv
  have hx0 := pX_pos P
  refine bf_aload_n r.1 dX9_burns_0 rfl ?_
  refine bf_iload_n r.1 dX9_burns_1 rfl ?_
  refine cl_v r (y2 := mX9_noPlace) dX9_burns_2 li_X9_160 mv_X9_noPlace rfl (by decide) [.int (k)] [] rfl (Nat.le_of_ble_eq_true rfl) rfl (c_X9_noPlace (by omega) hv hm _) ?_
  show J 5 [some (.ref 37), some (.int (k)), some (.int (x))] [.int (if ¬ (0 ≤ k ∧ k < nI (pN P)) then 1 else 0)] (bf_MD D)
  refine nb_eq r (tgt := 10) dX9_burns_5 (by decide) (fun c317 => ?_) (fun c317 => ?_)
  · obtain ⟨k0, hk0, rfl⟩ := rg_in (by omega) (Decidable.not_not.mp c317)
    have wk := rg_s hk0 (by omega)
    refine bf_iload_n r.1 dX9_burns_10 rfl ?_
    refine bf_i2l r.1 dX9_burns_11 ?_
    refine bf_lconst r.1 (v := lN 0) dX9_burns_12 rfl ?_
    refine bf_ldc2 r.1 dX9_burns_13 lc_X9_176 ?_
    refine eq_l (v := lN 9) rfl ?_
    refine cl_s r (y2 := mX9_in) dX9_burns_16 li_X9_80 mv_X9_in [.long (x.toInt64), .long (lN 0), .long (lN 9)] [] rfl (Nat.le_of_ble_eq_true rfl) rfl (c_X9_in32 (by omega) D x (h := 9) (m := 10) rfl (by decide)) ?_
    show J 19 [some (.ref 37), some (.int (nI k0)), some (.int (x))] [.int (if 0 ≤ x ∧ x < nI 10 then 1 else 0)] (bf_MD D)
    refine nb_eq r (tgt := 31) dX9_burns_19 (by decide) (fun c318 => ?_) (fun c318 => ?_)
    · have wx := rg_n c318
      refine bf_bipush r.1 (v := -2) dX9_burns_31 rfl ?_
      exact rt_i r dX9_burns_33 rfl rfl (by simp only [ox_burns, wk, wx, on_n, on_s]) rfl
    · obtain ⟨x0, hx0, rfl⟩ := rg_in (by decide) c318
      have wx := rg_s hx0 (by decide)
      refine bf_aload_n r.1 dX9_burns_22 rfl ?_
      refine bf_iload_n r.1 dX9_burns_23 rfl ?_
      refine bf_iload_n r.1 dX9_burns_24 rfl ?_
      refine cl_v r (y2 := mX9_burnsAt) dX9_burns_25 li_X9_157 mv_X9_burnsAt rfl (by decide) [.int (nI k0), .int (nI x0)] [] rfl (Nat.le_of_ble_eq_true rfl) rfl (c_X9_burnsAt (by omega) hv hm hk0 hx0) ?_
      show J 28 [some (.ref 37), some (.int (nI k0)), some (.int (nI x0))] [.int (nI (pB P k0 x0))] (bf_MD D)
      refine bf_goto r.1 (tgt := 33) dX9_burns_28 (by decide) ?_
      exact rt_i r dX9_burns_33 rfl rfl (by simp only [ox_burns, wk, wx, on_n, on_s]) rfl
  · have wk := rg_n c317
    refine bf_iconst r.1 (v := -1) dX9_burns_8 rfl ?_
    exact rt_i r dX9_burns_9 rfl rfl (by simp only [ox_burns, wk, on_n, on_s]) rfl
theorem c_X9_digits {d : Nat} (hd : 7 ≤ d) {D : bf_D} {P : bf_Pn} (hv : vP P) (hm : mP D P) (k x : Int32) : bf_Cf d mX9_digits [.ref 37, .int (k), .int (x)] D (some (.int (ox_digits P k x))) D := by
  refine bf_Cf_of 6 hd mo_X9_digits (Nat.le_of_ble_eq_true rfl) (fun e he J r => ?_)
  show J 0 [some (.ref 37), some (.int (k)), some (.int (x))] [] (bf_MD D)
  have hn4 := hv.1
  have hx4 := pX_le hv
  have hx0 := pX_pos P
  refine bf_aload_n r.1 dX9_digits_0 rfl ?_
  refine bf_iload_n r.1 dX9_digits_1 rfl ?_
  refine cl_v r (y2 := mX9_noPlace) dX9_digits_2 li_X9_160 mv_X9_noPlace rfl (by decide) [.int (k)] [] rfl (Nat.le_of_ble_eq_true rfl) rfl (c_X9_noPlace (by omega) hv hm _) ?_
  show J 5 [some (.ref 37), some (.int (k)), some (.int (x))] [.int (if ¬ (0 ≤ k ∧ k < nI (pN P)) then 1 else 0)] (bf_MD D)
  refine nb_eq r (tgt := 10) dX9_digits_5 (by decide) (fun c319 => ?_) (fun c319 => ?_)
  · obtain ⟨k0, hk0, rfl⟩ := rg_in (by omega) (Decidable.not_not.mp c319)
    have wk := rg_s hk0 (by omega)
    refine bf_iload_n r.1 dX9_digits_10 rfl ?_
    refine bf_i2l r.1 dX9_digits_11 ?_
    refine bf_lconst r.1 (v := lN 0) dX9_digits_12 rfl ?_
    refine bf_ldc2 r.1 dX9_digits_13 lc_X9_171 ?_
    refine eq_l (v := lN 127) rfl ?_
    refine cl_s r (y2 := mX9_in) dX9_digits_16 li_X9_80 mv_X9_in [.long (x.toInt64), .long (lN 0), .long (lN 127)] [] rfl (Nat.le_of_ble_eq_true rfl) rfl (c_X9_in32 (by omega) D x (h := 127) (m := 128) rfl (by decide)) ?_
    show J 19 [some (.ref 37), some (.int (nI k0)), some (.int (x))] [.int (if 0 ≤ x ∧ x < nI 128 then 1 else 0)] (bf_MD D)
    refine nb_eq r (tgt := 31) dX9_digits_19 (by decide) (fun c320 => ?_) (fun c320 => ?_)
    · have wx := rg_n c320
      refine bf_bipush r.1 (v := -2) dX9_digits_31 rfl ?_
      exact rt_i r dX9_digits_33 rfl rfl (by simp only [ox_digits, wk, wx, on_n, on_s]) rfl
    · obtain ⟨x0, hx0, rfl⟩ := rg_in (by decide) c320
      have wx := rg_s hx0 (by decide)
      refine bf_aload_n r.1 dX9_digits_22 rfl ?_
      refine bf_iload_n r.1 dX9_digits_23 rfl ?_
      refine bf_iload_n r.1 dX9_digits_24 rfl ?_
      refine cl_v r (y2 := mX9_digitsOf) dX9_digits_25 li_X9_178 mv_X9_digitsOf rfl (by decide) [.int (nI k0), .int (nI x0)] [] rfl (Nat.le_of_ble_eq_true rfl) rfl (c_X9_digitsOf (by omega) hv hm hk0 (by omega)) ?_
      show J 28 [some (.ref 37), some (.int (nI k0)), some (.int (nI x0))] [.int (nI (pM P k0 x0))] (bf_MD D)
      refine bf_goto r.1 (tgt := 33) dX9_digits_28 (by decide) ?_
      exact rt_i r dX9_digits_33 rfl rfl (by simp only [ox_digits, wk, wx, on_n, on_s]) rfl
  · have wk := rg_n c319
    refine bf_iconst r.1 (v := -1) dX9_digits_8 rfl ?_
    exact rt_i r dX9_digits_9 rfl rfl (by simp only [ox_digits, wk, on_n, on_s]) rfl
theorem c_X9_bars {d : Nat} (hd : 7 ≤ d) {D : bf_D} {P : bf_Pn} (hv : vP P) (hm : mP D P) (v : Int32) : bf_Cf d mX9_bars [.ref 37, .int (v)] D (some (.int (ox_bars P v))) D := by
  refine bf_Cf_of 6 hd mo_X9_bars (Nat.le_of_ble_eq_true rfl) (fun e he J r => ?_)
  show J 0 [some (.ref 37), some (.int (v)), none, none] [] (bf_MD D)
  have hn4 := hv.1
  have hx4 := pX_le hv
  have hx0 := pX_pos P
  refine bf_aload_n r.1 dX9_bars_0 rfl ?_
  refine ig_int r (v := nI (pN P)) dX9_bars_1 fl_X9_77 rfl (by decide) rfl (mP_n (P := P) hm) ?_
  refine nz_ne r (tgt := 10) dX9_bars_4 (by decide) (by omega) (fun c321 => ?_) (fun c321 => ?_)
  · have h1n : 1 ≤ pN P := by omega
    refine bf_aload_n r.1 dX9_bars_10 rfl ?_
    refine bf_iload_n r.1 dX9_bars_11 rfl ?_
    refine cl_v r (y2 := mX9_noNumber) dX9_bars_12 li_X9_185 mv_X9_noNumber rfl (by decide) [.int (v)] [] rfl (Nat.le_of_ble_eq_true rfl) rfl (c_X9_noNumber (by omega) hv hm _) ?_
    show J 15 [some (.ref 37), some (.int (v)), none, none] [.int (if ¬ (0 ≤ v ∧ v < nI (pX P)) then 1 else 0)] (bf_MD D)
    refine nb_eq r (tgt := 21) dX9_bars_15 (by decide) (fun c322 => ?_) (fun c322 => ?_)
    · obtain ⟨v0, hv0, rfl⟩ := rg_in (by omega) (Decidable.not_not.mp c322)
      have wv := rg_s hv0 (by omega)
      refine bf_iconst r.1 (v := nI 0) dX9_bars_21 rfl ?_
      refine bf_istore_n r.1 (L2 := [some (.ref 37), some (.int (nI v0)), some (.int (nI 0)), none]) dX9_bars_22 rfl ?_
      refine bf_iconst r.1 (v := nI 0) dX9_bars_23 rfl ?_
      refine bf_istore_n r.1 (L2 := [some (.ref 37), some (.int (nI v0)), some (.int (nI 0)), some (.int (nI 0))]) dX9_bars_24 rfl ?_
      have loop : ∀ j : Nat, j ≤ (pN P) → J 25 [some (.ref 37), some (.int (nI v0)), some (.int (nI (bf_sm (fun k => bf_pc (pB P k (pG P v0 k))) j))), some (.int (nI j))] [] (bf_MD D) := by
        refine bf_down (fun j hle ih => ?_)
        refine bf_iload_n r.1 dX9_bars_25 rfl ?_
        refine bf_aload_n r.1 dX9_bars_26 rfl ?_
        refine ig_int r (v := nI (pN P)) dX9_bars_27 fl_X9_77 rfl (by decide) rfl (mP_n (P := P) hm) ?_
        refine nc_ge r (tgt := 56) dX9_bars_30 (by decide) (by omega) (by omega) (fun c323 => ?_) (fun c323 => ?_)
        · have ej : j = pN P := by omega
          subst ej
          refine bf_iload_n r.1 dX9_bars_56 rfl ?_
          exact rt_i r dX9_bars_57 rfl rfl (by simp only [ox_bars, if_neg c321, wv, on_n, on_s, pBr]) rfl
        · refine bf_iload_n r.1 dX9_bars_33 rfl ?_
          refine bf_aload_n r.1 dX9_bars_34 rfl ?_
          refine bf_iload_n r.1 dX9_bars_35 rfl ?_
          refine bf_aload_n r.1 dX9_bars_36 rfl ?_
          refine bf_iload_n r.1 dX9_bars_37 rfl ?_
          refine bf_iload_n r.1 dX9_bars_38 rfl ?_
          refine cl_v r (y2 := mX9_digitAt) dX9_bars_39 li_X9_166 mv_X9_digitAt rfl (by decide) [.int (nI j), .int (nI v0)] [.int (nI j), .ref 37, .int (nI (bf_sm (fun k => bf_pc (pB P k (pG P v0 k))) j))] rfl (Nat.le_of_ble_eq_true rfl) rfl (c_X9_digitAt (by omega) hv hm c323 (by omega)) ?_
          show J 42 [some (.ref 37), some (.int (nI v0)), some (.int (nI (bf_sm (fun k => bf_pc (pB P k (pG P v0 k))) j))), some (.int (nI j))] [.int (nI (pG P v0 j)), .int (nI j), .ref 37, .int (nI (bf_sm (fun k => bf_pc (pB P k (pG P v0 k))) j))] (bf_MD D)
          refine cl_v r (y2 := mX9_burnsAt) dX9_bars_42 li_X9_157 mv_X9_burnsAt rfl (by decide) [.int (nI j), .int (nI (pG P v0 j))] [.int (nI (bf_sm (fun k => bf_pc (pB P k (pG P v0 k))) j))] rfl (Nat.le_of_ble_eq_true rfl) rfl (c_X9_burnsAt (by omega) hv hm c323 (pG_lt P _ _)) ?_
          show J 45 [some (.ref 37), some (.int (nI v0)), some (.int (nI (bf_sm (fun k => bf_pc (pB P k (pG P v0 k))) j))), some (.int (nI j))] [.int (nI (pB P j (pG P v0 j))), .int (nI (bf_sm (fun k => bf_pc (pB P k (pG P v0 k))) j))] (bf_MD D)
          refine cl_s r (y2 := mX9_bits) dX9_bars_45 li_X9_188 mv_X9_bits [.int (nI (pB P j (pG P v0 j)))] [.int (nI (bf_sm (fun k => bf_pc (pB P k (pG P v0 k))) j))] rfl (Nat.le_of_ble_eq_true rfl) rfl (c_X9_bits (by omega) D (bf_1024 (pB_lt hv (by omega) _))) ?_
          show J 48 [some (.ref 37), some (.int (nI v0)), some (.int (nI (bf_sm (fun k => bf_pc (pB P k (pG P v0 k))) j))), some (.int (nI j))] [.int (nI (bf_pc (pB P j (pG P v0 j)))), .int (nI (bf_sm (fun k => bf_pc (pB P k (pG P v0 k))) j))] (bf_MD D)
          refine na_add r dX9_bars_48  ?_
          refine bf_istore_n r.1 (L2 := [some (.ref 37), some (.int (nI v0)), some (.int (nI (bf_sm (fun k => bf_pc (pB P k (pG P v0 k))) j + (bf_pc (pB P j (pG P v0 j)))))), some (.int (nI j))]) dX9_bars_49 rfl ?_
          refine na_inc r (v := j + 1) (L2 := [some (.ref 37), some (.int (nI v0)), some (.int (nI (bf_sm (fun k => bf_pc (pB P k (pG P v0 k))) j + (bf_pc (pB P j (pG P v0 j)))))), some (.int (nI (j + 1)))]) dX9_bars_50 rfl (nI_add _ 1) rfl ?_
          refine bf_goto r.1 (tgt := 25) dX9_bars_53 (by decide) ?_
          exact ih c323
      exact loop 0 (by omega) 
    · have wv := rg_n c322
      refine bf_bipush r.1 (v := -2) dX9_bars_18 rfl ?_
      exact rt_i r dX9_bars_20 rfl rfl (by simp only [ox_bars, if_neg c321, wv, on_n, on_s, pBr]) rfl
  · refine bf_bipush r.1 (v := -3) dX9_bars_7 rfl ?_
    exact rt_i r dX9_bars_9 rfl rfl (by simp only [ox_bars, if_pos c321, on_n, on_s, pBr]) rfl
theorem c_X9_alike {d : Nat} (hd : 8 ≤ d) {D : bf_D} {P : bf_Pn} (hv : vP P) (hm : mP D P) (v : Int32) : bf_Cf d mX9_alike [.ref 37, .int (v)] D (some (.int (ox_alike P v))) D := by
  refine bf_Cf_of 7 hd mo_X9_alike (Nat.le_of_ble_eq_true rfl) (fun e he J r => ?_)
  show J 0 [some (.ref 37), some (.int (v)), none, none] [] (bf_MD D)
  have hn4 := hv.1
  have hx4 := pX_le hv
  have hx0 := pX_pos P
  refine bf_aload_n r.1 dX9_alike_0 rfl ?_
  refine ig_int r (v := nI (pN P)) dX9_alike_1 fl_X9_77 rfl (by decide) rfl (mP_n (P := P) hm) ?_
  refine nz_ne r (tgt := 10) dX9_alike_4 (by decide) (by omega) (fun c324 => ?_) (fun c324 => ?_)
  · have h1n : 1 ≤ pN P := by omega
    refine bf_aload_n r.1 dX9_alike_10 rfl ?_
    refine bf_iload_n r.1 dX9_alike_11 rfl ?_
    refine cl_v r (y2 := mX9_noNumber) dX9_alike_12 li_X9_185 mv_X9_noNumber rfl (by decide) [.int (v)] [] rfl (Nat.le_of_ble_eq_true rfl) rfl (c_X9_noNumber (by omega) hv hm _) ?_
    show J 15 [some (.ref 37), some (.int (v)), none, none] [.int (if ¬ (0 ≤ v ∧ v < nI (pX P)) then 1 else 0)] (bf_MD D)
    refine nb_eq r (tgt := 21) dX9_alike_15 (by decide) (fun c325 => ?_) (fun c325 => ?_)
    · obtain ⟨v0, hv0, rfl⟩ := rg_in (by omega) (Decidable.not_not.mp c325)
      have wv := rg_s hv0 (by omega)
      refine bf_iconst r.1 (v := nI 1) dX9_alike_21 rfl ?_
      refine bf_istore_n r.1 (L2 := [some (.ref 37), some (.int (nI v0)), some (.int (nI 1)), none]) dX9_alike_22 rfl ?_
      refine bf_iconst r.1 (v := nI 0) dX9_alike_23 rfl ?_
      refine bf_istore_n r.1 (L2 := [some (.ref 37), some (.int (nI v0)), some (.int (nI 1)), some (.int (nI 0))]) dX9_alike_24 rfl ?_
      have loop : ∀ j : Nat, j ≤ (pN P) → J 25 [some (.ref 37), some (.int (nI v0)), some (.int (nI (bf_pr (fun k => bf_pc (pM P k (pB P k (pG P v0 k)))) j))), some (.int (nI j))] [] (bf_MD D) := by
        refine bf_down (fun j hle ih => ?_)
        refine bf_iload_n r.1 dX9_alike_25 rfl ?_
        refine bf_aload_n r.1 dX9_alike_26 rfl ?_
        refine ig_int r (v := nI (pN P)) dX9_alike_27 fl_X9_77 rfl (by decide) rfl (mP_n (P := P) hm) ?_
        refine nc_ge r (tgt := 61) dX9_alike_30 (by decide) (by omega) (by omega) (fun c326 => ?_) (fun c326 => ?_)
        · have ej : j = pN P := by omega
          subst ej
          refine bf_iload_n r.1 dX9_alike_61 rfl ?_
          exact rt_i r dX9_alike_62 rfl rfl (by simp only [ox_alike, if_neg c324, wv, on_n, on_s, pA]) rfl
        · refine bf_iload_n r.1 dX9_alike_33 rfl ?_
          refine bf_aload_n r.1 dX9_alike_34 rfl ?_
          refine bf_iload_n r.1 dX9_alike_35 rfl ?_
          refine bf_aload_n r.1 dX9_alike_36 rfl ?_
          refine bf_iload_n r.1 dX9_alike_37 rfl ?_
          refine bf_aload_n r.1 dX9_alike_38 rfl ?_
          refine bf_iload_n r.1 dX9_alike_39 rfl ?_
          refine bf_iload_n r.1 dX9_alike_40 rfl ?_
          refine cl_v r (y2 := mX9_digitAt) dX9_alike_41 li_X9_166 mv_X9_digitAt rfl (by decide) [.int (nI j), .int (nI v0)] [.int (nI j), .ref 37, .int (nI j), .ref 37, .int (nI (bf_pr (fun k => bf_pc (pM P k (pB P k (pG P v0 k)))) j))] rfl (Nat.le_of_ble_eq_true rfl) rfl (c_X9_digitAt (by omega) hv hm c326 (by omega)) ?_
          show J 44 [some (.ref 37), some (.int (nI v0)), some (.int (nI (bf_pr (fun k => bf_pc (pM P k (pB P k (pG P v0 k)))) j))), some (.int (nI j))] [.int (nI (pG P v0 j)), .int (nI j), .ref 37, .int (nI j), .ref 37, .int (nI (bf_pr (fun k => bf_pc (pM P k (pB P k (pG P v0 k)))) j))] (bf_MD D)
          refine cl_v r (y2 := mX9_burnsAt) dX9_alike_44 li_X9_157 mv_X9_burnsAt rfl (by decide) [.int (nI j), .int (nI (pG P v0 j))] [.int (nI j), .ref 37, .int (nI (bf_pr (fun k => bf_pc (pM P k (pB P k (pG P v0 k)))) j))] rfl (Nat.le_of_ble_eq_true rfl) rfl (c_X9_burnsAt (by omega) hv hm c326 (pG_lt P _ _)) ?_
          show J 47 [some (.ref 37), some (.int (nI v0)), some (.int (nI (bf_pr (fun k => bf_pc (pM P k (pB P k (pG P v0 k)))) j))), some (.int (nI j))] [.int (nI (pB P j (pG P v0 j))), .int (nI j), .ref 37, .int (nI (bf_pr (fun k => bf_pc (pM P k (pB P k (pG P v0 k)))) j))] (bf_MD D)
          refine cl_v r (y2 := mX9_digitsOf) dX9_alike_47 li_X9_178 mv_X9_digitsOf rfl (by decide) [.int (nI j), .int (nI (pB P j (pG P v0 j)))] [.int (nI (bf_pr (fun k => bf_pc (pM P k (pB P k (pG P v0 k)))) j))] rfl (Nat.le_of_ble_eq_true rfl) rfl (c_X9_digitsOf (by omega) hv hm c326 (bf_lt31 (pB_lt hv (by omega) _) (by decide))) ?_
          show J 50 [some (.ref 37), some (.int (nI v0)), some (.int (nI (bf_pr (fun k => bf_pc (pM P k (pB P k (pG P v0 k)))) j))), some (.int (nI j))] [.int (nI (pM P j (pB P j (pG P v0 j)))), .int (nI (bf_pr (fun k => bf_pc (pM P k (pB P k (pG P v0 k)))) j))] (bf_MD D)
          refine cl_s r (y2 := mX9_bits) dX9_alike_50 li_X9_188 mv_X9_bits [.int (nI (pM P j (pB P j (pG P v0 j))))] [.int (nI (bf_pr (fun k => bf_pc (pM P k (pB P k (pG P v0 k)))) j))] rfl (Nat.le_of_ble_eq_true rfl) rfl (c_X9_bits (by omega) D (pM_lt _ _ _)) ?_
          show J 53 [some (.ref 37), some (.int (nI v0)), some (.int (nI (bf_pr (fun k => bf_pc (pM P k (pB P k (pG P v0 k)))) j))), some (.int (nI j))] [.int (nI (bf_pc (pM P j (pB P j (pG P v0 j))))), .int (nI (bf_pr (fun k => bf_pc (pM P k (pB P k (pG P v0 k)))) j))] (bf_MD D)
          refine na_mul r dX9_alike_53  ?_
          refine bf_istore_n r.1 (L2 := [some (.ref 37), some (.int (nI v0)), some (.int (nI ((bf_pr (fun k => bf_pc (pM P k (pB P k (pG P v0 k)))) j) * (bf_pc (pM P j (pB P j (pG P v0 j))))))), some (.int (nI j))]) dX9_alike_54 rfl ?_
          refine na_inc r (v := j + 1) (L2 := [some (.ref 37), some (.int (nI v0)), some (.int (nI ((bf_pr (fun k => bf_pc (pM P k (pB P k (pG P v0 k)))) j) * (bf_pc (pM P j (pB P j (pG P v0 j))))))), some (.int (nI (j + 1)))]) dX9_alike_55 rfl (nI_add _ 1) rfl ?_
          refine bf_goto r.1 (tgt := 25) dX9_alike_58 (by decide) ?_
          exact ih c326
      exact loop 0 (by omega) 
    · have wv := rg_n c325
      refine bf_bipush r.1 (v := -2) dX9_alike_18 rfl ?_
      exact rt_i r dX9_alike_20 rfl rfl (by simp only [ox_alike, if_neg c324, wv, on_n, on_s, pA]) rfl
  · refine bf_bipush r.1 (v := -3) dX9_alike_7 rfl ?_
    exact rt_i r dX9_alike_9 rfl rfl (by simp only [ox_alike, if_pos c324, on_n, on_s, pA]) rfl
theorem c_X9_pictures {d : Nat} (hd : 7 ≤ d) {D : bf_D} {P : bf_Pn} (hv : vP P) (hm : mP D P) : bf_Cf d mX9_pictures [.ref 37] D (some (.int (ox_pictures P))) D := by
  refine bf_Cf_of 6 hd mo_X9_pictures (Nat.le_of_ble_eq_true rfl) (fun e he J r => ?_)
  show J 0 [some (.ref 37), none, none] [] (bf_MD D)
  have hn4 := hv.1
  have hx4 := pX_le hv
  have hx0 := pX_pos P
  refine bf_aload_n r.1 dX9_pictures_0 rfl ?_
  refine ig_int r (v := nI (pN P)) dX9_pictures_1 fl_X9_77 rfl (by decide) rfl (mP_n (P := P) hm) ?_
  refine nz_ne r (tgt := 10) dX9_pictures_4 (by decide) (by omega) (fun c327 => ?_) (fun c327 => ?_)
  · have h1n : 1 ≤ pN P := by omega
    refine bf_iconst r.1 (v := nI 1) dX9_pictures_10 rfl ?_
    refine bf_istore_n r.1 (L2 := [some (.ref 37), some (.int (nI 1)), none]) dX9_pictures_11 rfl ?_
    refine bf_iconst r.1 (v := nI 0) dX9_pictures_12 rfl ?_
    refine bf_istore_n r.1 (L2 := [some (.ref 37), some (.int (nI 1)), some (.int (nI 0))]) dX9_pictures_13 rfl ?_
    have loop : ∀ j : Nat, j ≤ (pN P) → J 14 [some (.ref 37), some (.int (nI (bf_pr (pU P) j))), some (.int (nI j))] [] (bf_MD D) := by
      refine bf_down (fun j hle ih => ?_)
      refine bf_iload_n r.1 dX9_pictures_14 rfl ?_
      refine bf_aload_n r.1 dX9_pictures_15 rfl ?_
      refine ig_int r (v := nI (pN P)) dX9_pictures_16 fl_X9_77 rfl (by decide) rfl (mP_n (P := P) hm) ?_
      refine nc_ge r (tgt := 36) dX9_pictures_19 (by decide) (by omega) (by omega) (fun c328 => ?_) (fun c328 => ?_)
      · have ej : j = pN P := by omega
        subst ej
        refine bf_iload_n r.1 dX9_pictures_36 rfl ?_
        exact rt_i r dX9_pictures_37 rfl rfl (by simp only [ox_pictures, if_neg c327, on_n, on_s]) rfl
      · refine bf_iload_n r.1 dX9_pictures_22 rfl ?_
        refine bf_aload_n r.1 dX9_pictures_23 rfl ?_
        refine bf_iload_n r.1 dX9_pictures_24 rfl ?_
        refine cl_v r (y2 := mX9_unlikeAt) dX9_pictures_25 li_X9_163 mv_X9_unlikeAt rfl (by decide) [.int (nI j)] [.int (nI (bf_pr (pU P) j))] rfl (Nat.le_of_ble_eq_true rfl) rfl (c_X9_unlikeAt (by omega) hv hm c328) ?_
        show J 28 [some (.ref 37), some (.int (nI (bf_pr (pU P) j))), some (.int (nI j))] [.int (nI (pU P j)), .int (nI (bf_pr (pU P) j))] (bf_MD D)
        refine na_mul r dX9_pictures_28  ?_
        refine bf_istore_n r.1 (L2 := [some (.ref 37), some (.int (nI ((bf_pr (pU P) j) * (pU P j)))), some (.int (nI j))]) dX9_pictures_29 rfl ?_
        refine na_inc r (v := j + 1) (L2 := [some (.ref 37), some (.int (nI ((bf_pr (pU P) j) * (pU P j)))), some (.int (nI (j + 1)))]) dX9_pictures_30 rfl (nI_add _ 1) rfl ?_
        refine bf_goto r.1 (tgt := 14) dX9_pictures_33 (by decide) ?_
        exact ih c328
    exact loop 0 (by omega) 
  · refine bf_bipush r.1 (v := -3) dX9_pictures_7 rfl ?_
    exact rt_i r dX9_pictures_9 rfl rfl (by simp only [ox_pictures, if_pos c327, on_n, on_s]) rfl
theorem c_X9_flipsOf {d : Nat} (hd : 6 ≤ d) {D : bf_D} {P : bf_Pn} (hv : vP P) (hm : mP D P) {u v : Nat} (hu : u < 2 ^ 31) (hw : v < 2 ^ 31) : bf_Cf d mX9_flipsOf [.ref 37, .int (nI u), .int (nI v)] D (some (.int (nI (pF P u v)))) D := by
  refine bf_Cf_of 5 hd mo_X9_flipsOf (Nat.le_of_ble_eq_true rfl) (fun e he J r => ?_)
  show J 0 [some (.ref 37), some (.int (nI u)), some (.int (nI v)), none, none, none, none] [] (bf_MD D)
  have hn4 := hv.1
  have hx4 := pX_le hv
  have hx0 := pX_pos P
  refine bf_iconst r.1 (v := nI 0) dX9_flipsOf_0 rfl ?_
  refine bf_istore_n r.1 (L2 := [some (.ref 37), some (.int (nI u)), some (.int (nI v)), some (.int (nI 0)), none, none, none]) dX9_flipsOf_1 rfl ?_
  refine bf_iconst r.1 (v := nI 0) dX9_flipsOf_2 rfl ?_
  refine bf_istore r.1 (L2 := [some (.ref 37), some (.int (nI u)), some (.int (nI v)), some (.int (nI 0)), some (.int (nI 0)), none, none]) dX9_flipsOf_3 rfl ?_
  have loop : ∀ j : Nat, j ≤ (pN P) → J 5 [some (.ref 37), some (.int (nI u)), some (.int (nI v)), some (.int (nI (bf_sm (fun k => bf_pc (pB P k (pG P u k) ^^^ pB P k (pG P v k))) j))), some (.int (nI j)), none, none] [] (bf_MD D) := by
    refine bf_down (fun j hle ih => ?_)
    refine bf_iload r.1 dX9_flipsOf_5 rfl ?_
    refine bf_aload_n r.1 dX9_flipsOf_7 rfl ?_
    refine ig_int r (v := nI (pN P)) dX9_flipsOf_8 fl_X9_77 rfl (by decide) rfl (mP_n (P := P) hm) ?_
    refine nc_ge r (tgt := 72) dX9_flipsOf_11 (by decide) (by omega) (by omega) (fun c329 => ?_) (fun c329 => ?_)
    · refine bf_iload_n r.1 dX9_flipsOf_72 rfl ?_
      have ej : j = pN P := by omega
      subst ej
      exact rt_i r dX9_flipsOf_73 rfl rfl rfl rfl
    · refine bf_aload_n r.1 dX9_flipsOf_14 rfl ?_
      refine bf_iload r.1 dX9_flipsOf_15 rfl ?_
      refine bf_iload_n r.1 dX9_flipsOf_17 rfl ?_
      refine cl_v r (y2 := mX9_digitAt) dX9_flipsOf_18 li_X9_166 mv_X9_digitAt rfl (by decide) [.int (nI j), .int (nI u)] [] rfl (Nat.le_of_ble_eq_true rfl) rfl (c_X9_digitAt (by omega) hv hm c329 hu) ?_
      show J 21 [some (.ref 37), some (.int (nI u)), some (.int (nI v)), some (.int (nI (bf_sm (fun k => bf_pc (pB P k (pG P u k) ^^^ pB P k (pG P v k))) j))), some (.int (nI j)), none, none] [.int (nI (pG P u j))] (bf_MD D)
      refine bf_istore r.1 (L2 := [some (.ref 37), some (.int (nI u)), some (.int (nI v)), some (.int (nI (bf_sm (fun k => bf_pc (pB P k (pG P u k) ^^^ pB P k (pG P v k))) j))), some (.int (nI j)), some (.int (nI (pG P u j))), none]) dX9_flipsOf_21 rfl ?_
      refine bf_aload_n r.1 dX9_flipsOf_23 rfl ?_
      refine bf_iload r.1 dX9_flipsOf_24 rfl ?_
      refine bf_iload_n r.1 dX9_flipsOf_26 rfl ?_
      refine cl_v r (y2 := mX9_digitAt) dX9_flipsOf_27 li_X9_166 mv_X9_digitAt rfl (by decide) [.int (nI j), .int (nI v)] [] rfl (Nat.le_of_ble_eq_true rfl) rfl (c_X9_digitAt (by omega) hv hm c329 hw) ?_
      show J 30 [some (.ref 37), some (.int (nI u)), some (.int (nI v)), some (.int (nI (bf_sm (fun k => bf_pc (pB P k (pG P u k) ^^^ pB P k (pG P v k))) j))), some (.int (nI j)), some (.int (nI (pG P u j))), none] [.int (nI (pG P v j))] (bf_MD D)
      refine bf_istore r.1 (L2 := [some (.ref 37), some (.int (nI u)), some (.int (nI v)), some (.int (nI (bf_sm (fun k => bf_pc (pB P k (pG P u k) ^^^ pB P k (pG P v k))) j))), some (.int (nI j)), some (.int (nI (pG P u j))), some (.int (nI (pG P v j)))]) dX9_flipsOf_30 rfl ?_
      refine bf_iload_n r.1 dX9_flipsOf_32 rfl ?_
      refine bf_iload r.1 dX9_flipsOf_33 rfl ?_
      refine bf_iload r.1 dX9_flipsOf_35 rfl ?_
      refine nc_ne r (tgt := 44) dX9_flipsOf_37 (by decide) (Nat.lt_trans (pG_lt P _ _) (by decide)) (Nat.lt_trans (pG_lt P _ _) (by decide)) (fun c330 => ?_) (fun c330 => ?_)
      · refine bf_aload_n r.1 dX9_flipsOf_44 rfl ?_
        refine bf_iload r.1 dX9_flipsOf_45 rfl ?_
        refine bf_iload r.1 dX9_flipsOf_47 rfl ?_
        refine cl_v r (y2 := mX9_burnsAt) dX9_flipsOf_49 li_X9_157 mv_X9_burnsAt rfl (by decide) [.int (nI j), .int (nI (pG P u j))] [.int (nI (bf_sm (fun k => bf_pc (pB P k (pG P u k) ^^^ pB P k (pG P v k))) j))] rfl (Nat.le_of_ble_eq_true rfl) rfl (c_X9_burnsAt (by omega) hv hm c329 (pG_lt P _ _)) ?_
        show J 52 [some (.ref 37), some (.int (nI u)), some (.int (nI v)), some (.int (nI (bf_sm (fun k => bf_pc (pB P k (pG P u k) ^^^ pB P k (pG P v k))) j))), some (.int (nI j)), some (.int (nI (pG P u j))), some (.int (nI (pG P v j)))] [.int (nI (pB P j (pG P u j))), .int (nI (bf_sm (fun k => bf_pc (pB P k (pG P u k) ^^^ pB P k (pG P v k))) j))] (bf_MD D)
        refine bf_aload_n r.1 dX9_flipsOf_52 rfl ?_
        refine bf_iload r.1 dX9_flipsOf_53 rfl ?_
        refine bf_iload r.1 dX9_flipsOf_55 rfl ?_
        refine cl_v r (y2 := mX9_burnsAt) dX9_flipsOf_57 li_X9_157 mv_X9_burnsAt rfl (by decide) [.int (nI j), .int (nI (pG P v j))] [.int (nI (pB P j (pG P u j))), .int (nI (bf_sm (fun k => bf_pc (pB P k (pG P u k) ^^^ pB P k (pG P v k))) j))] rfl (Nat.le_of_ble_eq_true rfl) rfl (c_X9_burnsAt (by omega) hv hm c329 (pG_lt P _ _)) ?_
        show J 60 [some (.ref 37), some (.int (nI u)), some (.int (nI v)), some (.int (nI (bf_sm (fun k => bf_pc (pB P k (pG P u k) ^^^ pB P k (pG P v k))) j))), some (.int (nI j)), some (.int (nI (pG P u j))), some (.int (nI (pG P v j)))] [.int (nI (pB P j (pG P v j))), .int (nI (pB P j (pG P u j))), .int (nI (bf_sm (fun k => bf_pc (pB P k (pG P u k) ^^^ pB P k (pG P v k))) j))] (bf_MD D)
        refine na_xor r dX9_flipsOf_60  ?_
        refine cl_s r (y2 := mX9_bits) dX9_flipsOf_61 li_X9_188 mv_X9_bits [.int (nI ((pB P j (pG P u j)) ^^^ (pB P j (pG P v j))))] [.int (nI (bf_sm (fun k => bf_pc (pB P k (pG P u k) ^^^ pB P k (pG P v k))) j))] rfl (Nat.le_of_ble_eq_true rfl) rfl (c_X9_bits (by omega) D (bf_1024 (Nat.xor_lt_two_pow (n := 7) (pB_lt hv (by omega) _) (pB_lt hv (by omega) _)))) ?_
        show J 64 [some (.ref 37), some (.int (nI u)), some (.int (nI v)), some (.int (nI (bf_sm (fun k => bf_pc (pB P k (pG P u k) ^^^ pB P k (pG P v k))) j))), some (.int (nI j)), some (.int (nI (pG P u j))), some (.int (nI (pG P v j)))] [.int (nI (bf_pc ((pB P j (pG P u j)) ^^^ (pB P j (pG P v j))))), .int (nI (bf_sm (fun k => bf_pc (pB P k (pG P u k) ^^^ pB P k (pG P v k))) j))] (bf_MD D)
        refine na_add r dX9_flipsOf_64  ?_
        refine bf_istore_n r.1 (L2 := [some (.ref 37), some (.int (nI u)), some (.int (nI v)), some (.int (nI (bf_sm (fun k => bf_pc (pB P k (pG P u k) ^^^ pB P k (pG P v k))) j + (bf_pc ((pB P j (pG P u j)) ^^^ (pB P j (pG P v j))))))), some (.int (nI j)), some (.int (nI (pG P u j))), some (.int (nI (pG P v j)))]) dX9_flipsOf_65 rfl ?_
        refine na_inc r (v := j + 1) (L2 := [some (.ref 37), some (.int (nI u)), some (.int (nI v)), some (.int (nI (bf_sm (fun k => bf_pc (pB P k (pG P u k) ^^^ pB P k (pG P v k))) j + (bf_pc ((pB P j (pG P u j)) ^^^ (pB P j (pG P v j))))))), some (.int (nI (j + 1))), some (.int (nI (pG P u j))), some (.int (nI (pG P v j)))]) dX9_flipsOf_66 rfl (nI_add _ 1) rfl ?_
        refine bf_goto r.1 (tgt := 5) dX9_flipsOf_69 (by decide) ?_
        refine bf_fgt r.1 (i := 5) (L2 := [some (.ref 37), some (.int (nI u)), some (.int (nI v)), some (.int (nI (bf_sm (fun k => bf_pc (pB P k (pG P u k) ^^^ pB P k (pG P v k))) j + (bf_pc ((pB P j (pG P u j)) ^^^ (pB P j (pG P v j))))))), some (.int (nI (j + 1))), none, some (.int (nI (pG P v j)))]) rfl ?_
        refine bf_fgt r.1 (i := 6) (L2 := [some (.ref 37), some (.int (nI u)), some (.int (nI v)), some (.int (nI (bf_sm (fun k => bf_pc (pB P k (pG P u k) ^^^ pB P k (pG P v k))) j + (bf_pc ((pB P j (pG P u j)) ^^^ (pB P j (pG P v j))))))), some (.int (nI (j + 1))), none, none]) rfl ?_
        exact ih c329
      · refine bf_iconst r.1 (v := nI 0) dX9_flipsOf_40 rfl ?_
        refine bf_goto r.1 (tgt := 64) dX9_flipsOf_41 (by decide) ?_
        refine eq_i (v := nI (bf_pc (pB P j (pG P u j) ^^^ pB P j (pG P v j)))) (by rw [c330, Nat.xor_self]; rfl) ?_
        refine na_add r dX9_flipsOf_64  ?_
        refine bf_istore_n r.1 (L2 := [some (.ref 37), some (.int (nI u)), some (.int (nI v)), some (.int (nI (bf_sm (fun k => bf_pc (pB P k (pG P u k) ^^^ pB P k (pG P v k))) j + (bf_pc (pB P j (pG P u j) ^^^ pB P j (pG P v j)))))), some (.int (nI j)), some (.int (nI (pG P u j))), some (.int (nI (pG P v j)))]) dX9_flipsOf_65 rfl ?_
        refine na_inc r (v := j + 1) (L2 := [some (.ref 37), some (.int (nI u)), some (.int (nI v)), some (.int (nI (bf_sm (fun k => bf_pc (pB P k (pG P u k) ^^^ pB P k (pG P v k))) j + (bf_pc (pB P j (pG P u j) ^^^ pB P j (pG P v j)))))), some (.int (nI (j + 1))), some (.int (nI (pG P u j))), some (.int (nI (pG P v j)))]) dX9_flipsOf_66 rfl (nI_add _ 1) rfl ?_
        refine bf_goto r.1 (tgt := 5) dX9_flipsOf_69 (by decide) ?_
        refine bf_fgt r.1 (i := 5) (L2 := [some (.ref 37), some (.int (nI u)), some (.int (nI v)), some (.int (nI (bf_sm (fun k => bf_pc (pB P k (pG P u k) ^^^ pB P k (pG P v k))) j + (bf_pc (pB P j (pG P u j) ^^^ pB P j (pG P v j)))))), some (.int (nI (j + 1))), none, some (.int (nI (pG P v j)))]) rfl ?_
        refine bf_fgt r.1 (i := 6) (L2 := [some (.ref 37), some (.int (nI u)), some (.int (nI v)), some (.int (nI (bf_sm (fun k => bf_pc (pB P k (pG P u k) ^^^ pB P k (pG P v k))) j + (bf_pc (pB P j (pG P u j) ^^^ pB P j (pG P v j)))))), some (.int (nI (j + 1))), none, none]) rfl ?_
        exact ih c329
  exact loop 0 (by omega) 
theorem c_X9_flips {d : Nat} (hd : 8 ≤ d) {D : bf_D} {P : bf_Pn} (hv : vP P) (hm : mP D P) (u v : Int32) : bf_Cf d mX9_flips [.ref 37, .int (u), .int (v)] D (some (.int (ox_flips P u v))) D := by
  refine bf_Cf_of 7 hd mo_X9_flips (Nat.le_of_ble_eq_true rfl) (fun e he J r => ?_)
  show J 0 [some (.ref 37), some (.int (u)), some (.int (v))] [] (bf_MD D)
  have hn4 := hv.1
  have hx4 := pX_le hv
  have hx0 := pX_pos P
  refine bf_aload_n r.1 dX9_flips_0 rfl ?_
  refine ig_int r (v := nI (pN P)) dX9_flips_1 fl_X9_77 rfl (by decide) rfl (mP_n (P := P) hm) ?_
  refine nz_ne r (tgt := 10) dX9_flips_4 (by decide) (by omega) (fun c331 => ?_) (fun c331 => ?_)
  · have h1n : 1 ≤ pN P := by omega
    refine bf_aload_n r.1 dX9_flips_10 rfl ?_
    refine bf_iload_n r.1 dX9_flips_11 rfl ?_
    refine cl_v r (y2 := mX9_noNumber) dX9_flips_12 li_X9_185 mv_X9_noNumber rfl (by decide) [.int (u)] [] rfl (Nat.le_of_ble_eq_true rfl) rfl (c_X9_noNumber (by omega) hv hm _) ?_
    show J 15 [some (.ref 37), some (.int (u)), some (.int (v))] [.int (if ¬ (0 ≤ u ∧ u < nI (pX P)) then 1 else 0)] (bf_MD D)
    refine nb_ne r (tgt := 26) dX9_flips_15 (by decide) (fun c332 => ?_) (fun c332 => ?_)
    · have wu := rg_n c332
      refine bf_bipush r.1 (v := -2) dX9_flips_26 rfl ?_
      refine bf_goto r.1 (tgt := 37) dX9_flips_28 (by decide) ?_
      exact rt_i r dX9_flips_37 rfl rfl (by simp only [ox_flips, if_neg c331, wu, on_n, on_s]) rfl
    · obtain ⟨u0, hu0, rfl⟩ := rg_in (by omega) (Decidable.not_not.mp c332)
      have wu := rg_s hu0 (by omega)
      refine bf_aload_n r.1 dX9_flips_18 rfl ?_
      refine bf_iload_n r.1 dX9_flips_19 rfl ?_
      refine cl_v r (y2 := mX9_noNumber) dX9_flips_20 li_X9_185 mv_X9_noNumber rfl (by decide) [.int (v)] [] rfl (Nat.le_of_ble_eq_true rfl) rfl (c_X9_noNumber (by omega) hv hm _) ?_
      show J 23 [some (.ref 37), some (.int (nI u0)), some (.int (v))] [.int (if ¬ (0 ≤ v ∧ v < nI (pX P)) then 1 else 0)] (bf_MD D)
      refine nb_eq r (tgt := 31) dX9_flips_23 (by decide) (fun c333 => ?_) (fun c333 => ?_)
      · obtain ⟨v0, hv0, rfl⟩ := rg_in (by omega) (Decidable.not_not.mp c333)
        have wv := rg_s hv0 (by omega)
        refine bf_aload_n r.1 dX9_flips_31 rfl ?_
        refine bf_iload_n r.1 dX9_flips_32 rfl ?_
        refine bf_iload_n r.1 dX9_flips_33 rfl ?_
        refine cl_v r (y2 := mX9_flipsOf) dX9_flips_34 li_X9_193 mv_X9_flipsOf rfl (by decide) [.int (nI u0), .int (nI v0)] [] rfl (Nat.le_of_ble_eq_true rfl) rfl (c_X9_flipsOf (by omega) hv hm (by omega) (by omega)) ?_
        show J 37 [some (.ref 37), some (.int (nI u0)), some (.int (nI v0))] [.int (nI (pF P u0 v0))] (bf_MD D)
        exact rt_i r dX9_flips_37 rfl rfl (by simp only [ox_flips, if_neg c331, wu, wv, on_n, on_s]) rfl
      · have wv := rg_n c333
        refine bf_bipush r.1 (v := -2) dX9_flips_26 rfl ?_
        refine bf_goto r.1 (tgt := 37) dX9_flips_28 (by decide) ?_
        exact rt_i r dX9_flips_37 rfl rfl (by simp only [ox_flips, if_neg c331, wu, wv, on_n, on_s]) rfl
  · refine bf_bipush r.1 (v := -3) dX9_flips_7 rfl ?_
    exact rt_i r dX9_flips_9 rfl rfl (by simp only [ox_flips, if_pos c331, on_n, on_s]) rfl
