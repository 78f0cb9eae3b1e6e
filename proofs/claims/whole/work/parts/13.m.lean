def pDd (P : bf_Pn) : Nat := bf_sm (fun k => bf_pc (pD P k)) (pN P)
def pBr (P : bf_Pn) (u : Nat) : Nat := bf_sm (fun k => bf_pc (pB P k (pG P u k))) (pN P)
def pF (P : bf_Pn) (u v : Nat) : Nat := bf_sm (fun k => bf_pc (pB P k (pG P u k) ^^^ pB P k (pG P v k))) (pN P)
def pA (P : bf_Pn) (u : Nat) : Nat := bf_pr (fun k => bf_pc (pM P k (pB P k (pG P u k)))) (pN P)
theorem vP_d {P : bf_Pn} (hv : vP P) {k : Nat} (hk : k < pN P) : pD P k < 128 := (hv.2.2.2.2 k hk).2.1
theorem vP_t {P : bf_Pn} (hv : vP P) {k : Nat} (hk : k < pN P) : pT P k < 128 := (hv.2.2.2.2 k hk).2.2.1
theorem vP_k {P : bf_Pn} (hv : vP P) {k : Nat} (hk : k < pN P) : pK P k < 3 := (hv.2.2.2.2 k hk).1
theorem bf_1024 {x : Nat} (h : x < 128) : x < 1024 := by omega
theorem c_X2_deadBars {d : Nat} (hd : 2 ≤ d) {D : bf_D} {P : bf_Pn} (hv : vP P) (hc : cP D P) : bf_Cf d mX2_deadBars [.ref 2] D (some (.int (nI (pDd P)))) D := by
  refine bf_Cf_of 1 hd mo_X2_deadBars (Nat.le_of_ble_eq_true rfl) (fun e he J r => ?_)
  show J 0 [some (.ref 2), none, none] [] (bf_MD D)
  have hn4 := hv.1
  have hx4 := pX_le hv
  have hx0 := pX_pos P
  refine bf_iconst r.1 (v := nI 0) dX2_deadBars_0 rfl ?_
  refine bf_istore_n r.1 (L2 := [some (.ref 2), some (.int (nI 0)), none]) dX2_deadBars_1 rfl ?_
  refine bf_iconst r.1 (v := nI 0) dX2_deadBars_2 rfl ?_
  refine bf_istore_n r.1 (L2 := [some (.ref 2), some (.int (nI 0)), some (.int (nI 0))]) dX2_deadBars_3 rfl ?_
  have loop : ∀ j : Nat, j ≤ (pN P) → J 4 [some (.ref 2), some (.int (nI (bf_sm (fun k => bf_pc (pD P k)) j))), some (.int (nI j))] [] (bf_MD D) := by
    refine bf_down (fun j hle ih => ?_)
    refine bf_iload_n r.1 dX2_deadBars_4 rfl ?_
    refine bf_aload_n r.1 dX2_deadBars_5 rfl ?_
    refine ig_int r (v := nI (pN P)) dX2_deadBars_6 fl_X2_32 rfl (by decide) rfl (cP_n (P := P) hc) ?_
    refine nc_ge r (tgt := 33) dX2_deadBars_9 (by decide) (by omega) (by omega) (fun c16 => ?_) (fun c16 => ?_)
    · refine bf_iload_n r.1 dX2_deadBars_33 rfl ?_
      have ej : j = pN P := by omega
      subst ej
      exact rt_i r dX2_deadBars_34 rfl rfl rfl rfl
    · refine bf_iload_n r.1 dX2_deadBars_12 rfl ?_
      refine bf_aload_n r.1 dX2_deadBars_13 rfl ?_
      refine ig_ref r (b := 3) dX2_deadBars_14 fl_X2_11 rfl (by decide) rfl ?_
      refine bf_iload_n r.1 dX2_deadBars_17 rfl ?_
      refine aa_ld r (n := 4) (b := 6 + 3 * j) dX2_deadBars_18 (by decide) rfl (by decide) (Nat.lt_of_lt_of_le c16 hn4) (ad_a3 (Nat.lt_of_lt_of_le c16 hn4)) ?_
      refine ig_int r (v := nI (pD P j)) dX2_deadBars_19 fl_X2_45 (ad_c6 (Nat.lt_of_lt_of_le c16 hn4)) (ad_l6 (Nat.lt_of_lt_of_le c16 hn4)) (ad_i6 (Nat.lt_of_lt_of_le c16 hn4) 4 (by decide)) (cP_d (P := P) hc c16) ?_
      refine cl_s r (y2 := mJ6_bitCount_0f7a4) dX2_deadBars_22 li_X2_48 mv_J6_bitCount_0f7a4 [.int (nI (pD P j))] [.int (nI (bf_sm (fun k => bf_pc (pD P k)) j))] rfl (Nat.le_of_ble_eq_true rfl) rfl (c_J6_bitCount (by omega) D (bf_1024 (vP_d hv (by omega)))) ?_
      show J 25 [some (.ref 2), some (.int (nI (bf_sm (fun k => bf_pc (pD P k)) j))), some (.int (nI j))] [.int (nI (bf_pc (pD P j))), .int (nI (bf_sm (fun k => bf_pc (pD P k)) j))] (bf_MD D)
      refine na_add r dX2_deadBars_25  ?_
      refine bf_istore_n r.1 (L2 := [some (.ref 2), some (.int (nI (bf_sm (fun k => bf_pc (pD P k)) j + (bf_pc (pD P j))))), some (.int (nI j))]) dX2_deadBars_26 rfl ?_
      refine na_inc r (v := j + 1) (L2 := [some (.ref 2), some (.int (nI (bf_sm (fun k => bf_pc (pD P k)) j + (bf_pc (pD P j))))), some (.int (nI (j + 1)))]) dX2_deadBars_27 rfl (nI_add _ 1) rfl ?_
      refine bf_goto r.1 (tgt := 4) dX2_deadBars_30 (by decide) ?_
      exact ih c16
  exact loop 0 (by omega) 
theorem c_X2_litBars {d : Nat} (hd : 3 ≤ d) {D : bf_D} {P : bf_Pn} (hv : vP P) (hc : cP D P) {u : Nat} (hu : u < 2 ^ 31) : bf_Cf d mX2_litBars [.ref 2, .int (nI u)] D (some (.int (nI (pBr P u)))) D := by
  refine bf_Cf_of 2 hd mo_X2_litBars (Nat.le_of_ble_eq_true rfl) (fun e he J r => ?_)
  show J 0 [some (.ref 2), some (.int (nI u)), none, none] [] (bf_MD D)
  have hn4 := hv.1
  have hx4 := pX_le hv
  have hx0 := pX_pos P
  refine bf_iconst r.1 (v := nI 0) dX2_litBars_0 rfl ?_
  refine bf_istore_n r.1 (L2 := [some (.ref 2), some (.int (nI u)), some (.int (nI 0)), none]) dX2_litBars_1 rfl ?_
  refine bf_iconst r.1 (v := nI 0) dX2_litBars_2 rfl ?_
  refine bf_istore_n r.1 (L2 := [some (.ref 2), some (.int (nI u)), some (.int (nI 0)), some (.int (nI 0))]) dX2_litBars_3 rfl ?_
  have loop : ∀ j : Nat, j ≤ (pN P) → J 4 [some (.ref 2), some (.int (nI u)), some (.int (nI (bf_sm (fun k => bf_pc (pB P k (pG P u k))) j))), some (.int (nI j))] [] (bf_MD D) := by
    refine bf_down (fun j hle ih => ?_)
    refine bf_iload_n r.1 dX2_litBars_4 rfl ?_
    refine bf_aload_n r.1 dX2_litBars_5 rfl ?_
    refine ig_int r (v := nI (pN P)) dX2_litBars_6 fl_X2_32 rfl (by decide) rfl (cP_n (P := P) hc) ?_
    refine nc_ge r (tgt := 39) dX2_litBars_9 (by decide) (by omega) (by omega) (fun c17 => ?_) (fun c17 => ?_)
    · refine bf_iload_n r.1 dX2_litBars_39 rfl ?_
      have ej : j = pN P := by omega
      subst ej
      exact rt_i r dX2_litBars_40 rfl rfl rfl rfl
    · refine bf_iload_n r.1 dX2_litBars_12 rfl ?_
      refine bf_aload_n r.1 dX2_litBars_13 rfl ?_
      refine ig_ref r (b := 3) dX2_litBars_14 fl_X2_11 rfl (by decide) rfl ?_
      refine bf_iload_n r.1 dX2_litBars_17 rfl ?_
      refine aa_ld r (n := 4) (b := 6 + 3 * j) dX2_litBars_18 (by decide) rfl (by decide) (Nat.lt_of_lt_of_le c17 hn4) (ad_a3 (Nat.lt_of_lt_of_le c17 hn4)) ?_
      refine bf_aload_n r.1 dX2_litBars_19 rfl ?_
      refine bf_iload_n r.1 dX2_litBars_20 rfl ?_
      refine bf_iload_n r.1 dX2_litBars_21 rfl ?_
      refine cl_v r (y2 := mX2_digitOf) dX2_litBars_22 li_X2_54 mv_X2_digitOf rfl (by decide) [.int (nI u), .int (nI j)] [.ref (6 + 3 * j), .int (nI (bf_sm (fun k => bf_pc (pB P k (pG P u k))) j))] rfl (Nat.le_of_ble_eq_true rfl) rfl (c_X2_digitOf (by omega) hv hc hu c17) ?_
      show J 25 [some (.ref 2), some (.int (nI u)), some (.int (nI (bf_sm (fun k => bf_pc (pB P k (pG P u k))) j))), some (.int (nI j))] [.int (nI (pG P u j)), .ref (6 + 3 * j), .int (nI (bf_sm (fun k => bf_pc (pB P k (pG P u k))) j))] (bf_MD D)
      refine cl_v r (y2 := mX3_lit) dX2_litBars_25 li_X2_57 mv_X3_lit (ad_c6 (Nat.lt_of_lt_of_le c17 hn4)) (ad_l6 (Nat.lt_of_lt_of_le c17 hn4)) [.int (nI (pG P u j))] [.int (nI (bf_sm (fun k => bf_pc (pB P k (pG P u k))) j))] rfl (Nat.le_of_ble_eq_true rfl) rfl (c_X3_lit (by omega) hv hc c17 (pG_lt P u j)) ?_
      show J 28 [some (.ref 2), some (.int (nI u)), some (.int (nI (bf_sm (fun k => bf_pc (pB P k (pG P u k))) j))), some (.int (nI j))] [.int (nI (pB P j (pG P u j))), .int (nI (bf_sm (fun k => bf_pc (pB P k (pG P u k))) j))] (bf_MD D)
      refine cl_s r (y2 := mJ6_bitCount_0f7a4) dX2_litBars_28 li_X2_48 mv_J6_bitCount_0f7a4 [.int (nI (pB P j (pG P u j)))] [.int (nI (bf_sm (fun k => bf_pc (pB P k (pG P u k))) j))] rfl (Nat.le_of_ble_eq_true rfl) rfl (c_J6_bitCount (by omega) D (bf_1024 (pB_lt hv (by omega) _))) ?_
      show J 31 [some (.ref 2), some (.int (nI u)), some (.int (nI (bf_sm (fun k => bf_pc (pB P k (pG P u k))) j))), some (.int (nI j))] [.int (nI (bf_pc (pB P j (pG P u j)))), .int (nI (bf_sm (fun k => bf_pc (pB P k (pG P u k))) j))] (bf_MD D)
      refine na_add r dX2_litBars_31  ?_
      refine bf_istore_n r.1 (L2 := [some (.ref 2), some (.int (nI u)), some (.int (nI (bf_sm (fun k => bf_pc (pB P k (pG P u k))) j + (bf_pc (pB P j (pG P u j)))))), some (.int (nI j))]) dX2_litBars_32 rfl ?_
      refine na_inc r (v := j + 1) (L2 := [some (.ref 2), some (.int (nI u)), some (.int (nI (bf_sm (fun k => bf_pc (pB P k (pG P u k))) j + (bf_pc (pB P j (pG P u j)))))), some (.int (nI (j + 1)))]) dX2_litBars_33 rfl (nI_add _ 1) rfl ?_
      refine bf_goto r.1 (tgt := 4) dX2_litBars_36 (by decide) ?_
      exact ih c17
  exact loop 0 (by omega) 
theorem c_X2_flipsBetween {d : Nat} (hd : 3 ≤ d) {D : bf_D} {P : bf_Pn} (hv : vP P) (hc : cP D P) {u v : Nat} (hu : u < 2 ^ 31) (hw : v < 2 ^ 31) : bf_Cf d mX2_flipsBetween [.ref 2, .int (nI u), .int (nI v)] D (some (.int (nI (pF P u v)))) D := by
  refine bf_Cf_of 2 hd mo_X2_flipsBetween (Nat.le_of_ble_eq_true rfl) (fun e he J r => ?_)
  show J 0 [some (.ref 2), some (.int (nI u)), some (.int (nI v)), none, none] [] (bf_MD D)
  have hn4 := hv.1
  have hx4 := pX_le hv
  have hx0 := pX_pos P
  refine bf_iconst r.1 (v := nI 0) dX2_flipsBetween_0 rfl ?_
  refine bf_istore_n r.1 (L2 := [some (.ref 2), some (.int (nI u)), some (.int (nI v)), some (.int (nI 0)), none]) dX2_flipsBetween_1 rfl ?_
  refine bf_iconst r.1 (v := nI 0) dX2_flipsBetween_2 rfl ?_
  refine bf_istore r.1 (L2 := [some (.ref 2), some (.int (nI u)), some (.int (nI v)), some (.int (nI 0)), some (.int (nI 0))]) dX2_flipsBetween_3 rfl ?_
  have loop : ∀ j : Nat, j ≤ (pN P) → J 5 [some (.ref 2), some (.int (nI u)), some (.int (nI v)), some (.int (nI (bf_sm (fun k => bf_pc (pB P k (pG P u k) ^^^ pB P k (pG P v k))) j))), some (.int (nI j))] [] (bf_MD D) := by
    refine bf_down (fun j hle ih => ?_)
    refine bf_iload r.1 dX2_flipsBetween_5 rfl ?_
    refine bf_aload_n r.1 dX2_flipsBetween_7 rfl ?_
    refine ig_int r (v := nI (pN P)) dX2_flipsBetween_8 fl_X2_32 rfl (by decide) rfl (cP_n (P := P) hc) ?_
    refine nc_ge r (tgt := 61) dX2_flipsBetween_11 (by decide) (by omega) (by omega) (fun c18 => ?_) (fun c18 => ?_)
    · refine bf_iload_n r.1 dX2_flipsBetween_61 rfl ?_
      have ej : j = pN P := by omega
      subst ej
      exact rt_i r dX2_flipsBetween_62 rfl rfl rfl rfl
    · refine bf_iload_n r.1 dX2_flipsBetween_14 rfl ?_
      refine bf_aload_n r.1 dX2_flipsBetween_15 rfl ?_
      refine ig_ref r (b := 3) dX2_flipsBetween_16 fl_X2_11 rfl (by decide) rfl ?_
      refine bf_iload r.1 dX2_flipsBetween_19 rfl ?_
      refine aa_ld r (n := 4) (b := 6 + 3 * j) dX2_flipsBetween_21 (by decide) rfl (by decide) (Nat.lt_of_lt_of_le c18 hn4) (ad_a3 (Nat.lt_of_lt_of_le c18 hn4)) ?_
      refine bf_aload_n r.1 dX2_flipsBetween_22 rfl ?_
      refine bf_iload_n r.1 dX2_flipsBetween_23 rfl ?_
      refine bf_iload r.1 dX2_flipsBetween_24 rfl ?_
      refine cl_v r (y2 := mX2_digitOf) dX2_flipsBetween_26 li_X2_54 mv_X2_digitOf rfl (by decide) [.int (nI u), .int (nI j)] [.ref (6 + 3 * j), .int (nI (bf_sm (fun k => bf_pc (pB P k (pG P u k) ^^^ pB P k (pG P v k))) j))] rfl (Nat.le_of_ble_eq_true rfl) rfl (c_X2_digitOf (by omega) hv hc hu c18) ?_
      show J 29 [some (.ref 2), some (.int (nI u)), some (.int (nI v)), some (.int (nI (bf_sm (fun k => bf_pc (pB P k (pG P u k) ^^^ pB P k (pG P v k))) j))), some (.int (nI j))] [.int (nI (pG P u j)), .ref (6 + 3 * j), .int (nI (bf_sm (fun k => bf_pc (pB P k (pG P u k) ^^^ pB P k (pG P v k))) j))] (bf_MD D)
      refine cl_v r (y2 := mX3_lit) dX2_flipsBetween_29 li_X2_57 mv_X3_lit (ad_c6 (Nat.lt_of_lt_of_le c18 hn4)) (ad_l6 (Nat.lt_of_lt_of_le c18 hn4)) [.int (nI (pG P u j))] [.int (nI (bf_sm (fun k => bf_pc (pB P k (pG P u k) ^^^ pB P k (pG P v k))) j))] rfl (Nat.le_of_ble_eq_true rfl) rfl (c_X3_lit (by omega) hv hc c18 (pG_lt P u j)) ?_
      show J 32 [some (.ref 2), some (.int (nI u)), some (.int (nI v)), some (.int (nI (bf_sm (fun k => bf_pc (pB P k (pG P u k) ^^^ pB P k (pG P v k))) j))), some (.int (nI j))] [.int (nI (pB P j (pG P u j))), .int (nI (bf_sm (fun k => bf_pc (pB P k (pG P u k) ^^^ pB P k (pG P v k))) j))] (bf_MD D)
      refine bf_aload_n r.1 dX2_flipsBetween_32 rfl ?_
      refine ig_ref r (b := 3) dX2_flipsBetween_33 fl_X2_11 rfl (by decide) rfl ?_
      refine bf_iload r.1 dX2_flipsBetween_36 rfl ?_
      refine aa_ld r (n := 4) (b := 6 + 3 * j) dX2_flipsBetween_38 (by decide) rfl (by decide) (Nat.lt_of_lt_of_le c18 hn4) (ad_a3 (Nat.lt_of_lt_of_le c18 hn4)) ?_
      refine bf_aload_n r.1 dX2_flipsBetween_39 rfl ?_
      refine bf_iload_n r.1 dX2_flipsBetween_40 rfl ?_
      refine bf_iload r.1 dX2_flipsBetween_41 rfl ?_
      refine cl_v r (y2 := mX2_digitOf) dX2_flipsBetween_43 li_X2_54 mv_X2_digitOf rfl (by decide) [.int (nI v), .int (nI j)] [.ref (6 + 3 * j), .int (nI (pB P j (pG P u j))), .int (nI (bf_sm (fun k => bf_pc (pB P k (pG P u k) ^^^ pB P k (pG P v k))) j))] rfl (Nat.le_of_ble_eq_true rfl) rfl (c_X2_digitOf (by omega) hv hc hw c18) ?_
      show J 46 [some (.ref 2), some (.int (nI u)), some (.int (nI v)), some (.int (nI (bf_sm (fun k => bf_pc (pB P k (pG P u k) ^^^ pB P k (pG P v k))) j))), some (.int (nI j))] [.int (nI (pG P v j)), .ref (6 + 3 * j), .int (nI (pB P j (pG P u j))), .int (nI (bf_sm (fun k => bf_pc (pB P k (pG P u k) ^^^ pB P k (pG P v k))) j))] (bf_MD D)
      refine cl_v r (y2 := mX3_lit) dX2_flipsBetween_46 li_X2_57 mv_X3_lit (ad_c6 (Nat.lt_of_lt_of_le c18 hn4)) (ad_l6 (Nat.lt_of_lt_of_le c18 hn4)) [.int (nI (pG P v j))] [.int (nI (pB P j (pG P u j))), .int (nI (bf_sm (fun k => bf_pc (pB P k (pG P u k) ^^^ pB P k (pG P v k))) j))] rfl (Nat.le_of_ble_eq_true rfl) rfl (c_X3_lit (by omega) hv hc c18 (pG_lt P v j)) ?_
      show J 49 [some (.ref 2), some (.int (nI u)), some (.int (nI v)), some (.int (nI (bf_sm (fun k => bf_pc (pB P k (pG P u k) ^^^ pB P k (pG P v k))) j))), some (.int (nI j))] [.int (nI (pB P j (pG P v j))), .int (nI (pB P j (pG P u j))), .int (nI (bf_sm (fun k => bf_pc (pB P k (pG P u k) ^^^ pB P k (pG P v k))) j))] (bf_MD D)
      refine na_xor r dX2_flipsBetween_49  ?_
      refine cl_s r (y2 := mJ6_bitCount_0f7a4) dX2_flipsBetween_50 li_X2_48 mv_J6_bitCount_0f7a4 [.int (nI ((pB P j (pG P u j)) ^^^ (pB P j (pG P v j))))] [.int (nI (bf_sm (fun k => bf_pc (pB P k (pG P u k) ^^^ pB P k (pG P v k))) j))] rfl (Nat.le_of_ble_eq_true rfl) rfl (c_J6_bitCount (by omega) D (bf_1024 (bf_xor_lt (pB_lt hv (by omega) _) (pB_lt hv (by omega) _)))) ?_
      show J 53 [some (.ref 2), some (.int (nI u)), some (.int (nI v)), some (.int (nI (bf_sm (fun k => bf_pc (pB P k (pG P u k) ^^^ pB P k (pG P v k))) j))), some (.int (nI j))] [.int (nI (bf_pc ((pB P j (pG P u j)) ^^^ (pB P j (pG P v j))))), .int (nI (bf_sm (fun k => bf_pc (pB P k (pG P u k) ^^^ pB P k (pG P v k))) j))] (bf_MD D)
      refine na_add r dX2_flipsBetween_53  ?_
      refine bf_istore_n r.1 (L2 := [some (.ref 2), some (.int (nI u)), some (.int (nI v)), some (.int (nI (bf_sm (fun k => bf_pc (pB P k (pG P u k) ^^^ pB P k (pG P v k))) j + (bf_pc ((pB P j (pG P u j)) ^^^ (pB P j (pG P v j))))))), some (.int (nI j))]) dX2_flipsBetween_54 rfl ?_
      refine na_inc r (v := j + 1) (L2 := [some (.ref 2), some (.int (nI u)), some (.int (nI v)), some (.int (nI (bf_sm (fun k => bf_pc (pB P k (pG P u k) ^^^ pB P k (pG P v k))) j + (bf_pc ((pB P j (pG P u j)) ^^^ (pB P j (pG P v j))))))), some (.int (nI (j + 1)))]) dX2_flipsBetween_55 rfl (nI_add _ 1) rfl ?_
      refine bf_goto r.1 (tgt := 5) dX2_flipsBetween_58 (by decide) ?_
      exact ih c18
  exact loop 0 (by omega) 
theorem c_X2_digitsAlike {d : Nat} (hd : 3 ≤ d) {D : bf_D} {P : bf_Pn} (hv : vP P) (hc : cP D P) {k x : Nat} (hk : k < pN P) (hx : x < 10) : bf_Cf d mX2_digitsAlike [.ref 2, .int (nI k), .int (nI x)] D (some (.int (nI (pM P k (pB P k x))))) D := by
  refine bf_Cf_of 2 hd mo_X2_digitsAlike (Nat.le_of_ble_eq_true rfl) (fun e he J r => ?_)
  show J 0 [some (.ref 2), some (.int (nI k)), some (.int (nI x))] [] (bf_MD D)
  have hn4 := hv.1
  have hx4 := pX_le hv
  have hx0 := pX_pos P
  refine bf_aload_n r.1 dX2_digitsAlike_0 rfl ?_
  refine ig_ref r (b := 3) dX2_digitsAlike_1 fl_X2_11 rfl (by decide) rfl ?_
  refine bf_iload_n r.1 dX2_digitsAlike_4 rfl ?_
  refine aa_ld r (n := 4) (b := 6 + 3 * k) dX2_digitsAlike_5 (by decide) rfl (by decide) (Nat.lt_of_lt_of_le hk hn4) (ad_a3 (Nat.lt_of_lt_of_le hk hn4)) ?_
  refine bf_aload_n r.1 dX2_digitsAlike_6 rfl ?_
  refine ig_ref r (b := 3) dX2_digitsAlike_7 fl_X2_11 rfl (by decide) rfl ?_
  refine bf_iload_n r.1 dX2_digitsAlike_10 rfl ?_
  refine aa_ld r (n := 4) (b := 6 + 3 * k) dX2_digitsAlike_11 (by decide) rfl (by decide) (Nat.lt_of_lt_of_le hk hn4) (ad_a3 (Nat.lt_of_lt_of_le hk hn4)) ?_
  refine bf_iload_n r.1 dX2_digitsAlike_12 rfl ?_
  refine cl_v r (y2 := mX3_lit) dX2_digitsAlike_13 li_X2_57 mv_X3_lit (ad_c6 (Nat.lt_of_lt_of_le hk hn4)) (ad_l6 (Nat.lt_of_lt_of_le hk hn4)) [.int (nI x)] [.ref (6 + 3 * k)] rfl (Nat.le_of_ble_eq_true rfl) rfl (c_X3_lit (by omega) hv hc hk (by omega)) ?_
  show J 16 [some (.ref 2), some (.int (nI k)), some (.int (nI x))] [.int (nI (pB P k x)), .ref (6 + 3 * k)] (bf_MD D)
  refine cl_v r (y2 := mX3_digitsOf) dX2_digitsAlike_16 li_X2_80 mv_X3_digitsOf (ad_c6 (Nat.lt_of_lt_of_le hk hn4)) (ad_l6 (Nat.lt_of_lt_of_le hk hn4)) [.int (nI (pB P k x))] [] rfl (Nat.le_of_ble_eq_true rfl) rfl (c_X3_digitsOf (by omega) hv hc hk (bf_lt31 (pB_lt hv hk x) (by decide))) ?_
  show J 19 [some (.ref 2), some (.int (nI k)), some (.int (nI x))] [.int (nI (pM P k (pB P k x)))] (bf_MD D)
  exact rt_i r dX2_digitsAlike_19 rfl rfl rfl rfl
theorem c_X2_countAlike {d : Nat} (hd : 4 ≤ d) {D : bf_D} {P : bf_Pn} (hv : vP P) (hc : cP D P) {u : Nat} (hu : u < 2 ^ 31) : bf_Cf d mX2_countAlike [.ref 2, .int (nI u)] D (some (.int (nI (pA P u)))) D := by
  refine bf_Cf_of 3 hd mo_X2_countAlike (Nat.le_of_ble_eq_true rfl) (fun e he J r => ?_)
  show J 0 [some (.ref 2), some (.int (nI u)), none, none] [] (bf_MD D)
  have hn4 := hv.1
  have hx4 := pX_le hv
  have hx0 := pX_pos P
  refine bf_iconst r.1 (v := nI 1) dX2_countAlike_0 rfl ?_
  refine bf_istore_n r.1 (L2 := [some (.ref 2), some (.int (nI u)), some (.int (nI 1)), none]) dX2_countAlike_1 rfl ?_
  refine bf_iconst r.1 (v := nI 0) dX2_countAlike_2 rfl ?_
  refine bf_istore_n r.1 (L2 := [some (.ref 2), some (.int (nI u)), some (.int (nI 1)), some (.int (nI 0))]) dX2_countAlike_3 rfl ?_
  have loop : ∀ j : Nat, j ≤ (pN P) → J 4 [some (.ref 2), some (.int (nI u)), some (.int (nI (bf_pr (fun k => bf_pc (pM P k (pB P k (pG P u k)))) j))), some (.int (nI j))] [] (bf_MD D) := by
    refine bf_down (fun j hle ih => ?_)
    refine bf_iload_n r.1 dX2_countAlike_4 rfl ?_
    refine bf_aload_n r.1 dX2_countAlike_5 rfl ?_
    refine ig_int r (v := nI (pN P)) dX2_countAlike_6 fl_X2_32 rfl (by decide) rfl (cP_n (P := P) hc) ?_
    refine nc_ge r (tgt := 35) dX2_countAlike_9 (by decide) (by omega) (by omega) (fun c19 => ?_) (fun c19 => ?_)
    · refine bf_iload_n r.1 dX2_countAlike_35 rfl ?_
      have ej : j = pN P := by omega
      subst ej
      exact rt_i r dX2_countAlike_36 rfl rfl rfl rfl
    · refine bf_iload_n r.1 dX2_countAlike_12 rfl ?_
      refine bf_aload_n r.1 dX2_countAlike_13 rfl ?_
      refine bf_iload_n r.1 dX2_countAlike_14 rfl ?_
      refine bf_aload_n r.1 dX2_countAlike_15 rfl ?_
      refine bf_iload_n r.1 dX2_countAlike_16 rfl ?_
      refine bf_iload_n r.1 dX2_countAlike_17 rfl ?_
      refine cl_v r (y2 := mX2_digitOf) dX2_countAlike_18 li_X2_54 mv_X2_digitOf rfl (by decide) [.int (nI u), .int (nI j)] [.int (nI j), .ref 2, .int (nI (bf_pr (fun k => bf_pc (pM P k (pB P k (pG P u k)))) j))] rfl (Nat.le_of_ble_eq_true rfl) rfl (c_X2_digitOf (by omega) hv hc hu c19) ?_
      show J 21 [some (.ref 2), some (.int (nI u)), some (.int (nI (bf_pr (fun k => bf_pc (pM P k (pB P k (pG P u k)))) j))), some (.int (nI j))] [.int (nI (pG P u j)), .int (nI j), .ref 2, .int (nI (bf_pr (fun k => bf_pc (pM P k (pB P k (pG P u k)))) j))] (bf_MD D)
      refine cl_v r (y2 := mX2_digitsAlike) dX2_countAlike_21 li_X2_77 mv_X2_digitsAlike rfl (by decide) [.int (nI j), .int (nI (pG P u j))] [.int (nI (bf_pr (fun k => bf_pc (pM P k (pB P k (pG P u k)))) j))] rfl (Nat.le_of_ble_eq_true rfl) rfl (c_X2_digitsAlike (by omega) hv hc c19 (pG_lt P u j)) ?_
      show J 24 [some (.ref 2), some (.int (nI u)), some (.int (nI (bf_pr (fun k => bf_pc (pM P k (pB P k (pG P u k)))) j))), some (.int (nI j))] [.int (nI (pM P j (pB P j (pG P u j)))), .int (nI (bf_pr (fun k => bf_pc (pM P k (pB P k (pG P u k)))) j))] (bf_MD D)
      refine cl_s r (y2 := mJ6_bitCount_0f7a4) dX2_countAlike_24 li_X2_48 mv_J6_bitCount_0f7a4 [.int (nI (pM P j (pB P j (pG P u j))))] [.int (nI (bf_pr (fun k => bf_pc (pM P k (pB P k (pG P u k)))) j))] rfl (Nat.le_of_ble_eq_true rfl) rfl (c_J6_bitCount (by omega) D (pM_lt _ _ _)) ?_
      show J 27 [some (.ref 2), some (.int (nI u)), some (.int (nI (bf_pr (fun k => bf_pc (pM P k (pB P k (pG P u k)))) j))), some (.int (nI j))] [.int (nI (bf_pc (pM P j (pB P j (pG P u j))))), .int (nI (bf_pr (fun k => bf_pc (pM P k (pB P k (pG P u k)))) j))] (bf_MD D)
      refine na_mul r dX2_countAlike_27  ?_
      refine bf_istore_n r.1 (L2 := [some (.ref 2), some (.int (nI u)), some (.int (nI ((bf_pr (fun k => bf_pc (pM P k (pB P k (pG P u k)))) j) * (bf_pc (pM P j (pB P j (pG P u j))))))), some (.int (nI j))]) dX2_countAlike_28 rfl ?_
      refine na_inc r (v := j + 1) (L2 := [some (.ref 2), some (.int (nI u)), some (.int (nI ((bf_pr (fun k => bf_pc (pM P k (pB P k (pG P u k)))) j) * (bf_pc (pM P j (pB P j (pG P u j))))))), some (.int (nI (j + 1)))]) dX2_countAlike_29 rfl (nI_add _ 1) rfl ?_
      refine bf_goto r.1 (tgt := 4) dX2_countAlike_32 (by decide) ?_
      exact ih c19
  exact loop 0 (by omega) 
theorem c_X2_unlikePictures {d : Nat} (hd : 3 ≤ d) {D : bf_D} {P : bf_Pn} (hv : vP P) (hc : cP D P) : bf_Cf d mX2_unlikePictures [.ref 2] D (some (.int (nI (bf_pr (pU P) (pN P))))) D := by
  refine bf_Cf_of 2 hd mo_X2_unlikePictures (Nat.le_of_ble_eq_true rfl) (fun e he J r => ?_)
  show J 0 [some (.ref 2), none, none] [] (bf_MD D)
  have hn4 := hv.1
  have hx4 := pX_le hv
  have hx0 := pX_pos P
  refine bf_iconst r.1 (v := nI 1) dX2_unlikePictures_0 rfl ?_
  refine bf_istore_n r.1 (L2 := [some (.ref 2), some (.int (nI 1)), none]) dX2_unlikePictures_1 rfl ?_
  refine bf_iconst r.1 (v := nI 0) dX2_unlikePictures_2 rfl ?_
  refine bf_istore_n r.1 (L2 := [some (.ref 2), some (.int (nI 1)), some (.int (nI 0))]) dX2_unlikePictures_3 rfl ?_
  have loop : ∀ j : Nat, j ≤ (pN P) → J 4 [some (.ref 2), some (.int (nI (bf_pr (pU P) j))), some (.int (nI j))] [] (bf_MD D) := by
    refine bf_down (fun j hle ih => ?_)
    refine bf_iload_n r.1 dX2_unlikePictures_4 rfl ?_
    refine bf_aload_n r.1 dX2_unlikePictures_5 rfl ?_
    refine ig_int r (v := nI (pN P)) dX2_unlikePictures_6 fl_X2_32 rfl (by decide) rfl (cP_n (P := P) hc) ?_
    refine nc_ge r (tgt := 30) dX2_unlikePictures_9 (by decide) (by omega) (by omega) (fun c20 => ?_) (fun c20 => ?_)
    · refine bf_iload_n r.1 dX2_unlikePictures_30 rfl ?_
      have ej : j = pN P := by omega
      subst ej
      exact rt_i r dX2_unlikePictures_31 rfl rfl rfl rfl
    · refine bf_iload_n r.1 dX2_unlikePictures_12 rfl ?_
      refine bf_aload_n r.1 dX2_unlikePictures_13 rfl ?_
      refine ig_ref r (b := 3) dX2_unlikePictures_14 fl_X2_11 rfl (by decide) rfl ?_
      refine bf_iload_n r.1 dX2_unlikePictures_17 rfl ?_
      refine aa_ld r (n := 4) (b := 6 + 3 * j) dX2_unlikePictures_18 (by decide) rfl (by decide) (Nat.lt_of_lt_of_le c20 hn4) (ad_a3 (Nat.lt_of_lt_of_le c20 hn4)) ?_
      refine cl_v r (y2 := mX3_unlikeSets) dX2_unlikePictures_19 li_X2_95 mv_X3_unlikeSets (ad_c6 (Nat.lt_of_lt_of_le c20 hn4)) (ad_l6 (Nat.lt_of_lt_of_le c20 hn4)) [] [.int (nI (bf_pr (pU P) j))] rfl (Nat.le_of_ble_eq_true rfl) rfl (c_X3_unlikeSets (by omega) hv hc c20) ?_
      show J 22 [some (.ref 2), some (.int (nI (bf_pr (pU P) j))), some (.int (nI j))] [.int (nI (pU P j)), .int (nI (bf_pr (pU P) j))] (bf_MD D)
      refine na_mul r dX2_unlikePictures_22  ?_
      refine bf_istore_n r.1 (L2 := [some (.ref 2), some (.int (nI ((bf_pr (pU P) j) * (pU P j)))), some (.int (nI j))]) dX2_unlikePictures_23 rfl ?_
      refine na_inc r (v := j + 1) (L2 := [some (.ref 2), some (.int (nI ((bf_pr (pU P) j) * (pU P j)))), some (.int (nI (j + 1)))]) dX2_unlikePictures_24 rfl (nI_add _ 1) rfl ?_
      refine bf_goto r.1 (tgt := 4) dX2_unlikePictures_27 (by decide) ?_
      exact ih c20
  exact loop 0 (by omega) 
theorem c_X2_lonePictures {d : Nat} (hd : 3 ≤ d) {D : bf_D} {P : bf_Pn} (hv : vP P) (hc : cP D P) : bf_Cf d mX2_lonePictures [.ref 2] D (some (.int (nI (bf_pr (pE P) (pN P))))) D := by
  refine bf_Cf_of 2 hd mo_X2_lonePictures (Nat.le_of_ble_eq_true rfl) (fun e he J r => ?_)
  show J 0 [some (.ref 2), none, none] [] (bf_MD D)
  have hn4 := hv.1
  have hx4 := pX_le hv
  have hx0 := pX_pos P
  refine bf_iconst r.1 (v := nI 1) dX2_lonePictures_0 rfl ?_
  refine bf_istore_n r.1 (L2 := [some (.ref 2), some (.int (nI 1)), none]) dX2_lonePictures_1 rfl ?_
  refine bf_iconst r.1 (v := nI 0) dX2_lonePictures_2 rfl ?_
  refine bf_istore_n r.1 (L2 := [some (.ref 2), some (.int (nI 1)), some (.int (nI 0))]) dX2_lonePictures_3 rfl ?_
  have loop : ∀ j : Nat, j ≤ (pN P) → J 4 [some (.ref 2), some (.int (nI (bf_pr (pE P) j))), some (.int (nI j))] [] (bf_MD D) := by
    refine bf_down (fun j hle ih => ?_)
    refine bf_iload_n r.1 dX2_lonePictures_4 rfl ?_
    refine bf_aload_n r.1 dX2_lonePictures_5 rfl ?_
    refine ig_int r (v := nI (pN P)) dX2_lonePictures_6 fl_X2_32 rfl (by decide) rfl (cP_n (P := P) hc) ?_
    refine nc_ge r (tgt := 30) dX2_lonePictures_9 (by decide) (by omega) (by omega) (fun c21 => ?_) (fun c21 => ?_)
    · refine bf_iload_n r.1 dX2_lonePictures_30 rfl ?_
      have ej : j = pN P := by omega
      subst ej
      exact rt_i r dX2_lonePictures_31 rfl rfl rfl rfl
    · refine bf_iload_n r.1 dX2_lonePictures_12 rfl ?_
      refine bf_aload_n r.1 dX2_lonePictures_13 rfl ?_
      refine ig_ref r (b := 3) dX2_lonePictures_14 fl_X2_11 rfl (by decide) rfl ?_
      refine bf_iload_n r.1 dX2_lonePictures_17 rfl ?_
      refine aa_ld r (n := 4) (b := 6 + 3 * j) dX2_lonePictures_18 (by decide) rfl (by decide) (Nat.lt_of_lt_of_le c21 hn4) (ad_a3 (Nat.lt_of_lt_of_le c21 hn4)) ?_
      refine cl_v r (y2 := mX3_loneDigits) dX2_lonePictures_19 li_X2_99 mv_X3_loneDigits (ad_c6 (Nat.lt_of_lt_of_le c21 hn4)) (ad_l6 (Nat.lt_of_lt_of_le c21 hn4)) [] [.int (nI (bf_pr (pE P) j))] rfl (Nat.le_of_ble_eq_true rfl) rfl (c_X3_loneDigits (by omega) hv hc c21) ?_
      show J 22 [some (.ref 2), some (.int (nI (bf_pr (pE P) j))), some (.int (nI j))] [.int (nI (pE P j)), .int (nI (bf_pr (pE P) j))] (bf_MD D)
      refine na_mul r dX2_lonePictures_22  ?_
      refine bf_istore_n r.1 (L2 := [some (.ref 2), some (.int (nI ((bf_pr (pE P) j) * (pE P j)))), some (.int (nI j))]) dX2_lonePictures_23 rfl ?_
      refine na_inc r (v := j + 1) (L2 := [some (.ref 2), some (.int (nI ((bf_pr (pE P) j) * (pE P j)))), some (.int (nI (j + 1)))]) dX2_lonePictures_24 rfl (nI_add _ 1) rfl ?_
      refine bf_goto r.1 (tgt := 4) dX2_lonePictures_27 (by decide) ?_
      exact ih c21
  exact loop 0 (by omega) 
def bf_nx (d : Nat) : Nat := if d < 9 then d + 1 else 0
theorem c_X2_nextDigit {d : Nat} (hd : 1 ≤ d) (D : bf_D) {x : Nat} (hx : x < 2 ^ 31) : bf_Cf d mX2_nextDigit [.int (nI x)] D (some (.int (nI (bf_nx x)))) D := by
  refine bf_Cf_of 0 hd mo_X2_nextDigit (Nat.le_of_ble_eq_true rfl) (fun e he J r => ?_)
  show J 0 [some (.int (nI x))] [] (bf_MD D)
  refine bf_iload_n r.1 dX2_nextDigit_0 rfl ?_
  refine bf_bipush r.1 (v := nI 9) dX2_nextDigit_1 rfl ?_
  refine nc_lt r (tgt := 10) dX2_nextDigit_3 (by decide) (by omega) (by decide) (fun c22 => ?_) (fun c22 => ?_)
  · refine bf_iload_n r.1 dX2_nextDigit_10 rfl ?_
    refine bf_iconst r.1 (v := nI 1) dX2_nextDigit_11 rfl ?_
    refine na_add r dX2_nextDigit_12  ?_
    exact rt_i r dX2_nextDigit_13 rfl rfl (by unfold bf_nx; rw [if_pos (by omega)]) rfl
  · refine bf_iconst r.1 (v := nI 0) dX2_nextDigit_6 rfl ?_
    refine bf_goto r.1 (tgt := 13) dX2_nextDigit_7 (by decide) ?_
    exact rt_i r dX2_nextDigit_13 rfl rfl (by unfold bf_nx; rw [if_neg (by omega)]) rfl
def pNx (P : bf_Pn) (u : Nat) : Nat := if u < pX P - 1 then u + 1 else 0
theorem bf_nx_lt {d : Nat} (h : d < 10) : bf_nx d < 10 := by unfold bf_nx; split <;> omega
theorem c_X2_numberAfter {d : Nat} (hd : 1 ≤ d) {D : bf_D} {P : bf_Pn} (hv : vP P) (hx : D 2 4 = nI (pX P - 1)) {u : Nat} (hu : u < 2 ^ 31) : bf_Cf d mX2_numberAfter [.ref 2, .int (nI u)] D (some (.int (nI (pNx P u)))) D := by
  refine bf_Cf_of 0 hd mo_X2_numberAfter (Nat.le_of_ble_eq_true rfl) (fun e he J r => ?_)
  show J 0 [some (.ref 2), some (.int (nI u))] [] (bf_MD D)
  have hx4 := pX_le hv
  refine bf_iload_n r.1 dX2_numberAfter_0 rfl ?_
  refine bf_aload_n r.1 dX2_numberAfter_1 rfl ?_
  refine ig_int r (v := nI (pX P - 1)) dX2_numberAfter_2 fl_X2_42 rfl (by decide) rfl hx ?_
  refine nc_lt r (tgt := 12) dX2_numberAfter_5 (by decide) (by omega) (by omega) (fun c23 => ?_) (fun c23 => ?_)
  · refine bf_iload_n r.1 dX2_numberAfter_12 rfl ?_
    refine bf_iconst r.1 (v := nI 1) dX2_numberAfter_13 rfl ?_
    refine na_add r dX2_numberAfter_14  ?_
    exact rt_i r dX2_numberAfter_15 rfl rfl (by unfold pNx; rw [if_pos (by omega)]) rfl
  · refine bf_iconst r.1 (v := nI 0) dX2_numberAfter_8 rfl ?_
    refine bf_goto r.1 (tgt := 15) dX2_numberAfter_9 (by decide) ?_
    exact rt_i r dX2_numberAfter_15 rfl rfl (by unfold pNx; rw [if_neg (by omega)]) rfl
/-- the flips of a step, from the last place on -/
def pFs (P : bf_Pn) : Nat → Nat → Nat
  | 0, _ => 0
  | i + 1, u => bf_pc (pB P i (u % 10) ^^^ pB P i (bf_nx (u % 10))) + (if u % 10 = 9 then pFs P i (u / 10) else 0)
theorem bf_m0 : nI 0 + Int32.ofInt (-1) = -1 := by decide
theorem bf_ms1 (i : Nat) : nI (i + 1) + Int32.ofInt (-1) = nI i := pk_m1 i
theorem c_X2_flipsOfStep {d : Nat} (hd : 3 ≤ d) {D : bf_D} {P : bf_Pn} (hv : vP P) (hc : cP D P) (h1 : 1 ≤ pN P) {u : Nat} (hu : u < 2 ^ 31) : bf_Cf d mX2_flipsOfStep [.ref 2, .int (nI u)] D (some (.int (nI (pFs P (pN P) u)))) D := by
  refine bf_Cf_of 2 hd mo_X2_flipsOfStep (Nat.le_of_ble_eq_true rfl) (fun e he J r => ?_)
  show J 0 [some (.ref 2), some (.int (nI u)), none, none, none, none] [] (bf_MD D)
  have hn4 := hv.1
  have hx4 := pX_le hv
  have hx0 := pX_pos P
  refine bf_iconst r.1 (v := nI 0) dX2_flipsOfStep_0 rfl ?_
  refine bf_istore_n r.1 (L2 := [some (.ref 2), some (.int (nI u)), some (.int (nI 0)), none, none, none]) dX2_flipsOfStep_1 rfl ?_
  refine bf_iload_n r.1 dX2_flipsOfStep_2 rfl ?_
  refine bf_istore_n r.1 (L2 := [some (.ref 2), some (.int (nI u)), some (.int (nI 0)), some (.int (nI u)), none, none]) dX2_flipsOfStep_3 rfl ?_
  refine bf_aload_n r.1 dX2_flipsOfStep_4 rfl ?_
  refine ig_int r (v := nI (pN P)) dX2_flipsOfStep_5 fl_X2_32 rfl (by decide) rfl (cP_n (P := P) hc) ?_
  refine bf_iconst r.1 (v := nI 1) dX2_flipsOfStep_8 rfl ?_
  refine na_sub r dX2_flipsOfStep_9 (by omega) ?_
  refine bf_istore r.1 (L2 := [some (.ref 2), some (.int (nI u)), some (.int (nI 0)), some (.int (nI u)), some (.int (nI (pN P - 1))), none]) dX2_flipsOfStep_10 rfl ?_
  rw [show nI (pN P - 1) = nI (pN P) + Int32.ofInt (-1) from (bf_dec (by omega)).symm]
  have loop : ∀ (i mm rr : Nat), i ≤ pN P → rr < 2 ^ 31 → nI (mm + pFs P i rr) = nI (pFs P (pN P) u) → J 12 [some (.ref 2), some (.int (nI u)), some (.int (nI mm)), some (.int (nI rr)), some (.int (nI i + Int32.ofInt (-1))), none] [] (bf_MD D) := by
    intro i
    induction i with
    | zero =>
      intro mm rr hi hr he
      rw [bf_m0]
      refine bf_iload r.1 dX2_flipsOfStep_12 rfl ?_
      refine bf_if_lt r.1 (tgt := 78) dX2_flipsOfStep_14 (by decide) (fun c24 => ?_) (fun c24 => ?_)
      · refine bf_iload_n r.1 dX2_flipsOfStep_78 rfl ?_
        exact rt_i r dX2_flipsOfStep_79 rfl rfl he rfl
      · exact absurd (by decide) c24
    | succ i ih =>
      intro mm rr hi hr he
      rw [bf_ms1]
      have h10 : rr % 10 < 10 := Nat.mod_lt _ (by decide)
      refine bf_iload r.1 dX2_flipsOfStep_12 rfl ?_
      refine nz_lt r (tgt := 78) dX2_flipsOfStep_14 (by decide) (by omega) (fun c25 => ?_) (fun c25 => ?_)
      · exact absurd c25 (Nat.not_lt_zero _)
      · refine bf_iload_n r.1 dX2_flipsOfStep_17 rfl ?_
        refine bf_bipush r.1 (v := nI 10) dX2_flipsOfStep_18 rfl ?_
        refine na_rem r dX2_flipsOfStep_20 hr (by decide) (by decide) ?_
        refine bf_istore r.1 (L2 := [some (.ref 2), some (.int (nI u)), some (.int (nI mm)), some (.int (nI rr)), some (.int (nI i)), some (.int (nI (rr % 10)))]) dX2_flipsOfStep_21 rfl ?_
        refine bf_iload_n r.1 dX2_flipsOfStep_23 rfl ?_
        refine bf_aload_n r.1 dX2_flipsOfStep_24 rfl ?_
        refine ig_ref r (b := 3) dX2_flipsOfStep_25 fl_X2_11 rfl (by decide) rfl ?_
        refine bf_iload r.1 dX2_flipsOfStep_28 rfl ?_
        refine aa_ld r (n := 4) (b := 6 + 3 * i) dX2_flipsOfStep_30 (by decide) rfl (by decide) (Nat.lt_of_lt_of_le hi hn4) (ad_a3 (Nat.lt_of_lt_of_le hi hn4)) ?_
        refine bf_iload r.1 dX2_flipsOfStep_31 rfl ?_
        refine cl_v r (y2 := mX3_lit) dX2_flipsOfStep_33 li_X2_57 mv_X3_lit (ad_c6 (Nat.lt_of_lt_of_le hi hn4)) (ad_l6 (Nat.lt_of_lt_of_le hi hn4)) [.int (nI (rr % 10))] [.int (nI mm)] rfl (Nat.le_of_ble_eq_true rfl) rfl (c_X3_lit (by omega) hv hc hi h10) ?_
        show J 36 [some (.ref 2), some (.int (nI u)), some (.int (nI mm)), some (.int (nI rr)), some (.int (nI i)), some (.int (nI (rr % 10)))] [.int (nI (pB P i (rr % 10))), .int (nI mm)] (bf_MD D)
        refine bf_aload_n r.1 dX2_flipsOfStep_36 rfl ?_
        refine ig_ref r (b := 3) dX2_flipsOfStep_37 fl_X2_11 rfl (by decide) rfl ?_
        refine bf_iload r.1 dX2_flipsOfStep_40 rfl ?_
        refine aa_ld r (n := 4) (b := 6 + 3 * i) dX2_flipsOfStep_42 (by decide) rfl (by decide) (Nat.lt_of_lt_of_le hi hn4) (ad_a3 (Nat.lt_of_lt_of_le hi hn4)) ?_
        refine bf_iload r.1 dX2_flipsOfStep_43 rfl ?_
        refine cl_s r (y2 := mX2_nextDigit) dX2_flipsOfStep_45 li_X2_60 mv_X2_nextDigit [.int (nI (rr % 10))] [.ref (6 + 3 * i), .int (nI (pB P i (rr % 10))), .int (nI mm)] rfl (Nat.le_of_ble_eq_true rfl) rfl (c_X2_nextDigit (by omega) D (by omega)) ?_
        show J 48 [some (.ref 2), some (.int (nI u)), some (.int (nI mm)), some (.int (nI rr)), some (.int (nI i)), some (.int (nI (rr % 10)))] [.int (nI (bf_nx (rr % 10))), .ref (6 + 3 * i), .int (nI (pB P i (rr % 10))), .int (nI mm)] (bf_MD D)
        refine cl_v r (y2 := mX3_lit) dX2_flipsOfStep_48 li_X2_57 mv_X3_lit (ad_c6 (Nat.lt_of_lt_of_le hi hn4)) (ad_l6 (Nat.lt_of_lt_of_le hi hn4)) [.int (nI (bf_nx (rr % 10)))] [.int (nI (pB P i (rr % 10))), .int (nI mm)] rfl (Nat.le_of_ble_eq_true rfl) rfl (c_X3_lit (by omega) hv hc hi (bf_nx_lt h10)) ?_
        show J 51 [some (.ref 2), some (.int (nI u)), some (.int (nI mm)), some (.int (nI rr)), some (.int (nI i)), some (.int (nI (rr % 10)))] [.int (nI (pB P i (bf_nx (rr % 10)))), .int (nI (pB P i (rr % 10))), .int (nI mm)] (bf_MD D)
        refine na_xor r dX2_flipsOfStep_51  ?_
        refine cl_s r (y2 := mJ6_bitCount_0f7a4) dX2_flipsOfStep_52 li_X2_48 mv_J6_bitCount_0f7a4 [.int (nI ((pB P i (rr % 10)) ^^^ (pB P i (bf_nx (rr % 10)))))] [.int (nI mm)] rfl (Nat.le_of_ble_eq_true rfl) rfl (c_J6_bitCount (by omega) D (bf_1024 (bf_xor_lt (pB_lt hv hi _) (pB_lt hv hi _)))) ?_
        show J 55 [some (.ref 2), some (.int (nI u)), some (.int (nI mm)), some (.int (nI rr)), some (.int (nI i)), some (.int (nI (rr % 10)))] [.int (nI (bf_pc ((pB P i (rr % 10)) ^^^ (pB P i (bf_nx (rr % 10)))))), .int (nI mm)] (bf_MD D)
        refine na_add r dX2_flipsOfStep_55  ?_
        refine bf_istore_n r.1 (L2 := [some (.ref 2), some (.int (nI u)), some (.int (nI (mm + (bf_pc ((pB P i (rr % 10)) ^^^ (pB P i (bf_nx (rr % 10)))))))), some (.int (nI rr)), some (.int (nI i)), some (.int (nI (rr % 10)))]) dX2_flipsOfStep_56 rfl ?_
        refine bf_iload r.1 dX2_flipsOfStep_57 rfl ?_
        refine bf_bipush r.1 (v := nI 9) dX2_flipsOfStep_59 rfl ?_
        refine nc_eq r (tgt := 67) dX2_flipsOfStep_61 (by decide) (by omega) (by decide) (fun c26 => ?_) (fun c26 => ?_)
        · refine bf_iload_n r.1 dX2_flipsOfStep_67 rfl ?_
          refine bf_bipush r.1 (v := nI 10) dX2_flipsOfStep_68 rfl ?_
          refine na_div r dX2_flipsOfStep_70 hr (by decide) (by decide) ?_
          refine bf_istore_n r.1 (L2 := [some (.ref 2), some (.int (nI u)), some (.int (nI (mm + (bf_pc ((pB P i (rr % 10)) ^^^ (pB P i (bf_nx (rr % 10)))))))), some (.int (nI (rr / 10))), some (.int (nI i)), some (.int (nI (rr % 10)))]) dX2_flipsOfStep_71 rfl ?_
          refine bf_iinc r.1 (v := nI i + Int32.ofInt (-1)) (L2 := [some (.ref 2), some (.int (nI u)), some (.int (nI (mm + (bf_pc ((pB P i (rr % 10)) ^^^ (pB P i (bf_nx (rr % 10)))))))), some (.int (nI (rr / 10))), some (.int (nI i + Int32.ofInt (-1))), some (.int (nI (rr % 10)))]) dX2_flipsOfStep_72 rfl rfl rfl ?_
          refine bf_goto r.1 (tgt := 12) dX2_flipsOfStep_75 (by decide) ?_
          refine bf_fgt r.1 (i := 5) (L2 := [some (.ref 2), some (.int (nI u)), some (.int (nI (mm + (bf_pc ((pB P i (rr % 10)) ^^^ (pB P i (bf_nx (rr % 10)))))))), some (.int (nI (rr / 10))), some (.int (nI i + Int32.ofInt (-1))), none]) rfl ?_
          exact ih _ _ (by omega) (by omega) (by rw [← he]; simp only [pFs, if_pos c26]; rw [Nat.add_assoc])
        · refine bf_goto r.1 (tgt := 78) dX2_flipsOfStep_64 (by decide) ?_
          refine bf_iload_n r.1 dX2_flipsOfStep_78 rfl ?_
          exact rt_i r dX2_flipsOfStep_79 rfl rfl (by rw [← he]; simp only [pFs, if_neg c26]; rfl) rfl
  exact loop (pN P) 0 u (Nat.le_refl _) hu (by rw [Nat.zero_add])
