theorem c_X8_isWithin {d : Nat} (hd : 1 ≤ d) (D : bf_D) (v z : Int32) : bf_Cf d mX8_isWithin [.int (v), .int (z)] D (some (.int (if 0 ≤ v ∧ v < z then 1 else 0))) D := by
  refine bf_Cf_of 0 hd mo_X8_isWithin (Nat.le_of_ble_eq_true rfl) (fun e he J r => ?_)
  show J 0 [some (.int (v)), some (.int (z))] [] (bf_MD D)
  refine bf_iconst r.1 (v := nI 0) dX8_isWithin_0 rfl ?_
  refine bf_iload_n r.1 dX8_isWithin_1 rfl ?_
  refine bf_icmp_gt r.1 (tgt := 14) dX8_isWithin_2 (by decide) (fun c1 => ?_) (fun c1 => ?_)
  · refine bf_iconst r.1 (v := nI 0) dX8_isWithin_14 rfl ?_
    exact rt_i r dX8_isWithin_15 rfl (by decide) (if_neg (fun h => Int32.not_lt.mpr h.1 c1)).symm rfl
  · refine bf_iload_n r.1 dX8_isWithin_5 rfl ?_
    refine bf_iload_n r.1 dX8_isWithin_6 rfl ?_
    refine bf_icmp_ge r.1 (tgt := 14) dX8_isWithin_7 (by decide) (fun c2 => ?_) (fun c2 => ?_)
    · refine bf_iconst r.1 (v := nI 0) dX8_isWithin_14 rfl ?_
      exact rt_i r dX8_isWithin_15 rfl (by decide) (if_neg (fun h => Int32.not_lt.mpr c2 h.2)).symm rfl
    · refine bf_iconst r.1 (v := nI 1) dX8_isWithin_10 rfl ?_
      refine bf_goto r.1 (tgt := 15) dX8_isWithin_11 (by decide) ?_
      exact rt_i r dX8_isWithin_15 rfl (by decide) (if_pos ⟨Int32.not_lt.mp c1, Int32.not_le.mp c2⟩).symm rfl
theorem c_X8_isWithinN {d : Nat} (hd : 1 ≤ d) (D : bf_D) {v z : Nat} (hv : v < 2 ^ 31) (hz : z < 2 ^ 31) : bf_Cf d mX8_isWithin [.int (nI v), .int (nI z)] D (some (.int (if v < z then 1 else 0))) D := by
  rw [← bf_ifc (bf_wi_iff hv hz)]
  exact c_X8_isWithin hd D _ _
def bf_bcI (x0 : Int32) : Int32 :=
  let x1 := x0 - ((x0.toUInt32 >>> ((nI 1).toUInt32 &&& Int32.toUInt32 31)).toInt32 &&& 1431655765)
  let x2 := (x1 &&& 858993459) + ((x1.toUInt32 >>> ((nI 2).toUInt32 &&& Int32.toUInt32 31)).toInt32 &&& 858993459)
  let x3 := (x2 + (x2.toUInt32 >>> ((nI 4).toUInt32 &&& Int32.toUInt32 31)).toInt32) &&& 252645135
  let x4 := x3 + (x3.toUInt32 >>> ((nI 8).toUInt32 &&& Int32.toUInt32 31)).toInt32
  let x5 := x4 + (x4.toUInt32 >>> ((nI 16).toUInt32 &&& Int32.toUInt32 31)).toInt32
  x5 &&& nI 63
theorem bf_bcI_eq {x : Nat} (h : x < 1024) : bf_bcI (nI x) = nI (bf_pc x) := by
  have key : ∀ x : Fin 1024, bf_bcI (nI x.val) = nI (bf_pc x.val) := by decide +kernel
  exact key ⟨x, h⟩
theorem c_J6_bitCount {d : Nat} (hd : 1 ≤ d) (D : bf_D) {x : Nat} (hx : x < 1024) : bf_Cf d mJ6_bitCount_0f7a4 [.int (nI x)] D (some (.int (nI (bf_pc x)))) D := by
  refine bf_Cf_of 0 hd mo_J6_bitCount_0f7a4 (Nat.le_of_ble_eq_true rfl) (fun e he J r => ?_)
  show J 0 [some (.int (nI x))] [] (bf_MD D)
  refine bf_iload_n r.1 dJ6_bitCount_0f7a4_0 rfl ?_
  refine bf_iload_n r.1 dJ6_bitCount_0f7a4_1 rfl ?_
  refine bf_iconst r.1 (v := nI 1) dJ6_bitCount_0f7a4_2 rfl ?_
  refine bf_iushr r.1 dJ6_bitCount_0f7a4_3 rfl ?_
  refine bf_ldcw r.1 dJ6_bitCount_0f7a4_4 lc_J6_265 ?_
  refine bf_iand r.1 dJ6_bitCount_0f7a4_7 ?_
  refine bf_isub r.1 dJ6_bitCount_0f7a4_8 ?_
  refine bf_name r.1 (fun y1 ey1 => ?_)
  refine bf_istore_n r.1 (L2 := [some (.int (y1))]) dJ6_bitCount_0f7a4_9 rfl ?_
  refine bf_iload_n r.1 dJ6_bitCount_0f7a4_10 rfl ?_
  refine bf_ldcw r.1 dJ6_bitCount_0f7a4_11 lc_J6_266 ?_
  refine bf_iand r.1 dJ6_bitCount_0f7a4_14 ?_
  refine bf_iload_n r.1 dJ6_bitCount_0f7a4_15 rfl ?_
  refine bf_iconst r.1 (v := nI 2) dJ6_bitCount_0f7a4_16 rfl ?_
  refine bf_iushr r.1 dJ6_bitCount_0f7a4_17 rfl ?_
  refine bf_ldcw r.1 dJ6_bitCount_0f7a4_18 lc_J6_266 ?_
  refine bf_iand r.1 dJ6_bitCount_0f7a4_21 ?_
  refine bf_iadd r.1 dJ6_bitCount_0f7a4_22 ?_
  refine bf_name r.1 (fun y2 ey2 => ?_)
  refine bf_istore_n r.1 (L2 := [some (.int (y2))]) dJ6_bitCount_0f7a4_23 rfl ?_
  refine bf_iload_n r.1 dJ6_bitCount_0f7a4_24 rfl ?_
  refine bf_iload_n r.1 dJ6_bitCount_0f7a4_25 rfl ?_
  refine bf_iconst r.1 (v := nI 4) dJ6_bitCount_0f7a4_26 rfl ?_
  refine bf_iushr r.1 dJ6_bitCount_0f7a4_27 rfl ?_
  refine bf_iadd r.1 dJ6_bitCount_0f7a4_28 ?_
  refine bf_ldcw r.1 dJ6_bitCount_0f7a4_29 lc_J6_267 ?_
  refine bf_iand r.1 dJ6_bitCount_0f7a4_32 ?_
  refine bf_name r.1 (fun y3 ey3 => ?_)
  refine bf_istore_n r.1 (L2 := [some (.int (y3))]) dJ6_bitCount_0f7a4_33 rfl ?_
  refine bf_iload_n r.1 dJ6_bitCount_0f7a4_34 rfl ?_
  refine bf_iload_n r.1 dJ6_bitCount_0f7a4_35 rfl ?_
  refine bf_bipush r.1 (v := nI 8) dJ6_bitCount_0f7a4_36 rfl ?_
  refine bf_iushr r.1 dJ6_bitCount_0f7a4_38 rfl ?_
  refine bf_iadd r.1 dJ6_bitCount_0f7a4_39 ?_
  refine bf_name r.1 (fun y4 ey4 => ?_)
  refine bf_istore_n r.1 (L2 := [some (.int (y4))]) dJ6_bitCount_0f7a4_40 rfl ?_
  refine bf_iload_n r.1 dJ6_bitCount_0f7a4_41 rfl ?_
  refine bf_iload_n r.1 dJ6_bitCount_0f7a4_42 rfl ?_
  refine bf_bipush r.1 (v := nI 16) dJ6_bitCount_0f7a4_43 rfl ?_
  refine bf_iushr r.1 dJ6_bitCount_0f7a4_45 rfl ?_
  refine bf_iadd r.1 dJ6_bitCount_0f7a4_46 ?_
  refine bf_name r.1 (fun y5 ey5 => ?_)
  refine bf_istore_n r.1 (L2 := [some (.int (y5))]) dJ6_bitCount_0f7a4_47 rfl ?_
  refine bf_iload_n r.1 dJ6_bitCount_0f7a4_48 rfl ?_
  refine bf_bipush r.1 (v := nI 63) dJ6_bitCount_0f7a4_49 rfl ?_
  refine bf_iand r.1 dJ6_bitCount_0f7a4_51 ?_
  exact rt_i r dJ6_bitCount_0f7a4_52 rfl rfl (by rw [← bf_bcI_eq hx, ey5, ey4, ey3, ey2, ey1]; rfl) rfl
