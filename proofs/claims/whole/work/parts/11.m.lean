theorem c_X8_isWithin {d : Nat} (hd : 1 ≤ d) (D : bf_D) (v z : Int32) : bf_Cf d mX8_isWithin [.int (v), .int (z)] D (some (.int (if 0 ≤ v ∧ v < z then 1 else 0))) D := by
  refine bf_Cf_of 0 hd mo_X8_isWithin (Nat.le_of_ble_eq_true rfl) (fun e he J r => ?_)
  show J 0 [some (.int (v)), some (.int (z))] [] (bf_MD D)
  refine bf_iconst r.1 (v := nI 0) dX8_isWithin_0 rfl ?_
  refine bf_iload_n r.1 dX8_isWithin_1 rfl ?_
  refine bf_icmp_gt r.1 (tgt := 14) dX8_isWithin_2 (by decide) (fun c1 => ?_) (fun c1 => ?_)
  · refine bf_iconst r.1 (v := nI 0) dX8_isWithin_14 rfl ?_
    exact rt_i r dX8_isWithin_15 rfl (by decide) (by simp_all [nI]; try omega) rfl
  · refine bf_iload_n r.1 dX8_isWithin_5 rfl ?_
    refine bf_iload_n r.1 dX8_isWithin_6 rfl ?_
    refine bf_icmp_ge r.1 (tgt := 14) dX8_isWithin_7 (by decide) (fun c2 => ?_) (fun c2 => ?_)
    · refine bf_iconst r.1 (v := nI 0) dX8_isWithin_14 rfl ?_
      exact rt_i r dX8_isWithin_15 rfl (by decide) (by simp_all [nI]; try omega) rfl
    · refine bf_iconst r.1 (v := nI 1) dX8_isWithin_10 rfl ?_
      refine bf_goto r.1 (tgt := 15) dX8_isWithin_11 (by decide) ?_
      exact rt_i r dX8_isWithin_15 rfl (by decide) (by simp_all [nI]; try omega) rfl
