def bf_nb (f : Nat → Int32) : Nat → Int32
  | 0 => nI 0
  | n + 1 => nI 10 * bf_nb f n + f n - nI 48
theorem bf_nb_c {f g : Nat → Int32} (h : ∀ j, f j = g j) (n : Nat) : bf_nb f n = bf_nb g n := by rw [funext h]
def bf_ko (c : Int32) : Int32 := if c = nI 102 then nI 0 else if c = nI 109 then nI 1 else if c = nI 116 then nI 2 else -1
def bf_ah (t : Nat) : Nat := if (t - 3) % 8 < 5 then (t - 3) % 8 - 2 else (t - 3) % 8 - 5
/-- does a text go on with its code at t, as all ahead of it fit -/
def bf_go (c : Nat → Int32) (t : Nat) : Bool :=
  if 35 ≤ t then false
  else if t = 0 then decide (c t = nI 112)
  else if t < 3 then decide (nI 48 ≤ c t ∧ c t ≤ nI 57) && (decide (t = 1) || decide (¬ bf_nb (fun j => c (1 + j)) 2 ≤ 0))
  else if (t - 3) % 8 = 0 then decide (c t = nI 59)
  else if (t - 3) % 8 = 1 then decide (¬ bf_ko (c t) = -1)
  else decide (nI 48 ≤ c t ∧ c t ≤ nI 57) && decide (bf_nb (fun j => c (t - bf_ah t + j)) (bf_ah t + 1) ≤ bf_gre (bf_ah t))
theorem c_X7_isDigit {d : Nat} (hd : 1 ≤ d) (D : bf_D) (c : Int32) : bf_Cf d mX7_isDigit [.int (c)] D (some (.int (if nI 48 ≤ c ∧ c ≤ nI 57 then 1 else 0))) D := by
  refine bf_Cf_of 0 hd mo_X7_isDigit (Nat.le_of_ble_eq_true rfl) (fun e he J r => ?_)
  show J 0 [some (.int (c))] [] (bf_MD D)
  refine bf_bipush r.1 (v := nI 48) dX7_isDigit_0 rfl ?_
  refine bf_iload_n r.1 dX7_isDigit_2 rfl ?_
  refine bf_icmp_gt r.1 (tgt := 16) dX7_isDigit_3 (by decide) (fun c87 => ?_) (fun c87 => ?_)
  · refine bf_iconst r.1 (v := nI 0) dX7_isDigit_16 rfl ?_
    exact rt_i r dX7_isDigit_17 rfl (by decide) (if_neg (fun h => Int32.not_lt.mpr h.1 c87)).symm rfl
  · refine bf_iload_n r.1 dX7_isDigit_6 rfl ?_
    refine bf_bipush r.1 (v := nI 57) dX7_isDigit_7 rfl ?_
    refine bf_icmp_gt r.1 (tgt := 16) dX7_isDigit_9 (by decide) (fun c88 => ?_) (fun c88 => ?_)
    · refine bf_iconst r.1 (v := nI 0) dX7_isDigit_16 rfl ?_
      exact rt_i r dX7_isDigit_17 rfl (by decide) (if_neg (fun h => Int32.not_lt.mpr h.2 c88)).symm rfl
    · refine bf_iconst r.1 (v := nI 1) dX7_isDigit_12 rfl ?_
      refine bf_goto r.1 (tgt := 17) dX7_isDigit_13 (by decide) ?_
      exact rt_i r dX7_isDigit_17 rfl (by decide) (if_pos ⟨Int32.not_lt.mp c87, Int32.not_lt.mp c88⟩).symm rfl
theorem c_X7_kindOf {d : Nat} (hd : 1 ≤ d) (D : bf_D) (c : Int32) : bf_Cf d mX7_kindOf [.int (c)] D (some (.int (bf_ko c))) D := by
  refine bf_Cf_of 0 hd mo_X7_kindOf (Nat.le_of_ble_eq_true rfl) (fun e he J r => ?_)
  show J 0 [some (.int (c))] [] (bf_MD D)
  refine bf_iload_n r.1 dX7_kindOf_0 rfl ?_
  by_cases c89 : c = nI 102
  · refine bf_lookup r.1 (off := 35) (tgt := 36) dX7_kindOf_1 (by decide) (by rw [c89]; decide) (by decide) ?_
    refine bf_iconst r.1 (v := nI 0) dX7_kindOf_36 rfl ?_
    exact rt_i r dX7_kindOf_37 rfl rfl (by unfold bf_ko; rw [if_pos c89]) rfl
  · by_cases c90 : c = nI 109
    · refine bf_lookup r.1 (off := 37) (tgt := 38) dX7_kindOf_1 (by decide) (by rw [c90]; decide) (by decide) ?_
      refine bf_iconst r.1 (v := nI 1) dX7_kindOf_38 rfl ?_
      exact rt_i r dX7_kindOf_39 rfl rfl (by unfold bf_ko; rw [if_neg c89, if_pos c90]) rfl
    · by_cases c91 : c = nI 116
      · refine bf_lookup r.1 (off := 39) (tgt := 40) dX7_kindOf_1 (by decide) (by rw [c91]; decide) (by decide) ?_
        refine bf_iconst r.1 (v := nI 2) dX7_kindOf_40 rfl ?_
        exact rt_i r dX7_kindOf_41 rfl rfl (by unfold bf_ko; rw [if_neg c89, if_neg c90, if_pos c91]) rfl
      · refine bf_lookup r.1 (off := 41) (tgt := 42) dX7_kindOf_1 (by decide) (by show Op.lookupswitch.offset [(102, 35), (109, 37), (116, 39)] _ _ = _; rw [lv_osw c89 (by decide), lv_osw c90 (by decide), lv_osw c91 (by decide)]; rfl) (by decide) ?_
        refine bf_iconst r.1 (v := -1) dX7_kindOf_42 rfl ?_
        exact rt_i r dX7_kindOf_43 rfl rfl (by unfold bf_ko; rw [if_neg c89, if_neg c90, if_neg c91]) rfl
theorem c_X7_number {d : Nat} (hd : 3 ≤ d) {D : bf_D} {S : bf_Sh} (vs : vS S) (cs : cS D S) {k : Nat} (hk : k < 4) {n i m : Nat} (hz : sZ S k = some n) (hi : i + m ≤ n) : bf_Cf d mX7_number [.ref (29 + 2 * k), .int (nI i), .int (nI m)] D (some (.int (bf_nb (fun j => sC S k (i + j)) m))) D := by
  refine bf_Cf_of 2 hd mo_X7_number (Nat.le_of_ble_eq_true rfl) (fun e he J r => ?_)
  show J 0 [some (.ref (29 + 2 * k)), some (.int (nI i)), some (.int (nI m)), none, none] [] (bf_MD D)
  have h60 := (vs k hk).2 n hz
  refine bf_iconst r.1 (v := nI 0) dX7_number_0 rfl ?_
  refine bf_istore_n r.1 (L2 := [some (.ref (29 + 2 * k)), some (.int (nI i)), some (.int (nI m)), some (.int (nI 0)), none]) dX7_number_1 rfl ?_
  refine bf_iload_n r.1 dX7_number_2 rfl ?_
  refine bf_istore r.1 (L2 := [some (.ref (29 + 2 * k)), some (.int (nI i)), some (.int (nI m)), some (.int (nI 0)), some (.int (nI i))]) dX7_number_3 rfl ?_
  have loop : ∀ j : Nat, j ≤ m → J 5 [some (.ref (29 + 2 * k)), some (.int (nI i)), some (.int (nI m)), some (.int (bf_nb (fun j => sC S k (i + j)) j)), some (.int (nI (i + j)))] [] (bf_MD D) := by
    refine bf_down (fun j hle ih => ?_)
    refine bf_iload r.1 dX7_number_5 rfl ?_
    refine bf_iload_n r.1 dX7_number_7 rfl ?_
    refine bf_iload_n r.1 dX7_number_8 rfl ?_
    refine na_add r dX7_number_9  ?_
    refine nc_ge r (tgt := 34) dX7_number_10 (by decide) (by omega) (by omega) (fun c92 => ?_) (fun c92 => ?_)
    · refine bf_iload_n r.1 dX7_number_34 rfl ?_
      have ej : j = m := by omega
      subst ej
      exact rt_i r dX7_number_35 rfl rfl rfl rfl
    · refine bf_bipush r.1 (v := nI 10) dX7_number_13 rfl ?_
      refine bf_iload_n r.1 dX7_number_15 rfl ?_
      refine bf_imul r.1 dX7_number_16 ?_
      refine bf_aload_n r.1 dX7_number_17 rfl ?_
      refine bf_iload r.1 dX7_number_18 rfl ?_
      refine cl_v r (y2 := mX5_read) dX7_number_20 li_X7_15 mv_X5_read (ad_c29 hk) (ad_l29 hk) [.int (nI (i + j))] [.int ((nI 10) * (bf_nb (fun j => sC S k (i + j)) j))] rfl (Nat.le_of_ble_eq_true rfl) rfl (c_X5_read (by omega) vs cs hk hz (by omega)) ?_
      show J 23 [some (.ref (29 + 2 * k)), some (.int (nI i)), some (.int (nI m)), some (.int (bf_nb (fun j => sC S k (i + j)) j)), some (.int (nI (i + j)))] [.int (sC S k (i + j)), .int ((nI 10) * (bf_nb (fun j => sC S k (i + j)) j))] (bf_MD D)
      refine bf_iadd r.1 dX7_number_23 ?_
      refine bf_bipush r.1 (v := nI 48) dX7_number_24 rfl ?_
      refine bf_isub r.1 dX7_number_26 ?_
      refine bf_istore_n r.1 (L2 := [some (.ref (29 + 2 * k)), some (.int (nI i)), some (.int (nI m)), some (.int ((((nI 10) * (bf_nb (fun j => sC S k (i + j)) j)) + (sC S k (i + j))) - (nI 48))), some (.int (nI (i + j)))]) dX7_number_27 rfl ?_
      refine na_inc r (v := i + j + 1) (L2 := [some (.ref (29 + 2 * k)), some (.int (nI i)), some (.int (nI m)), some (.int ((((nI 10) * (bf_nb (fun j => sC S k (i + j)) j)) + (sC S k (i + j))) - (nI 48))), some (.int (nI (i + j + 1)))]) dX7_number_28 rfl (nI_add _ 1) rfl ?_
      refine bf_goto r.1 (tgt := 5) dX7_number_31 (by decide) ?_
      exact ih (by omega)
  exact loop 0 (by omega) 
theorem c_X7_goesOn {d : Nat} (hd : 4 ≤ d) {D : bf_D} {S : bf_Sh} (vs : vS S) (cs : cS D S) {k : Nat} (hk : k < 4) {n i t : Nat} (hz : sZ S k = some n) (hi : i + t < n) : bf_Cf d mX7_goesOn [.ref (29 + 2 * k), .int (nI i), .int (nI t)] D (some (.int (if bf_go (fun u => sC S k (i + u)) t = true then 1 else 0))) D := by
  refine bf_Cf_of 3 hd mo_X7_goesOn (Nat.le_of_ble_eq_true rfl) (fun e he J r => ?_)
  show J 0 [some (.ref (29 + 2 * k)), some (.int (nI i)), some (.int (nI t)), none, none, none] [] (bf_MD D)
  have h60 := (vs k hk).2 n hz
  have h8 : (t - 3) % 8 < 8 := Nat.mod_lt _ (by decide)
  generalize hcc : (fun u => sC S k (i + u)) = cc at r ⊢
  have hct : ∀ u, sC S k (i + u) = cc u := fun u => by rw [← hcc]
  refine bf_aload_n r.1 dX7_goesOn_0 rfl ?_
  refine bf_iload_n r.1 dX7_goesOn_1 rfl ?_
  refine bf_iload_n r.1 dX7_goesOn_2 rfl ?_
  refine na_add r dX7_goesOn_3  ?_
  refine cl_v r (y2 := mX5_read) dX7_goesOn_4 li_X7_15 mv_X5_read (ad_c29 hk) (ad_l29 hk) [.int (nI (i + t))] [] rfl (Nat.le_of_ble_eq_true rfl) rfl (c_X5_read (by omega) vs cs hk hz (by omega)) ?_
  show J 7 [some (.ref (29 + 2 * k)), some (.int (nI i)), some (.int (nI t)), none, none, none] [.int (sC S k (i + t))] (bf_MD D)
  refine eq_i (v := cc t) (hct t) ?_
  refine bf_istore_n r.1 (L2 := [some (.ref (29 + 2 * k)), some (.int (nI i)), some (.int (nI t)), some (.int (cc t)), none, none]) dX7_goesOn_7 rfl ?_
  refine bf_iload_n r.1 dX7_goesOn_8 rfl ?_
  refine bf_bipush r.1 (v := nI 35) dX7_goesOn_9 rfl ?_
  refine nc_lt r (tgt := 16) dX7_goesOn_11 (by decide) (by omega) (by decide) (fun c93 => ?_) (fun c93 => ?_)
  · refine bf_iload_n r.1 dX7_goesOn_16 rfl ?_
    refine nz_ne r (tgt := 32) dX7_goesOn_17 (by decide) (by omega) (fun c94 => ?_) (fun c94 => ?_)
    · refine bf_iload_n r.1 dX7_goesOn_32 rfl ?_
      refine bf_iconst r.1 (v := nI 3) dX7_goesOn_33 rfl ?_
      refine nc_ge r (tgt := 66) dX7_goesOn_34 (by decide) (by omega) (by decide) (fun c95 => ?_) (fun c95 => ?_)
      · refine bf_iload_n r.1 dX7_goesOn_66 rfl ?_
        refine bf_iconst r.1 (v := nI 3) dX7_goesOn_67 rfl ?_
        refine na_sub r dX7_goesOn_68 (by omega) ?_
        refine bf_bipush r.1 (v := nI 8) dX7_goesOn_69 rfl ?_
        refine na_rem r dX7_goesOn_71 (by omega) (by decide) (by decide) ?_
        refine bf_istore r.1 (L2 := [some (.ref (29 + 2 * k)), some (.int (nI i)), some (.int (nI t)), some (.int (cc t)), some (.int (nI ((t - 3) % 8))), none]) dX7_goesOn_72 rfl ?_
        refine bf_iload r.1 dX7_goesOn_74 rfl ?_
        refine nz_ne r (tgt := 91) dX7_goesOn_76 (by decide) (by omega) (fun c96 => ?_) (fun c96 => ?_)
        · refine bf_iload r.1 dX7_goesOn_91 rfl ?_
          refine bf_iconst r.1 (v := nI 1) dX7_goesOn_93 rfl ?_
          refine nc_ne r (tgt := 111) dX7_goesOn_94 (by decide) (by omega) (by decide) (fun c97 => ?_) (fun c97 => ?_)
          · refine bf_iload r.1 dX7_goesOn_111 rfl ?_
            refine bf_iconst r.1 (v := nI 5) dX7_goesOn_113 rfl ?_
            refine nc_ge r (tgt := 124) dX7_goesOn_114 (by decide) (by omega) (by decide) (fun c98 => ?_) (fun c98 => ?_)
            · refine bf_iload r.1 dX7_goesOn_124 rfl ?_
              refine bf_iconst r.1 (v := nI 5) dX7_goesOn_126 rfl ?_
              refine na_sub r dX7_goesOn_127 (by omega) ?_
              refine bf_istore r.1 (L2 := [some (.ref (29 + 2 * k)), some (.int (nI i)), some (.int (nI t)), some (.int (cc t)), some (.int (nI ((t - 3) % 8))), some (.int (nI (((t - 3) % 8) - 5)))]) dX7_goesOn_128 rfl ?_
              have hah : bf_ah t = ((t - 3) % 8) - 5 := if_neg (by omega)
              rw [← hah]
              have hah3 : bf_ah t < 3 := by omega
              have haht : bf_ah t ≤ t := by omega
              refine bf_iload_n r.1 dX7_goesOn_130 rfl ?_
              refine cl_s r (y2 := mX7_isDigit) dX7_goesOn_131 li_X7_21 mv_X7_isDigit [.int (cc t)] [] rfl (Nat.le_of_ble_eq_true rfl) rfl (c_X7_isDigit (by omega) D (cc t)) ?_
              show J 134 [some (.ref (29 + 2 * k)), some (.int (nI i)), some (.int (nI t)), some (.int (cc t)), some (.int (nI ((t - 3) % 8))), some (.int (nI (bf_ah t)))] [.int (if nI 48 ≤ (cc t) ∧ (cc t) ≤ nI 57 then 1 else 0)] (bf_MD D)
              refine nb_eq r (tgt := 176) dX7_goesOn_134 (by decide) (fun c99 => ?_) (fun c99 => ?_)
              · refine bf_iconst r.1 (v := nI 0) dX7_goesOn_176 rfl ?_
                exact rt_i r dX7_goesOn_177 rfl (by decide) (if_neg (by unfold bf_go; rw [if_neg (show ¬ 35 ≤ t by omega), if_neg (show ¬ t = 0 by omega), if_neg (show ¬ t < 3 by omega), if_neg c96, if_neg c97]; rw [decide_eq_false c99]; simp)).symm rfl
              · refine bf_iload r.1 dX7_goesOn_137 rfl ?_
                refine bf_gsG r.1 dX7_goesOn_139 gs_X7_32 ?_
                refine bf_lenG r.1 dX7_goesOn_142 ?_
                refine eq_i (v := nI 3) rfl ?_
                refine cl_s r (y2 := mX8_isWithin) dX7_goesOn_143 li_X7_36 mv_X8_isWithin [.int (nI (bf_ah t)), .int (nI 3)] [] rfl (Nat.le_of_ble_eq_true rfl) rfl (c_X8_isWithinN (by omega) D (by omega) (by decide)) ?_
                show J 146 [some (.ref (29 + 2 * k)), some (.int (nI i)), some (.int (nI t)), some (.int (cc t)), some (.int (nI ((t - 3) % 8))), some (.int (nI (bf_ah t)))] [.int (if bf_ah t < 3 then 1 else 0)] (bf_MD D)
                refine nb_eq r (tgt := 176) dX7_goesOn_146 (by decide) (fun c100 => ?_) (fun c100 => ?_)
                · exact absurd hah3 c100
                · refine bf_aload_n r.1 dX7_goesOn_149 rfl ?_
                  refine bf_iload_n r.1 dX7_goesOn_150 rfl ?_
                  refine bf_iload_n r.1 dX7_goesOn_151 rfl ?_
                  refine na_add r dX7_goesOn_152  ?_
                  refine bf_iload r.1 dX7_goesOn_153 rfl ?_
                  refine na_sub r dX7_goesOn_155 (by omega) ?_
                  refine bf_iload r.1 dX7_goesOn_156 rfl ?_
                  refine bf_iconst r.1 (v := nI 1) dX7_goesOn_158 rfl ?_
                  refine na_add r dX7_goesOn_159  ?_
                  refine cl_s r (y2 := mX7_number) dX7_goesOn_160 li_X7_25 mv_X7_number [.ref (29 + 2 * k), .int (nI ((i + t) - (bf_ah t))), .int (nI (bf_ah t + 1))] [] rfl (Nat.le_of_ble_eq_true rfl) rfl (c_X7_number (by omega) vs cs hk hz (by omega)) ?_
                  show J 163 [some (.ref (29 + 2 * k)), some (.int (nI i)), some (.int (nI t)), some (.int (cc t)), some (.int (nI ((t - 3) % 8))), some (.int (nI (bf_ah t)))] [.int (bf_nb (fun j9 => sC S k ((i + t) - (bf_ah t) + j9)) (bf_ah t + 1))] (bf_MD D)
                  refine eq_i (v := bf_nb (fun j => cc (t - bf_ah t + j)) (bf_ah t + 1)) (bf_nb_c (fun j => by rw [← hct]; congr 1; omega) _) ?_
                  refine bf_gsG r.1 dX7_goesOn_163 gs_X7_32 ?_
                  refine bf_iload r.1 dX7_goesOn_166 rfl ?_
                  refine bf_ldG r.1 dX7_goesOn_168 (vp_in_nI (by omega) (by decide)) ?_
                  refine eq_i (v := bf_gre (bf_ah t)) (by rw [nI_clamp (by omega)]) ?_
                  refine bf_icmp_gt r.1 (tgt := 176) dX7_goesOn_169 (by decide) (fun c101 => ?_) (fun c101 => ?_)
                  · refine bf_iconst r.1 (v := nI 0) dX7_goesOn_176 rfl ?_
                    exact rt_i r dX7_goesOn_177 rfl (by decide) (if_neg (by unfold bf_go; rw [if_neg (show ¬ 35 ≤ t by omega), if_neg (show ¬ t = 0 by omega), if_neg (show ¬ t < 3 by omega), if_neg c96, if_neg c97]; rw [decide_eq_true c99, decide_eq_false (Int32.not_le.mpr c101)]; decide)).symm rfl
                  · refine bf_iconst r.1 (v := nI 1) dX7_goesOn_172 rfl ?_
                    refine bf_goto r.1 (tgt := 177) dX7_goesOn_173 (by decide) ?_
                    exact rt_i r dX7_goesOn_177 rfl (by decide) (if_pos (by unfold bf_go; rw [if_neg (show ¬ 35 ≤ t by omega), if_neg (show ¬ t = 0 by omega), if_neg (show ¬ t < 3 by omega), if_neg c96, if_neg c97]; rw [decide_eq_true c99, decide_eq_true (Int32.not_lt.mp c101)]; rfl)).symm rfl
            · refine bf_iload r.1 dX7_goesOn_117 rfl ?_
              refine bf_iconst r.1 (v := nI 2) dX7_goesOn_119 rfl ?_
              refine na_sub r dX7_goesOn_120 (by omega) ?_
              refine bf_goto r.1 (tgt := 128) dX7_goesOn_121 (by decide) ?_
              refine bf_istore r.1 (L2 := [some (.ref (29 + 2 * k)), some (.int (nI i)), some (.int (nI t)), some (.int (cc t)), some (.int (nI ((t - 3) % 8))), some (.int (nI (((t - 3) % 8) - 2)))]) dX7_goesOn_128 rfl ?_
              have hah : bf_ah t = ((t - 3) % 8) - 2 := if_pos (by omega)
              rw [← hah]
              have hah3 : bf_ah t < 3 := by omega
              have haht : bf_ah t ≤ t := by omega
              refine bf_iload_n r.1 dX7_goesOn_130 rfl ?_
              refine cl_s r (y2 := mX7_isDigit) dX7_goesOn_131 li_X7_21 mv_X7_isDigit [.int (cc t)] [] rfl (Nat.le_of_ble_eq_true rfl) rfl (c_X7_isDigit (by omega) D (cc t)) ?_
              show J 134 [some (.ref (29 + 2 * k)), some (.int (nI i)), some (.int (nI t)), some (.int (cc t)), some (.int (nI ((t - 3) % 8))), some (.int (nI (bf_ah t)))] [.int (if nI 48 ≤ (cc t) ∧ (cc t) ≤ nI 57 then 1 else 0)] (bf_MD D)
              refine nb_eq r (tgt := 176) dX7_goesOn_134 (by decide) (fun c102 => ?_) (fun c102 => ?_)
              · refine bf_iconst r.1 (v := nI 0) dX7_goesOn_176 rfl ?_
                exact rt_i r dX7_goesOn_177 rfl (by decide) (if_neg (by unfold bf_go; rw [if_neg (show ¬ 35 ≤ t by omega), if_neg (show ¬ t = 0 by omega), if_neg (show ¬ t < 3 by omega), if_neg c96, if_neg c97]; rw [decide_eq_false c102]; simp)).symm rfl
              · refine bf_iload r.1 dX7_goesOn_137 rfl ?_
                refine bf_gsG r.1 dX7_goesOn_139 gs_X7_32 ?_
                refine bf_lenG r.1 dX7_goesOn_142 ?_
                refine eq_i (v := nI 3) rfl ?_
                refine cl_s r (y2 := mX8_isWithin) dX7_goesOn_143 li_X7_36 mv_X8_isWithin [.int (nI (bf_ah t)), .int (nI 3)] [] rfl (Nat.le_of_ble_eq_true rfl) rfl (c_X8_isWithinN (by omega) D (by omega) (by decide)) ?_
                show J 146 [some (.ref (29 + 2 * k)), some (.int (nI i)), some (.int (nI t)), some (.int (cc t)), some (.int (nI ((t - 3) % 8))), some (.int (nI (bf_ah t)))] [.int (if bf_ah t < 3 then 1 else 0)] (bf_MD D)
                refine nb_eq r (tgt := 176) dX7_goesOn_146 (by decide) (fun c103 => ?_) (fun c103 => ?_)
                · exact absurd hah3 c103
                · refine bf_aload_n r.1 dX7_goesOn_149 rfl ?_
                  refine bf_iload_n r.1 dX7_goesOn_150 rfl ?_
                  refine bf_iload_n r.1 dX7_goesOn_151 rfl ?_
                  refine na_add r dX7_goesOn_152  ?_
                  refine bf_iload r.1 dX7_goesOn_153 rfl ?_
                  refine na_sub r dX7_goesOn_155 (by omega) ?_
                  refine bf_iload r.1 dX7_goesOn_156 rfl ?_
                  refine bf_iconst r.1 (v := nI 1) dX7_goesOn_158 rfl ?_
                  refine na_add r dX7_goesOn_159  ?_
                  refine cl_s r (y2 := mX7_number) dX7_goesOn_160 li_X7_25 mv_X7_number [.ref (29 + 2 * k), .int (nI ((i + t) - (bf_ah t))), .int (nI (bf_ah t + 1))] [] rfl (Nat.le_of_ble_eq_true rfl) rfl (c_X7_number (by omega) vs cs hk hz (by omega)) ?_
                  show J 163 [some (.ref (29 + 2 * k)), some (.int (nI i)), some (.int (nI t)), some (.int (cc t)), some (.int (nI ((t - 3) % 8))), some (.int (nI (bf_ah t)))] [.int (bf_nb (fun j9 => sC S k ((i + t) - (bf_ah t) + j9)) (bf_ah t + 1))] (bf_MD D)
                  refine eq_i (v := bf_nb (fun j => cc (t - bf_ah t + j)) (bf_ah t + 1)) (bf_nb_c (fun j => by rw [← hct]; congr 1; omega) _) ?_
                  refine bf_gsG r.1 dX7_goesOn_163 gs_X7_32 ?_
                  refine bf_iload r.1 dX7_goesOn_166 rfl ?_
                  refine bf_ldG r.1 dX7_goesOn_168 (vp_in_nI (by omega) (by decide)) ?_
                  refine eq_i (v := bf_gre (bf_ah t)) (by rw [nI_clamp (by omega)]) ?_
                  refine bf_icmp_gt r.1 (tgt := 176) dX7_goesOn_169 (by decide) (fun c104 => ?_) (fun c104 => ?_)
                  · refine bf_iconst r.1 (v := nI 0) dX7_goesOn_176 rfl ?_
                    exact rt_i r dX7_goesOn_177 rfl (by decide) (if_neg (by unfold bf_go; rw [if_neg (show ¬ 35 ≤ t by omega), if_neg (show ¬ t = 0 by omega), if_neg (show ¬ t < 3 by omega), if_neg c96, if_neg c97]; rw [decide_eq_true c102, decide_eq_false (Int32.not_le.mpr c104)]; decide)).symm rfl
                  · refine bf_iconst r.1 (v := nI 1) dX7_goesOn_172 rfl ?_
                    refine bf_goto r.1 (tgt := 177) dX7_goesOn_173 (by decide) ?_
                    exact rt_i r dX7_goesOn_177 rfl (by decide) (if_pos (by unfold bf_go; rw [if_neg (show ¬ 35 ≤ t by omega), if_neg (show ¬ t = 0 by omega), if_neg (show ¬ t < 3 by omega), if_neg c96, if_neg c97]; rw [decide_eq_true c102, decide_eq_true (Int32.not_lt.mp c104)]; rfl)).symm rfl
          · refine bf_iload_n r.1 dX7_goesOn_97 rfl ?_
            refine cl_s r (y2 := mX7_kindOf) dX7_goesOn_98 li_X7_29 mv_X7_kindOf [.int (cc t)] [] rfl (Nat.le_of_ble_eq_true rfl) rfl (c_X7_kindOf (by omega) D (cc t)) ?_
            show J 101 [some (.ref (29 + 2 * k)), some (.int (nI i)), some (.int (nI t)), some (.int (cc t)), some (.int (nI ((t - 3) % 8))), none] [.int (bf_ko (cc t))] (bf_MD D)
            refine bf_iconst r.1 (v := -1) dX7_goesOn_101 rfl ?_
            refine bf_icmp_eq r.1 (tgt := 109) dX7_goesOn_102 (by decide) (fun c105 => ?_) (fun c105 => ?_)
            · refine bf_iconst r.1 (v := nI 0) dX7_goesOn_109 rfl ?_
              exact rt_i r dX7_goesOn_110 rfl (by decide) (if_neg (by unfold bf_go; rw [if_neg (show ¬ 35 ≤ t by omega), if_neg (show ¬ t = 0 by omega), if_neg (show ¬ t < 3 by omega), if_neg c96, if_pos c97]; simpa using c105)).symm rfl
            · refine bf_iconst r.1 (v := nI 1) dX7_goesOn_105 rfl ?_
              refine bf_goto r.1 (tgt := 110) dX7_goesOn_106 (by decide) ?_
              exact rt_i r dX7_goesOn_110 rfl (by decide) (if_pos (by unfold bf_go; rw [if_neg (show ¬ 35 ≤ t by omega), if_neg (show ¬ t = 0 by omega), if_neg (show ¬ t < 3 by omega), if_neg c96, if_pos c97]; simpa using c105)).symm rfl
        · refine bf_iload_n r.1 dX7_goesOn_79 rfl ?_
          refine bf_bipush r.1 (v := nI 59) dX7_goesOn_80 rfl ?_
          refine bf_icmp_ne r.1 (tgt := 89) dX7_goesOn_82 (by decide) (fun c106 => ?_) (fun c106 => ?_)
          · refine bf_iconst r.1 (v := nI 0) dX7_goesOn_89 rfl ?_
            exact rt_i r dX7_goesOn_90 rfl (by decide) (if_neg (by unfold bf_go; rw [if_neg (show ¬ 35 ≤ t by omega), if_neg (show ¬ t = 0 by omega), if_neg (show ¬ t < 3 by omega), if_pos c96]; simpa using c106)).symm rfl
          · refine bf_iconst r.1 (v := nI 1) dX7_goesOn_85 rfl ?_
            refine bf_goto r.1 (tgt := 90) dX7_goesOn_86 (by decide) ?_
            exact rt_i r dX7_goesOn_90 rfl (by decide) (if_pos (by unfold bf_go; rw [if_neg (show ¬ 35 ≤ t by omega), if_neg (show ¬ t = 0 by omega), if_neg (show ¬ t < 3 by omega), if_pos c96]; simpa using c106)).symm rfl
      · refine bf_iload_n r.1 dX7_goesOn_37 rfl ?_
        refine cl_s r (y2 := mX7_isDigit) dX7_goesOn_38 li_X7_21 mv_X7_isDigit [.int (cc t)] [] rfl (Nat.le_of_ble_eq_true rfl) rfl (c_X7_isDigit (by omega) D (cc t)) ?_
        show J 41 [some (.ref (29 + 2 * k)), some (.int (nI i)), some (.int (nI t)), some (.int (cc t)), none, none] [.int (if nI 48 ≤ (cc t) ∧ (cc t) ≤ nI 57 then 1 else 0)] (bf_MD D)
        refine nb_eq r (tgt := 64) dX7_goesOn_41 (by decide) (fun c107 => ?_) (fun c107 => ?_)
        · refine bf_iconst r.1 (v := nI 0) dX7_goesOn_64 rfl ?_
          exact rt_i r dX7_goesOn_65 rfl (by decide) (if_neg (by unfold bf_go; rw [if_neg (show ¬ 35 ≤ t by omega), if_neg (show ¬ t = 0 by omega), if_pos (show t < 3 by omega)]; rw [decide_eq_false c107]; simp)).symm rfl
        · refine bf_iload_n r.1 dX7_goesOn_44 rfl ?_
          refine bf_iconst r.1 (v := nI 1) dX7_goesOn_45 rfl ?_
          refine nc_eq r (tgt := 60) dX7_goesOn_46 (by decide) (by omega) (by decide) (fun c108 => ?_) (fun c108 => ?_)
          · refine bf_iconst r.1 (v := nI 1) dX7_goesOn_60 rfl ?_
            refine bf_goto r.1 (tgt := 65) dX7_goesOn_61 (by decide) ?_
            exact rt_i r dX7_goesOn_65 rfl (by decide) (if_pos (by unfold bf_go; rw [if_neg (show ¬ 35 ≤ t by omega), if_neg (show ¬ t = 0 by omega), if_pos (show t < 3 by omega)]; rw [decide_eq_true c107, decide_eq_true c108]; rfl)).symm rfl
          · refine bf_aload_n r.1 dX7_goesOn_49 rfl ?_
            refine bf_iload_n r.1 dX7_goesOn_50 rfl ?_
            refine bf_iconst r.1 (v := nI 1) dX7_goesOn_51 rfl ?_
            refine na_add r dX7_goesOn_52  ?_
            refine bf_iconst r.1 (v := nI 2) dX7_goesOn_53 rfl ?_
            refine cl_s r (y2 := mX7_number) dX7_goesOn_54 li_X7_25 mv_X7_number [.ref (29 + 2 * k), .int (nI (i + 1)), .int (nI 2)] [] rfl (Nat.le_of_ble_eq_true rfl) rfl (c_X7_number (by omega) vs cs hk hz (by omega)) ?_
            show J 57 [some (.ref (29 + 2 * k)), some (.int (nI i)), some (.int (nI t)), some (.int (cc t)), none, none] [.int (bf_nb (fun j9 => sC S k (i + 1 + j9)) 2)] (bf_MD D)
            refine eq_i (v := bf_nb (fun j => cc (1 + j)) 2) (bf_nb_c (fun j => by rw [← hct]; congr 1; omega) 2) ?_
            refine bf_if_le r.1 (tgt := 64) dX7_goesOn_57 (by decide) (fun c109 => ?_) (fun c109 => ?_)
            · refine bf_iconst r.1 (v := nI 0) dX7_goesOn_64 rfl ?_
              exact rt_i r dX7_goesOn_65 rfl (by decide) (if_neg (by unfold bf_go; rw [if_neg (show ¬ 35 ≤ t by omega), if_neg (show ¬ t = 0 by omega), if_pos (show t < 3 by omega)]; rw [decide_eq_true c107, decide_eq_false c108, decide_eq_false (not_not_intro c109)]; decide)).symm rfl
            · refine bf_iconst r.1 (v := nI 1) dX7_goesOn_60 rfl ?_
              refine bf_goto r.1 (tgt := 65) dX7_goesOn_61 (by decide) ?_
              exact rt_i r dX7_goesOn_65 rfl (by decide) (if_pos (by unfold bf_go; rw [if_neg (show ¬ 35 ≤ t by omega), if_neg (show ¬ t = 0 by omega), if_pos (show t < 3 by omega)]; rw [decide_eq_true c107, decide_eq_true c109]; simp)).symm rfl
    · refine bf_iload_n r.1 dX7_goesOn_20 rfl ?_
      refine bf_bipush r.1 (v := nI 112) dX7_goesOn_21 rfl ?_
      refine bf_icmp_ne r.1 (tgt := 30) dX7_goesOn_23 (by decide) (fun c110 => ?_) (fun c110 => ?_)
      · refine bf_iconst r.1 (v := nI 0) dX7_goesOn_30 rfl ?_
        exact rt_i r dX7_goesOn_31 rfl (by decide) (if_neg (by unfold bf_go; rw [if_neg (show ¬ 35 ≤ t by omega), if_pos c94]; simpa using c110)).symm rfl
      · refine bf_iconst r.1 (v := nI 1) dX7_goesOn_26 rfl ?_
        refine bf_goto r.1 (tgt := 31) dX7_goesOn_27 (by decide) ?_
        exact rt_i r dX7_goesOn_31 rfl (by decide) (if_pos (by unfold bf_go; rw [if_neg (show ¬ 35 ≤ t by omega), if_pos c94]; simpa using c110)).symm rfl
  · refine bf_iconst r.1 (v := nI 0) dX7_goesOn_14 rfl ?_
    exact rt_i r dX7_goesOn_15 rfl (by decide) (if_neg (by unfold bf_go; rw [if_pos c93]; decide)).symm rfl
/-- the first place below n at which it does not go on; else n -/
def bf_fi (p : Nat → Bool) : Nat → Nat
  | 0 => 0
  | n + 1 => if bf_fi p n < n then bf_fi p n else if p n = true then n + 1 else n
theorem bf_fi_le (p : Nat → Bool) : ∀ n, bf_fi p n ≤ n := by
  intro n
  induction n with
  | zero => exact Nat.le_refl _
  | succ n ih =>
    simp only [bf_fi]
    split
    · omega
    · split <;> omega
theorem bf_fi_yes (p : Nat → Bool) : ∀ n t, t < bf_fi p n → p t = true := by
  intro n
  induction n with
  | zero => intro t h; simp [bf_fi] at h
  | succ n ih =>
    intro t h
    simp only [bf_fi] at h
    split at h
    · exact ih t h
    · rename_i h1
      have h2 := bf_fi_le p n
      split at h
      · by_cases e : t = n
        · subst e; assumption
        · exact ih t (by omega)
      · exact ih t (by omega)
theorem bf_fi_no (p : Nat → Bool) : ∀ n, bf_fi p n < n → ¬ p (bf_fi p n) = true := by
  intro n
  induction n with
  | zero => intro h; omega
  | succ n ih =>
    intro h
    have h2 := bf_fi_le p n
    by_cases h1 : bf_fi p n < n
    · have e : bf_fi p (n + 1) = bf_fi p n := by simp only [bf_fi]; rw [if_pos h1]
      rw [e]; exact ih h1
    · by_cases h3 : p n = true
      · have e : bf_fi p (n + 1) = n + 1 := by simp only [bf_fi]; rw [if_neg h1, if_pos h3]
        omega
      · have e : bf_fi p (n + 1) = n := by simp only [bf_fi]; rw [if_neg h1, if_neg h3]
        rw [e]; exact h3
theorem bf_fi_eq {p : Nat → Bool} {n t : Nat} (ht : t < n) (h1 : ∀ u, u < t → p u = true) (h2 : ¬ p t = true) : bf_fi p n = t := by
  rcases Nat.lt_trichotomy (bf_fi p n) t with h | h | h
  · exact absurd (h1 _ h) (bf_fi_no p n (by omega))
  · exact h
  · exact absurd (bf_fi_yes p n t h) h2
theorem bf_fi_all {p : Nat → Bool} {n : Nat} (h1 : ∀ u, u < n → p u = true) : bf_fi p n = n := by
  rcases Nat.lt_or_ge (bf_fi p n) n with h | h
  · exact absurd (h1 _ h) (bf_fi_no p n h)
  · have := bf_fi_le p n; omega
/-- the first fault of a text of n codes; none: it is one -/
def bf_tf (c : Nat → Int32) (n : Nat) : Option Nat := if bf_fi (bf_go c) n < n then some (bf_fi (bf_go c) n) else if 11 ≤ n ∧ (n - 3) % 8 = 0 then none else some n
def bf_tfI : Option Nat → Int32
  | some t => nI t
  | none => -1
theorem c_X7_firstFault {d : Nat} (hd : 5 ≤ d) {D : bf_D} {S : bf_Sh} (vs : vS S) (cs : cS D S) {k : Nat} (hk : k < 4) {n i m : Nat} (hz : sZ S k = some n) (hi : i + m ≤ n) : bf_Cf d mX7_firstFault [.ref (29 + 2 * k), .int (nI i), .int (nI m)] D (some (.int (bf_tfI (bf_tf (fun u => sC S k (i + u)) m)))) D := by
  refine bf_Cf_of 4 hd mo_X7_firstFault (Nat.le_of_ble_eq_true rfl) (fun e he J r => ?_)
  show J 0 [some (.ref (29 + 2 * k)), some (.int (nI i)), some (.int (nI m)), none] [] (bf_MD D)
  have h60 := (vs k hk).2 n hz
  refine bf_iconst r.1 (v := nI 0) dX7_firstFault_0 rfl ?_
  refine bf_istore_n r.1 (L2 := [some (.ref (29 + 2 * k)), some (.int (nI i)), some (.int (nI m)), some (.int (nI 0))]) dX7_firstFault_1 rfl ?_
  have loop : ∀ t : Nat, t ≤ m → (∀ u, u < t → bf_go (fun u => sC S k (i + u)) u = true) → J 2 [some (.ref (29 + 2 * k)), some (.int (nI i)), some (.int (nI m)), some (.int (nI t))] [] (bf_MD D) := by
    refine bf_down (fun t hle ih => ?_)
    intro hu
    refine bf_iload_n r.1 dX7_firstFault_2 rfl ?_
    refine bf_iload_n r.1 dX7_firstFault_3 rfl ?_
    refine nc_ge r (tgt := 24) dX7_firstFault_4 (by decide) (by omega) (by omega) (fun c111 => ?_) (fun c111 => ?_)
    · refine bf_iload_n r.1 dX7_firstFault_24 rfl ?_
      refine bf_bipush r.1 (v := nI 11) dX7_firstFault_25 rfl ?_
      refine nc_lt r (tgt := 43) dX7_firstFault_27 (by decide) (by omega) (by decide) (fun c112 => ?_) (fun c112 => ?_)
      · refine bf_iconst r.1 (v := nI 0) dX7_firstFault_43 rfl ?_
        refine bf_istore_n r.1 (L2 := [some (.ref (29 + 2 * k)), some (.int (nI i)), some (.int (nI m)), some (.int (nI 0))]) dX7_firstFault_44 rfl ?_
        refine bf_iload_n r.1 dX7_firstFault_45 rfl ?_
        refine nz_eq r (tgt := 53) dX7_firstFault_46 (by decide) (by decide) (fun c113 => ?_) (fun c113 => ?_)
        · refine bf_iload_n r.1 dX7_firstFault_53 rfl ?_
          exact rt_i r dX7_firstFault_54 rfl rfl (by unfold bf_tf; rw [bf_fi_all (fun u h => hu u (by omega)), if_neg (Nat.lt_irrefl _), if_neg (fun h => absurd h.1 (by omega))]; rfl) rfl
        · exact absurd rfl c113
      · refine bf_iload_n r.1 dX7_firstFault_30 rfl ?_
        refine bf_iconst r.1 (v := nI 3) dX7_firstFault_31 rfl ?_
        refine na_sub r dX7_firstFault_32 (by omega) ?_
        refine bf_bipush r.1 (v := nI 8) dX7_firstFault_33 rfl ?_
        refine na_rem r dX7_firstFault_35 (by omega) (by decide) (by decide) ?_
        refine nz_ne r (tgt := 43) dX7_firstFault_36 (by decide) (by omega) (fun c114 => ?_) (fun c114 => ?_)
        · refine bf_iconst r.1 (v := nI 0) dX7_firstFault_43 rfl ?_
          refine bf_istore_n r.1 (L2 := [some (.ref (29 + 2 * k)), some (.int (nI i)), some (.int (nI m)), some (.int (nI 0))]) dX7_firstFault_44 rfl ?_
          refine bf_iload_n r.1 dX7_firstFault_45 rfl ?_
          refine nz_eq r (tgt := 53) dX7_firstFault_46 (by decide) (by decide) (fun c115 => ?_) (fun c115 => ?_)
          · refine bf_iload_n r.1 dX7_firstFault_53 rfl ?_
            exact rt_i r dX7_firstFault_54 rfl rfl (by unfold bf_tf; rw [bf_fi_all (fun u h => hu u (by omega)), if_neg (Nat.lt_irrefl _), if_neg (fun h => c114 h.2)]; rfl) rfl
          · exact absurd rfl c115
        · refine bf_iconst r.1 (v := nI 1) dX7_firstFault_39 rfl ?_
          refine bf_goto r.1 (tgt := 44) dX7_firstFault_40 (by decide) ?_
          refine bf_istore_n r.1 (L2 := [some (.ref (29 + 2 * k)), some (.int (nI i)), some (.int (nI m)), some (.int (nI 1))]) dX7_firstFault_44 rfl ?_
          refine bf_iload_n r.1 dX7_firstFault_45 rfl ?_
          refine nz_eq r (tgt := 53) dX7_firstFault_46 (by decide) (by decide) (fun c116 => ?_) (fun c116 => ?_)
          · exact absurd c116 (by decide)
          · refine bf_iconst r.1 (v := -1) dX7_firstFault_49 rfl ?_
            refine bf_goto r.1 (tgt := 54) dX7_firstFault_50 (by decide) ?_
            exact rt_i r dX7_firstFault_54 rfl rfl (by unfold bf_tf; rw [bf_fi_all (fun u h => hu u (by omega)), if_neg (Nat.lt_irrefl _), if_pos ⟨c112, c114⟩]; rfl) rfl
    · refine bf_aload_n r.1 dX7_firstFault_7 rfl ?_
      refine bf_iload_n r.1 dX7_firstFault_8 rfl ?_
      refine bf_iload_n r.1 dX7_firstFault_9 rfl ?_
      refine cl_s r (y2 := mX7_goesOn) dX7_firstFault_10 li_X7_11 mv_X7_goesOn [.ref (29 + 2 * k), .int (nI i), .int (nI t)] [] rfl (Nat.le_of_ble_eq_true rfl) rfl (c_X7_goesOn (by omega) vs cs hk hz (by omega)) ?_
      show J 13 [some (.ref (29 + 2 * k)), some (.int (nI i)), some (.int (nI m)), some (.int (nI t))] [.int (if bf_go (fun u => sC S k (i + u)) t = true then 1 else 0)] (bf_MD D)
      refine nb_ne r (tgt := 18) dX7_firstFault_13 (by decide) (fun c117 => ?_) (fun c117 => ?_)
      · refine na_inc r (v := t + 1) (L2 := [some (.ref (29 + 2 * k)), some (.int (nI i)), some (.int (nI m)), some (.int (nI (t + 1)))]) dX7_firstFault_18 rfl (nI_add _ 1) rfl ?_
        refine bf_goto r.1 (tgt := 2) dX7_firstFault_21 (by decide) ?_
        exact ih (by omega) (lt_s hu c117)
      · refine bf_iload_n r.1 dX7_firstFault_16 rfl ?_
        exact rt_i r dX7_firstFault_17 rfl rfl (by unfold bf_tf; rw [bf_fi_eq c111 hu c117, if_pos c111]; rfl) rfl
  exact loop 0 (by omega) lt_0
