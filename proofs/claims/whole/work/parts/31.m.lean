/-! the reference: small helpers -/
theorem bf_lcmp_lt (x z : Int64) : lg_cmp x z < 0 ↔ x < z := lg_cmp_lt x z
theorem bf_lcmp_gt (x z : Int64) : 0 < lg_cmp x z ↔ z < x := lg_cmp_gt x z
theorem bf_in32m {x : Int32} {n : Nat} (hh : n < 2 ^ 31) : (lN 0 ≤ x.toInt64 ∧ x.toInt64 ≤ lN n - lN 1) ↔ (0 ≤ x ∧ x < nI n) := by
  have e : (lN n - lN 1).toInt = (n : Int) - 1 := by
    rw [Int64.toInt_sub, lN_toInt (by omega), lN_toInt (by decide)]
    rw [Int.bmod_eq_of_le (by omega) (by omega)]; rfl
  rw [Int64.le_iff_toInt_le, Int64.le_iff_toInt_le, Int32.le_iff_toInt_le, Int32.lt_iff_toInt_lt, bf_toL, lN_toInt (by decide), e, nI_toInt hh]
  show ((0 : Nat) : Int) ≤ _ ∧ _ ↔ (0 : Int) ≤ _ ∧ _
  omega
theorem c_X9_in {d : Nat} (hd : 1 ≤ d) (D : bf_D) (v l h : Int64) : bf_Cf d mX9_in [.long (v), .long (l), .long (h)] D (some (.int (if l ≤ v ∧ v ≤ h then 1 else 0))) D := by
  refine bf_Cf_of 0 hd mo_X9_in (Nat.le_of_ble_eq_true rfl) (fun e he J r => ?_)
  show J 0 [some (.long (v)), none, some (.long (l)), none, some (.long (h)), none] [] (bf_MD D)
  refine bf_lload_n r.1 dX9_in_0 rfl ?_
  refine bf_lload_n r.1 dX9_in_1 rfl ?_
  refine bf_lcmp r.1 dX9_in_2 ?_
  refine bf_if_lt r.1 (tgt := 17) dX9_in_3 (by decide) (fun c283 => ?_) (fun c283 => ?_)
  · refine bf_iconst r.1 (v := nI 0) dX9_in_17 rfl ?_
    exact rt_i r dX9_in_18 rfl (by decide) (if_neg (fun q => Int64.not_lt.mpr q.1 ((bf_lcmp_lt _ _).mp c283))).symm rfl
  · refine bf_lload_n r.1 dX9_in_6 rfl ?_
    refine bf_lload r.1 dX9_in_7 rfl ?_
    refine bf_lcmp r.1 dX9_in_9 ?_
    refine bf_if_gt r.1 (tgt := 17) dX9_in_10 (by decide) (fun c284 => ?_) (fun c284 => ?_)
    · refine bf_iconst r.1 (v := nI 0) dX9_in_17 rfl ?_
      exact rt_i r dX9_in_18 rfl (by decide) (if_neg (fun q => Int64.not_lt.mpr q.2 ((bf_lcmp_gt _ _).mp c284))).symm rfl
    · refine bf_iconst r.1 (v := nI 1) dX9_in_13 rfl ?_
      refine bf_goto r.1 (tgt := 18) dX9_in_14 (by decide) ?_
      exact rt_i r dX9_in_18 rfl (by decide) (if_pos ⟨Int64.not_lt.mp (fun q => c283 ((bf_lcmp_lt _ _).mpr q)), Int64.not_lt.mp (fun q => c284 ((bf_lcmp_gt _ _).mpr q))⟩).symm rfl
theorem c_X9_in32 {d : Nat} (hd : 1 ≤ d) (D : bf_D) (x : Int32) {h m : Nat} (hm : m = h + 1) (hh : m < 2 ^ 31) : bf_Cf d mX9_in [.long x.toInt64, .long (lN 0), .long (lN h)] D (some (.int (if 0 ≤ x ∧ x < nI m then 1 else 0))) D := by
  subst hm
  rw [← bf_ifc (bf_in32 hh)]
  exact c_X9_in hd D _ _ _
theorem c_X9_in32m {d : Nat} (hd : 1 ≤ d) (D : bf_D) (x : Int32) {n : Nat} (hh : n < 2 ^ 31) : bf_Cf d mX9_in [.long x.toInt64, .long (lN 0), .long (lN n - lN 1)] D (some (.int (if 0 ≤ x ∧ x < nI n then 1 else 0))) D := by
  rw [← bf_ifc (bf_in32m hh)]
  exact c_X9_in hd D _ _ _
theorem c_X9_inN {d : Nat} (hd : 1 ≤ d) (D : bf_D) {v l h : Nat} (hv : v < 2 ^ 31) (hl : l < 2 ^ 31) (hh : h < 2 ^ 31) : bf_Cf d mX9_in [.long (lN v), .long (lN l), .long (lN h)] D (some (.int (if l ≤ v ∧ v ≤ h then 1 else 0))) D := by
  have e : (lN l ≤ lN v ∧ lN v ≤ lN h) ↔ (l ≤ v ∧ v ≤ h) := by
    rw [Int64.le_iff_toInt_le, Int64.le_iff_toInt_le, lN_toInt hv, lN_toInt hl, lN_toInt hh]; omega
  rw [← bf_ifc e]
  exact c_X9_in hd D _ _ _
theorem c_X9_lost {d : Nat} (hd : 1 ≤ d) (D : bf_D) : bf_Cf d mX9_lost [] D (some (.long bf_lost)) D := by
  refine bf_Cf_of 0 hd mo_X9_lost (Nat.le_of_ble_eq_true rfl) (fun e he J r => ?_)
  show J 0 [] [] (bf_MD D)
  refine bf_ldc2 r.1 dX9_lost_0 lc_X9_67 ?_
  exact rt_l r dX9_lost_3 rfl rfl rfl
theorem bf_tb1 (m j : Nat) : (m / 2 ^ j &&& 1 = 1) ↔ m.testBit j = true := by
  have h := bf_tb0 m j
  have h2 : m / 2 ^ j &&& 1 = 0 ∨ m / 2 ^ j &&& 1 = 1 := by rw [bf_and1]; omega
  constructor
  · intro q
    cases e : m.testBit j with
    | true => rfl
    | false => have := h.mpr e; omega
  · intro q
    rcases h2 with h3 | h3
    · rw [h.mp h3] at q; cases q
    · exact h3
theorem c_X9_isIn {d : Nat} (hd : 1 ≤ d) (D : bf_D) {s b : Nat} (hs : s < 2 ^ 31) (hb : b < 31) : bf_Cf d mX9_isIn [.int (nI s), .int (nI b)] D (some (.int (if s.testBit b = true then 1 else 0))) D := by
  refine bf_Cf_of 0 hd mo_X9_isIn (Nat.le_of_ble_eq_true rfl) (fun e he J r => ?_)
  show J 0 [some (.int (nI s)), some (.int (nI b))] [] (bf_MD D)
  refine bf_iload_n r.1 dX9_isIn_0 rfl ?_
  refine bf_iload_n r.1 dX9_isIn_1 rfl ?_
  refine na_shr r dX9_isIn_2 (by omega) hs ?_
  refine bf_iconst r.1 (v := nI 1) dX9_isIn_3 rfl ?_
  refine na_and r dX9_isIn_4  ?_
  refine bf_iconst r.1 (v := nI 1) dX9_isIn_5 rfl ?_
  refine nc_ne r (tgt := 13) dX9_isIn_6 (by decide) (bf_and1_lt _) (by decide) (fun c285 => ?_) (fun c285 => ?_)
  · refine bf_iconst r.1 (v := nI 0) dX9_isIn_13 rfl ?_
    exact rt_i r dX9_isIn_14 rfl (by decide) (if_neg (fun q => c285 ((bf_tb1 _ _).mpr q))).symm rfl
  · refine bf_iconst r.1 (v := nI 1) dX9_isIn_9 rfl ?_
    refine bf_goto r.1 (tgt := 14) dX9_isIn_10 (by decide) ?_
    exact rt_i r dX9_isIn_14 rfl (by decide) (if_pos ((bf_tb1 _ _).mp c285)).symm rfl
theorem bf_pcF0 : ∀ f, bf_pcF f 0 = 0 := by
  intro f
  induction f with
  | zero => rfl
  | succ f ih => simp only [bf_pcF]; rw [Nat.zero_div, ih]
theorem c_X9_bits {d : Nat} (hd : 1 ≤ d) (D : bf_D) {x : Nat} (hx : x < 1024) : bf_Cf d mX9_bits [.int (nI x)] D (some (.int (nI (bf_pc x)))) D := by
  refine bf_Cf_of 0 hd mo_X9_bits (Nat.le_of_ble_eq_true rfl) (fun e he J r => ?_)
  show J 0 [some (.int (nI x)), none, none] [] (bf_MD D)
  refine bf_iconst r.1 (v := nI 0) dX9_bits_0 rfl ?_
  refine bf_istore_n r.1 (L2 := [some (.int (nI x)), some (.int (nI 0)), none]) dX9_bits_1 rfl ?_
  refine bf_iload_n r.1 dX9_bits_2 rfl ?_
  refine bf_istore_n r.1 (L2 := [some (.int (nI x)), some (.int (nI 0)), some (.int (nI x))]) dX9_bits_3 rfl ?_
  have loop : ∀ (f n y : Nat), y < 2 ^ f → f ≤ 10 → n + bf_pcF f y = bf_pc x → J 4 [some (.int (nI x)), some (.int (nI n)), some (.int (nI y))] [] (bf_MD D) := by
    intro f
    induction f with
    | zero =>
      intro n y hs0 hs1 he
      have hy : y = 0 := by have h9 : y < 2 ^ 0 := hs0; omega
      subst hy
      refine bf_iload_n r.1 dX9_bits_4 rfl ?_
      refine nz_le r (tgt := 21) dX9_bits_5 (by decide) (by decide) (fun c286 => ?_) (fun c286 => ?_)
      · refine bf_iload_n r.1 dX9_bits_21 rfl ?_
        exact rt_i r dX9_bits_22 rfl rfl (by rw [← he]; rfl) rfl
      · exact absurd c286 (by omega)
    | succ f ih =>
      intro n y hs0 hs1 he
      have hp9 : 2 ^ (f + 1) ≤ 2 ^ 10 := Nat.pow_le_pow_right (by decide) hs1
      have hy31 : y < 2 ^ 31 := by omega
      refine bf_iload_n r.1 dX9_bits_4 rfl ?_
      refine nz_le r (tgt := 21) dX9_bits_5 (by decide) hy31 (fun c287 => ?_) (fun c287 => ?_)
      · refine bf_iload_n r.1 dX9_bits_21 rfl ?_
        have hy : y = 0 := by omega
        subst hy
        exact rt_i r dX9_bits_22 rfl rfl (by rw [← he, bf_pcF0]; rfl) rfl
      · refine bf_iload_n r.1 dX9_bits_8 rfl ?_
        refine bf_iload_n r.1 dX9_bits_9 rfl ?_
        refine bf_iconst r.1 (v := nI 1) dX9_bits_10 rfl ?_
        refine na_and r dX9_bits_11  ?_
        refine na_add r dX9_bits_12  ?_
        refine bf_istore_n r.1 (L2 := [some (.int (nI x)), some (.int (nI (n + (y &&& 1)))), some (.int (nI y))]) dX9_bits_13 rfl ?_
        refine bf_iload_n r.1 dX9_bits_14 rfl ?_
        refine bf_iconst r.1 (v := nI 1) dX9_bits_15 rfl ?_
        refine na_shr r dX9_bits_16 (by decide) hy31 ?_
        refine bf_istore_n r.1 (L2 := [some (.int (nI x)), some (.int (nI (n + (y &&& 1)))), some (.int (nI (y / 2 ^ 1)))]) dX9_bits_17 rfl ?_
        refine bf_goto r.1 (tgt := 4) dX9_bits_18 (by decide) ?_
        refine ih _ _ (by rw [Nat.pow_succ] at hs0; omega) (by omega) ?_
        rw [← he]
        simp only [bf_pcF]
        rw [bf_and1]
        show _ = n + (y % 2 + _)
        rw [Nat.add_assoc]
  exact loop 10 0 x hx (Nat.le_refl _) (Nat.zero_add _)
theorem c_X9_refused {d : Nat} (hd : 1 ≤ d) (D : bf_D) (x : Int32) : bf_Cf d mX9_refused [.ref 37, .int (x)] D (some (.int x)) (bf_u D 37 0 (nI 0)) := by
  refine bf_Cf_of 0 hd mo_X9_refused (Nat.le_of_ble_eq_true rfl) (fun e he J r => ?_)
  show J 0 [some (.ref 37), some (.int (x))] [] (bf_MD D)
  refine bf_aload_n r.1 dX9_refused_0 rfl ?_
  refine bf_iconst r.1 (v := nI 0) dX9_refused_1 rfl ?_
  refine ip_int r dX9_refused_2 fp_X9_69 rfl (by decide) rfl ?_
  refine bf_iload_n r.1 dX9_refused_5 rfl ?_
  exact rt_i r dX9_refused_6 rfl rfl rfl rfl
theorem c_X9_failed {d : Nat} (hd : 1 ≤ d) (D : bf_D) (x : Nat) : bf_Cf d mX9_failed [.ref 37, .int (nI x)] D (some (.int (-10 - nI x))) (bf_u D 37 0 (nI x)) := by
  refine bf_Cf_of 0 hd mo_X9_failed (Nat.le_of_ble_eq_true rfl) (fun e he J r => ?_)
  show J 0 [some (.ref 37), some (.int (nI x))] [] (bf_MD D)
  refine bf_aload_n r.1 dX9_failed_0 rfl ?_
  refine bf_iload_n r.1 dX9_failed_1 rfl ?_
  refine ip_int r dX9_failed_2 fp_X9_69 rfl (by decide) rfl ?_
  refine bf_bipush r.1 (v := -10) dX9_failed_5 rfl ?_
  refine bf_iload_n r.1 dX9_failed_7 rfl ?_
  refine bf_isub r.1 dX9_failed_8 ?_
  exact rt_i r dX9_failed_9 rfl rfl rfl rfl
theorem c_X9_failedLong {d : Nat} (hd : 2 ≤ d) (D : bf_D) (x : Nat) : bf_Cf d mX9_failedLong [.ref 37, .int (nI x)] D (some (.long bf_lost)) (bf_u D 37 0 (nI x)) := by
  refine bf_Cf_of 1 hd mo_X9_failedLong (Nat.le_of_ble_eq_true rfl) (fun e he J r => ?_)
  show J 0 [some (.ref 37), some (.int (nI x))] [] (bf_MD D)
  refine bf_aload_n r.1 dX9_failedLong_0 rfl ?_
  refine bf_iload_n r.1 dX9_failedLong_1 rfl ?_
  refine ip_int r dX9_failedLong_2 fp_X9_69 rfl (by decide) rfl ?_
  refine cl_s r (y2 := mX9_lost) dX9_failedLong_5 li_X9_73 mv_X9_lost [] [] rfl (Nat.le_of_ble_eq_true rfl) rfl (c_X9_lost (by omega) (bf_u D 37 0 (nI x))) ?_
  show J 8 [some (.ref 37), some (.int (nI x))] [.long (bf_lost)] (bf_MD (bf_u D 37 0 (nI x)))
  exact rt_l r dX9_failedLong_8 rfl rfl rfl
theorem c_X9_noPlace {d : Nat} (hd : 2 ≤ d) {D : bf_D} {P : bf_Pn} (hv : vP P) (hm : mP D P) (k : Int32) : bf_Cf d mX9_noPlace [.ref 37, .int (k)] D (some (.int (if ¬ (0 ≤ k ∧ k < nI (pN P)) then 1 else 0))) D := by
  refine bf_Cf_of 1 hd mo_X9_noPlace (Nat.le_of_ble_eq_true rfl) (fun e he J r => ?_)
  show J 0 [some (.ref 37), some (.int (k))] [] (bf_MD D)
  have hn4 := hv.1
  have hx4 := pX_le hv
  have hx0 := pX_pos P
  refine bf_iload_n r.1 dX9_noPlace_0 rfl ?_
  refine bf_i2l r.1 dX9_noPlace_1 ?_
  refine bf_lconst r.1 (v := lN 0) dX9_noPlace_2 rfl ?_
  refine bf_aload_n r.1 dX9_noPlace_3 rfl ?_
  refine ig_int r (v := nI (pN P)) dX9_noPlace_4 fl_X9_77 rfl (by decide) rfl (mP_n (P := P) hm) ?_
  refine na_i2l r dX9_noPlace_7 (by omega) ?_
  refine bf_lconst r.1 (v := lN 1) dX9_noPlace_8 rfl ?_
  refine bf_lsub r.1 dX9_noPlace_9  ?_
  refine cl_s r (y2 := mX9_in) dX9_noPlace_10 li_X9_80 mv_X9_in [.long (k.toInt64), .long (lN 0), .long ((lN (pN P)) - (lN 1))] [] rfl (Nat.le_of_ble_eq_true rfl) rfl (c_X9_in32m (by omega) D k (n := (pN P)) (by omega)) ?_
  show J 13 [some (.ref 37), some (.int (k))] [.int (if 0 ≤ k ∧ k < nI (pN P) then 1 else 0)] (bf_MD D)
  refine nb_ne r (tgt := 20) dX9_noPlace_13 (by decide) (fun c288 => ?_) (fun c288 => ?_)
  · refine bf_iconst r.1 (v := nI 0) dX9_noPlace_20 rfl ?_
    exact rt_i r dX9_noPlace_21 rfl (by decide) (if_neg (fun q => q c288)).symm rfl
  · refine bf_iconst r.1 (v := nI 1) dX9_noPlace_16 rfl ?_
    refine bf_goto r.1 (tgt := 21) dX9_noPlace_17 (by decide) ?_
    exact rt_i r dX9_noPlace_21 rfl (by decide) (if_pos c288).symm rfl
def xch (s a b : Int32) : Int32 := (((s &&& ((nI 1 <<< (a &&& 31)) ^^^ (-1))) &&& ((nI 1 <<< (b &&& 31)) ^^^ (-1))) ||| (((s >>> (a &&& 31)) &&& nI 1) <<< (b &&& 31))) ||| (((s >>> (b &&& 31)) &&& nI 1) <<< (a &&& 31))
def mir (s : Int32) : Int32 := xch (xch s (nI 1) (nI 5)) (nI 2) (nI 4)
def trn (s : Int32) : Int32 := xch (xch (xch s (nI 0) (nI 3)) (nI 1) (nI 2)) (nI 4) (nI 5)
theorem lk_0 : ∀ d : Fin 10, bf_lk (0 * 10 + d.1) = bf_lk d.1 := by decide
theorem lk_1 : ∀ d : Fin 10, mir (nI (bf_lk d.1)) = nI (bf_lk (1 * 10 + d.1)) := by decide
theorem lk_2 : ∀ d : Fin 10, trn (mir (nI (bf_lk d.1))) = nI (bf_lk (2 * 10 + d.1)) := by decide
theorem c_X9_figureOf {d : Nat} (hd : 1 ≤ d) (D : bf_D) {x : Nat} (hx : x < 10) : bf_Cf d mX9_figureOf [.int (nI x)] D (some (.int (nI (bf_lk x)))) D := by
  refine bf_Cf_of 0 hd mo_X9_figureOf (Nat.le_of_ble_eq_true rfl) (fun e he J r => ?_)
  show J 0 [some (.int (nI x))] [] (bf_MD D)
  refine bf_iload_n r.1 dX9_figureOf_0 rfl ?_
  by_cases c289 : (nI x) = nI 0
  · refine bf_tabIn r.1 (off := 51) (tgt := 52) dX9_figureOf_1 (by rw [c289]; decide) (by rw [c289]; decide) (by rw [c289]; rfl) (by decide) ?_
    refine bf_bipush r.1 (v := nI 63) dX9_figureOf_52 rfl ?_
    have ex : x = 0 := (nI_eq (by omega) (by decide)).mp c289
    subst ex
    exact rt_i r dX9_figureOf_54 rfl rfl rfl rfl
  · by_cases c290 : (nI x) = nI 1
    · refine bf_tabIn r.1 (off := 54) (tgt := 55) dX9_figureOf_1 (by rw [c290]; decide) (by rw [c290]; decide) (by rw [c290]; rfl) (by decide) ?_
      refine bf_bipush r.1 (v := nI 6) dX9_figureOf_55 rfl ?_
      have ex : x = 1 := (nI_eq (by omega) (by decide)).mp c290
      subst ex
      exact rt_i r dX9_figureOf_57 rfl rfl rfl rfl
    · by_cases c291 : (nI x) = nI 2
      · refine bf_tabIn r.1 (off := 57) (tgt := 58) dX9_figureOf_1 (by rw [c291]; decide) (by rw [c291]; decide) (by rw [c291]; rfl) (by decide) ?_
        refine bf_bipush r.1 (v := nI 91) dX9_figureOf_58 rfl ?_
        have ex : x = 2 := (nI_eq (by omega) (by decide)).mp c291
        subst ex
        exact rt_i r dX9_figureOf_60 rfl rfl rfl rfl
      · by_cases c292 : (nI x) = nI 3
        · refine bf_tabIn r.1 (off := 60) (tgt := 61) dX9_figureOf_1 (by rw [c292]; decide) (by rw [c292]; decide) (by rw [c292]; rfl) (by decide) ?_
          refine bf_bipush r.1 (v := nI 79) dX9_figureOf_61 rfl ?_
          have ex : x = 3 := (nI_eq (by omega) (by decide)).mp c292
          subst ex
          exact rt_i r dX9_figureOf_63 rfl rfl rfl rfl
        · by_cases c293 : (nI x) = nI 4
          · refine bf_tabIn r.1 (off := 63) (tgt := 64) dX9_figureOf_1 (by rw [c293]; decide) (by rw [c293]; decide) (by rw [c293]; rfl) (by decide) ?_
            refine bf_bipush r.1 (v := nI 102) dX9_figureOf_64 rfl ?_
            have ex : x = 4 := (nI_eq (by omega) (by decide)).mp c293
            subst ex
            exact rt_i r dX9_figureOf_66 rfl rfl rfl rfl
          · by_cases c294 : (nI x) = nI 5
            · refine bf_tabIn r.1 (off := 66) (tgt := 67) dX9_figureOf_1 (by rw [c294]; decide) (by rw [c294]; decide) (by rw [c294]; rfl) (by decide) ?_
              refine bf_bipush r.1 (v := nI 109) dX9_figureOf_67 rfl ?_
              have ex : x = 5 := (nI_eq (by omega) (by decide)).mp c294
              subst ex
              exact rt_i r dX9_figureOf_69 rfl rfl rfl rfl
            · by_cases c295 : (nI x) = nI 6
              · refine bf_tabIn r.1 (off := 69) (tgt := 70) dX9_figureOf_1 (by rw [c295]; decide) (by rw [c295]; decide) (by rw [c295]; rfl) (by decide) ?_
                refine bf_bipush r.1 (v := nI 125) dX9_figureOf_70 rfl ?_
                have ex : x = 6 := (nI_eq (by omega) (by decide)).mp c295
                subst ex
                exact rt_i r dX9_figureOf_72 rfl rfl rfl rfl
              · by_cases c296 : (nI x) = nI 7
                · refine bf_tabIn r.1 (off := 72) (tgt := 73) dX9_figureOf_1 (by rw [c296]; decide) (by rw [c296]; decide) (by rw [c296]; rfl) (by decide) ?_
                  refine bf_bipush r.1 (v := nI 7) dX9_figureOf_73 rfl ?_
                  have ex : x = 7 := (nI_eq (by omega) (by decide)).mp c296
                  subst ex
                  exact rt_i r dX9_figureOf_75 rfl rfl rfl rfl
                · by_cases c297 : (nI x) = nI 8
                  · refine bf_tabIn r.1 (off := 75) (tgt := 76) dX9_figureOf_1 (by rw [c297]; decide) (by rw [c297]; decide) (by rw [c297]; rfl) (by decide) ?_
                    refine bf_bipush r.1 (v := nI 127) dX9_figureOf_76 rfl ?_
                    have ex : x = 8 := (nI_eq (by omega) (by decide)).mp c297
                    subst ex
                    exact rt_i r dX9_figureOf_78 rfl rfl rfl rfl
                  · refine bf_tabOut r.1 (tgt := 79) dX9_figureOf_1 (by have q0 := lv_neT c289 (a := 0) (by decide); have q1 := lv_neT c290 (a := 1) (by decide); have q2 := lv_neT c291 (a := 2) (by decide); have q3 := lv_neT c292 (a := 3) (by decide); have q4 := lv_neT c293 (a := 4) (by decide); have q5 := lv_neT c294 (a := 5) (by decide); have q6 := lv_neT c295 (a := 6) (by decide); have q7 := lv_neT c296 (a := 7) (by decide); have q8 := lv_neT c297 (a := 8) (by decide); omega) (by decide) ?_
                    refine bf_bipush r.1 (v := nI 111) dX9_figureOf_79 rfl ?_
                    have q0 : ¬ x = 0 := fun q => c289 (by rw [q]); have q1 : ¬ x = 1 := fun q => c290 (by rw [q]); have q2 : ¬ x = 2 := fun q => c291 (by rw [q]); have q3 : ¬ x = 3 := fun q => c292 (by rw [q]); have q4 : ¬ x = 4 := fun q => c293 (by rw [q]); have q5 : ¬ x = 5 := fun q => c294 (by rw [q]); have q6 : ¬ x = 6 := fun q => c295 (by rw [q]); have q7 : ¬ x = 7 := fun q => c296 (by rw [q]); have q8 : ¬ x = 8 := fun q => c297 (by rw [q])
                    have ex : x = 9 := by omega
                    subst ex
                    exact rt_i r dX9_figureOf_81 rfl rfl rfl rfl
theorem c_X9_exchanged {d : Nat} (hd : 1 ≤ d) (D : bf_D) (s a b : Int32) : bf_Cf d mX9_exchanged [.int (s), .int (a), .int (b)] D (some (.int (xch s a b))) D := by
  refine bf_Cf_of 0 hd mo_X9_exchanged (Nat.le_of_ble_eq_true rfl) (fun e he J r => ?_)
  show J 0 [some (.int (s)), some (.int (a)), some (.int (b)), none] [] (bf_MD D)
  refine bf_iload_n r.1 dX9_exchanged_0 rfl ?_
  refine bf_iconst r.1 (v := nI 1) dX9_exchanged_1 rfl ?_
  refine bf_iload_n r.1 dX9_exchanged_2 rfl ?_
  refine bf_ishl r.1 dX9_exchanged_3 ?_
  refine bf_iconst r.1 (v := -1) dX9_exchanged_4 rfl ?_
  refine bf_ixor r.1 dX9_exchanged_5 ?_
  refine bf_iand r.1 dX9_exchanged_6 ?_
  refine bf_iconst r.1 (v := nI 1) dX9_exchanged_7 rfl ?_
  refine bf_iload_n r.1 dX9_exchanged_8 rfl ?_
  refine bf_ishl r.1 dX9_exchanged_9 ?_
  refine bf_iconst r.1 (v := -1) dX9_exchanged_10 rfl ?_
  refine bf_ixor r.1 dX9_exchanged_11 ?_
  refine bf_iand r.1 dX9_exchanged_12 ?_
  refine bf_istore_n r.1 (L2 := [some (.int (s)), some (.int (a)), some (.int (b)), some (.int ((s &&& (((nI 1) <<< (a &&& 31)) ^^^ (-1))) &&& (((nI 1) <<< (b &&& 31)) ^^^ (-1))))]) dX9_exchanged_13 rfl ?_
  refine bf_iload_n r.1 dX9_exchanged_14 rfl ?_
  refine bf_iload_n r.1 dX9_exchanged_15 rfl ?_
  refine bf_iload_n r.1 dX9_exchanged_16 rfl ?_
  refine bf_ishr r.1 dX9_exchanged_17 ?_
  refine bf_iconst r.1 (v := nI 1) dX9_exchanged_18 rfl ?_
  refine bf_iand r.1 dX9_exchanged_19 ?_
  refine bf_iload_n r.1 dX9_exchanged_20 rfl ?_
  refine bf_ishl r.1 dX9_exchanged_21 ?_
  refine bf_ior r.1 dX9_exchanged_22 ?_
  refine bf_iload_n r.1 dX9_exchanged_23 rfl ?_
  refine bf_iload_n r.1 dX9_exchanged_24 rfl ?_
  refine bf_ishr r.1 dX9_exchanged_25 ?_
  refine bf_iconst r.1 (v := nI 1) dX9_exchanged_26 rfl ?_
  refine bf_iand r.1 dX9_exchanged_27 ?_
  refine bf_iload_n r.1 dX9_exchanged_28 rfl ?_
  refine bf_ishl r.1 dX9_exchanged_29 ?_
  refine bf_ior r.1 dX9_exchanged_30 ?_
  exact rt_i r dX9_exchanged_31 rfl rfl rfl rfl
theorem c_X9_mirrored {d : Nat} (hd : 2 ≤ d) (D : bf_D) (s : Int32) : bf_Cf d mX9_mirrored [.int (s)] D (some (.int (mir s))) D := by
  refine bf_Cf_of 1 hd mo_X9_mirrored (Nat.le_of_ble_eq_true rfl) (fun e he J r => ?_)
  show J 0 [some (.int (s))] [] (bf_MD D)
  refine bf_iload_n r.1 dX9_mirrored_0 rfl ?_
  refine bf_iconst r.1 (v := nI 1) dX9_mirrored_1 rfl ?_
  refine bf_iconst r.1 (v := nI 5) dX9_mirrored_2 rfl ?_
  refine cl_s r (y2 := mX9_exchanged) dX9_mirrored_3 li_X9_138 mv_X9_exchanged [.int (s), .int (nI 1), .int (nI 5)] [] rfl (Nat.le_of_ble_eq_true rfl) rfl (c_X9_exchanged (by omega) D _ _ _) ?_
  show J 6 [some (.int (s))] [.int (xch s (nI 1) (nI 5))] (bf_MD D)
  refine bf_iconst r.1 (v := nI 2) dX9_mirrored_6 rfl ?_
  refine bf_iconst r.1 (v := nI 4) dX9_mirrored_7 rfl ?_
  refine cl_s r (y2 := mX9_exchanged) dX9_mirrored_8 li_X9_138 mv_X9_exchanged [.int (xch s (nI 1) (nI 5)), .int (nI 2), .int (nI 4)] [] rfl (Nat.le_of_ble_eq_true rfl) rfl (c_X9_exchanged (by omega) D _ _ _) ?_
  show J 11 [some (.int (s))] [.int (xch (xch s (nI 1) (nI 5)) (nI 2) (nI 4))] (bf_MD D)
  exact rt_i r dX9_mirrored_11 rfl rfl rfl rfl
theorem c_X9_turned {d : Nat} (hd : 2 ≤ d) (D : bf_D) (s : Int32) : bf_Cf d mX9_turned [.int (s)] D (some (.int (trn s))) D := by
  refine bf_Cf_of 1 hd mo_X9_turned (Nat.le_of_ble_eq_true rfl) (fun e he J r => ?_)
  show J 0 [some (.int (s))] [] (bf_MD D)
  refine bf_iload_n r.1 dX9_turned_0 rfl ?_
  refine bf_iconst r.1 (v := nI 0) dX9_turned_1 rfl ?_
  refine bf_iconst r.1 (v := nI 3) dX9_turned_2 rfl ?_
  refine cl_s r (y2 := mX9_exchanged) dX9_turned_3 li_X9_138 mv_X9_exchanged [.int (s), .int (nI 0), .int (nI 3)] [] rfl (Nat.le_of_ble_eq_true rfl) rfl (c_X9_exchanged (by omega) D _ _ _) ?_
  show J 6 [some (.int (s))] [.int (xch s (nI 0) (nI 3))] (bf_MD D)
  refine bf_iconst r.1 (v := nI 1) dX9_turned_6 rfl ?_
  refine bf_iconst r.1 (v := nI 2) dX9_turned_7 rfl ?_
  refine cl_s r (y2 := mX9_exchanged) dX9_turned_8 li_X9_138 mv_X9_exchanged [.int (xch s (nI 0) (nI 3)), .int (nI 1), .int (nI 2)] [] rfl (Nat.le_of_ble_eq_true rfl) rfl (c_X9_exchanged (by omega) D _ _ _) ?_
  show J 11 [some (.int (s))] [.int (xch (xch s (nI 0) (nI 3)) (nI 1) (nI 2))] (bf_MD D)
  refine bf_iconst r.1 (v := nI 4) dX9_turned_11 rfl ?_
  refine bf_iconst r.1 (v := nI 5) dX9_turned_12 rfl ?_
  refine cl_s r (y2 := mX9_exchanged) dX9_turned_13 li_X9_138 mv_X9_exchanged [.int (xch (xch s (nI 0) (nI 3)) (nI 1) (nI 2)), .int (nI 4), .int (nI 5)] [] rfl (Nat.le_of_ble_eq_true rfl) rfl (c_X9_exchanged (by omega) D _ _ _) ?_
  show J 16 [some (.int (s))] [.int (xch (xch (xch s (nI 0) (nI 3)) (nI 1) (nI 2)) (nI 4) (nI 5))] (bf_MD D)
  exact rt_i r dX9_turned_16 rfl rfl rfl rfl
theorem c_X9_faceOf {d : Nat} (hd : 3 ≤ d) (D : bf_D) {q x : Nat} (hq : q < 3) (hx : x < 10) : bf_Cf d mX9_faceOf [.int (nI q), .int (nI x)] D (some (.int (nI (bf_lk (q * 10 + x))))) D := by
  refine bf_Cf_of 2 hd mo_X9_faceOf (Nat.le_of_ble_eq_true rfl) (fun e he J r => ?_)
  show J 0 [some (.int (nI q)), some (.int (nI x)), none] [] (bf_MD D)
  refine bf_iload_n r.1 dX9_faceOf_0 rfl ?_
  refine cl_s r (y2 := mX9_figureOf) dX9_faceOf_1 li_X9_142 mv_X9_figureOf [.int (nI x)] [] rfl (Nat.le_of_ble_eq_true rfl) rfl (c_X9_figureOf (by omega) D (by omega)) ?_
  show J 4 [some (.int (nI q)), some (.int (nI x)), none] [.int (nI (bf_lk x))] (bf_MD D)
  refine bf_istore_n r.1 (L2 := [some (.int (nI q)), some (.int (nI x)), some (.int (nI (bf_lk x)))]) dX9_faceOf_4 rfl ?_
  refine bf_iload_n r.1 dX9_faceOf_5 rfl ?_
  refine nz_ne r (tgt := 13) dX9_faceOf_6 (by decide) (by omega) (fun c298 => ?_) (fun c298 => ?_)
  · refine bf_iload_n r.1 dX9_faceOf_13 rfl ?_
    refine bf_iconst r.1 (v := nI 1) dX9_faceOf_14 rfl ?_
    refine nc_ne r (tgt := 25) dX9_faceOf_15 (by decide) (by omega) (by decide) (fun c299 => ?_) (fun c299 => ?_)
    · refine bf_iload_n r.1 dX9_faceOf_25 rfl ?_
      refine cl_s r (y2 := mX9_mirrored) dX9_faceOf_26 li_X9_145 mv_X9_mirrored [.int (nI (bf_lk x))] [] rfl (Nat.le_of_ble_eq_true rfl) rfl (c_X9_mirrored (by omega) D _) ?_
      show J 29 [some (.int (nI q)), some (.int (nI x)), some (.int (nI (bf_lk x)))] [.int (mir (nI (bf_lk x)))] (bf_MD D)
      refine cl_s r (y2 := mX9_turned) dX9_faceOf_29 li_X9_148 mv_X9_turned [.int (mir (nI (bf_lk x)))] [] rfl (Nat.le_of_ble_eq_true rfl) rfl (c_X9_turned (by omega) D _) ?_
      show J 32 [some (.int (nI q)), some (.int (nI x)), some (.int (nI (bf_lk x)))] [.int (trn (mir (nI (bf_lk x))))] (bf_MD D)
      have eq : q = 2 := by omega
      subst eq
      exact rt_i r dX9_faceOf_32 rfl rfl (lk_2 ⟨x, hx⟩) rfl
    · refine bf_iload_n r.1 dX9_faceOf_18 rfl ?_
      refine cl_s r (y2 := mX9_mirrored) dX9_faceOf_19 li_X9_145 mv_X9_mirrored [.int (nI (bf_lk x))] [] rfl (Nat.le_of_ble_eq_true rfl) rfl (c_X9_mirrored (by omega) D _) ?_
      show J 22 [some (.int (nI q)), some (.int (nI x)), some (.int (nI (bf_lk x)))] [.int (mir (nI (bf_lk x)))] (bf_MD D)
      refine bf_goto r.1 (tgt := 32) dX9_faceOf_22 (by decide) ?_
      have eq : q = 1 := c299
      subst eq
      exact rt_i r dX9_faceOf_32 rfl rfl (lk_1 ⟨x, hx⟩) rfl
  · refine bf_iload_n r.1 dX9_faceOf_9 rfl ?_
    refine bf_goto r.1 (tgt := 32) dX9_faceOf_10 (by decide) ?_
    have eq : q = 0 := c298
    subst eq
    exact rt_i r dX9_faceOf_32 rfl rfl (congrArg nI (lk_0 ⟨x, hx⟩).symm) rfl
theorem c_X9_burnsAt {d : Nat} (hd : 4 ≤ d) {D : bf_D} {P : bf_Pn} (hv : vP P) (hm : mP D P) {k : Nat} (hk : k < pN P) {x : Nat} (hx : x < 10) : bf_Cf d mX9_burnsAt [.ref 37, .int (nI k), .int (nI x)] D (some (.int (nI (pB P k x)))) D := by
  refine bf_Cf_of 3 hd mo_X9_burnsAt (Nat.le_of_ble_eq_true rfl) (fun e he J r => ?_)
  show J 0 [some (.ref 37), some (.int (nI k)), some (.int (nI x))] [] (bf_MD D)
  have hn4 := hv.1
  have hx4 := pX_le hv
  have hx0 := pX_pos P
  refine bf_aload_n r.1 dX9_burnsAt_0 rfl ?_
  refine ig_ref r (b := 38) dX9_burnsAt_1 fl_X9_7 rfl (by decide) rfl ?_
  refine bf_iload_n r.1 dX9_burnsAt_4 rfl ?_
  refine ia_ld r (n := 4) (v := nI (pK P k)) dX9_burnsAt_5 rfl (by decide) (by omega) (mP_k (P := P) hm hk) ?_
  refine bf_iload_n r.1 dX9_burnsAt_6 rfl ?_
  refine cl_s r (y2 := mX9_faceOf) dX9_burnsAt_7 li_X9_151 mv_X9_faceOf [.int (nI (pK P k)), .int (nI x)] [] rfl (Nat.le_of_ble_eq_true rfl) rfl (c_X9_faceOf (by omega) D (vP_k hv hk) (by omega)) ?_
  show J 10 [some (.ref 37), some (.int (nI k)), some (.int (nI x))] [.int (nI (bf_lk ((pK P k) * 10 + x)))] (bf_MD D)
  refine bf_aload_n r.1 dX9_burnsAt_10 rfl ?_
  refine ig_ref r (b := 39) dX9_burnsAt_11 fl_X9_13 rfl (by decide) rfl ?_
  refine bf_iload_n r.1 dX9_burnsAt_14 rfl ?_
  refine ia_ld r (n := 4) (v := nI (pD P k)) dX9_burnsAt_15 rfl (by decide) (by omega) (mP_d (P := P) hm hk) ?_
  refine bf_iconst r.1 (v := -1) dX9_burnsAt_16 rfl ?_
  refine bf_ixor r.1 dX9_burnsAt_17 ?_
  refine bf_iand r.1 dX9_burnsAt_18 ?_
  refine eq_i (bf_nand (bf_lk_lt _) (vP_d hv hk)) ?_
  refine bf_aload_n r.1 dX9_burnsAt_19 rfl ?_
  refine ig_ref r (b := 40) dX9_burnsAt_20 fl_X9_16 rfl (by decide) rfl ?_
  refine bf_iload_n r.1 dX9_burnsAt_23 rfl ?_
  refine ia_ld r (n := 4) (v := nI (pT P k)) dX9_burnsAt_24 rfl (by decide) (by omega) (mP_t (P := P) hm hk) ?_
  refine na_or r dX9_burnsAt_25  ?_
  exact rt_i r dX9_burnsAt_26 rfl rfl rfl rfl
