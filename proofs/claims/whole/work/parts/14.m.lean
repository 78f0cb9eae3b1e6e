def bf_oN : Option Nat → Int32
  | some x => nI x
  | none => -9
/-- the a-th member of a set of digits, from j on -/
def bf_mbF (m : Nat) : Nat → Nat → Nat → Nat
  | 0, _, _ => 0
  | f + 1, j, a => if m / 2 ^ j &&& 1 = 0 then bf_mbF m f (j + 1) a else if a = 0 then j else bf_mbF m f (j + 1) (a - 1)
def bf_mb (m i : Nat) : Nat := bf_mbF m 10 0 i
theorem bf_and1 (x : Nat) : x &&& 1 = x % 2 := Nat.and_one_is_mod x
theorem bf_and1_lt (x : Nat) : x &&& 1 < 2 ^ 31 := by rw [bf_and1]; omega
theorem bf_tb0 (m j : Nat) : (m / 2 ^ j &&& 1 = 0) ↔ m.testBit j = false := by
  rw [bf_and1, Nat.testBit_eq_decide_div_mod_eq]
  have : m / 2 ^ j % 2 < 2 := Nat.mod_lt _ (by decide)
  simp
theorem c_X2_memberOf {d : Nat} (hd : 1 ≤ d) (D : bf_D) {mm i : Nat} (hm : mm < 1024) (hi : i < 2 ^ 31) : bf_Cf d mX2_memberOf [.int (nI mm), .int (nI i)] D (some (.int (nI (bf_mb mm i)))) D := by
  refine bf_Cf_of 0 hd mo_X2_memberOf (Nat.le_of_ble_eq_true rfl) (fun e he J r => ?_)
  show J 0 [some (.int (nI mm)), some (.int (nI i)), none, none] [] (bf_MD D)
  refine bf_iload_n r.1 dX2_memberOf_0 rfl ?_
  refine bf_istore_n r.1 (L2 := [some (.int (nI mm)), some (.int (nI i)), some (.int (nI i)), none]) dX2_memberOf_1 rfl ?_
  refine bf_iconst r.1 (v := nI 0) dX2_memberOf_2 rfl ?_
  refine bf_istore_n r.1 (L2 := [some (.int (nI mm)), some (.int (nI i)), some (.int (nI i)), some (.int (nI 0))]) dX2_memberOf_3 rfl ?_
  have loop : ∀ (f j a : Nat), j + f = 10 → a < 2 ^ 31 → nI (bf_mbF mm f j a) = nI (bf_mb mm i) → J 4 [some (.int (nI mm)), some (.int (nI i)), some (.int (nI a)), some (.int (nI j))] [] (bf_MD D) := by
    intro f
    induction f with
    | zero =>
      intro j a hs0 hs1 he
      refine bf_iload_n r.1 dX2_memberOf_4 rfl ?_
      refine bf_bipush r.1 (v := nI 10) dX2_memberOf_5 rfl ?_
      refine nc_ge r (tgt := 33) dX2_memberOf_7 (by decide) (by omega) (by decide) (fun c27 => ?_) (fun c27 => ?_)
      · refine bf_iconst r.1 (v := nI 0) dX2_memberOf_33 rfl ?_
        exact rt_i r dX2_memberOf_34 rfl rfl he rfl
      · exact absurd c27 (by omega)
    | succ f ih =>
      intro j a hs0 hs1 he
      refine bf_iload_n r.1 dX2_memberOf_4 rfl ?_
      refine bf_bipush r.1 (v := nI 10) dX2_memberOf_5 rfl ?_
      refine nc_ge r (tgt := 33) dX2_memberOf_7 (by decide) (by omega) (by decide) (fun c28 => ?_) (fun c28 => ?_)
      · exact absurd c28 (by omega)
      · refine bf_iload_n r.1 dX2_memberOf_10 rfl ?_
        refine bf_iload_n r.1 dX2_memberOf_11 rfl ?_
        refine na_shr r dX2_memberOf_12 (by omega) (by omega) ?_
        refine bf_iconst r.1 (v := nI 1) dX2_memberOf_13 rfl ?_
        refine na_and r dX2_memberOf_14  ?_
        refine nz_eq r (tgt := 27) dX2_memberOf_15 (by decide) (bf_and1_lt _) (fun c29 => ?_) (fun c29 => ?_)
        · refine na_inc r (v := j + 1) (L2 := [some (.int (nI mm)), some (.int (nI i)), some (.int (nI a)), some (.int (nI (j + 1)))]) dX2_memberOf_27 rfl (nI_add _ 1) rfl ?_
          refine bf_goto r.1 (tgt := 4) dX2_memberOf_30 (by decide) ?_
          exact ih _ _ (by omega) hs1 (by rw [← he]; simp only [bf_mbF, if_pos c29])
        · refine bf_iload_n r.1 dX2_memberOf_18 rfl ?_
          refine nz_ne r (tgt := 24) dX2_memberOf_19 (by decide) hs1 (fun c30 => ?_) (fun c30 => ?_)
          · refine na_inc r (v := a - 1) (L2 := [some (.int (nI mm)), some (.int (nI i)), some (.int (nI (a - 1))), some (.int (nI j))]) dX2_memberOf_24 rfl (bf_dec (by omega)) rfl ?_
            refine na_inc r (v := j + 1) (L2 := [some (.int (nI mm)), some (.int (nI i)), some (.int (nI (a - 1))), some (.int (nI (j + 1)))]) dX2_memberOf_27 rfl (nI_add _ 1) rfl ?_
            refine bf_goto r.1 (tgt := 4) dX2_memberOf_30 (by decide) ?_
            exact ih _ _ (by omega) (by omega) (by rw [← he]; simp only [bf_mbF, if_neg c29, if_neg c30])
          · refine bf_iload_n r.1 dX2_memberOf_22 rfl ?_
            exact rt_i r dX2_memberOf_23 rfl rfl (by rw [← he]; simp only [bf_mbF, if_neg c29, if_pos c30]) rfl
  exact loop 10 0 i rfl hi rfl
theorem bf_pc_pos_of {x j : Nat} (hx : x < 1024) (h : x.testBit j = true) : 1 ≤ bf_pc x := by
  have key : ∀ x : Fin 1024, bf_pc x.val = 0 → x.val = 0 := by decide +kernel
  rcases Nat.eq_zero_or_pos (bf_pc x) with h0 | h0
  · have := key ⟨x, hx⟩ h0
    simp only at this
    rw [this] at h
    simp at h
  · exact h0
theorem pM_self {P : bf_Pn} {k d : Nat} (hd : d < 10) : (pM P k (pB P k d)).testBit d = true := by rw [pM_bit]; simp [hd]
/-- how many digits look as that of u at k; which digits -/
def pC (P : bf_Pn) (u k : Nat) : Nat := bf_pc (pM P k (pB P k (pG P u k)))
theorem pC_pos (P : bf_Pn) (u k : Nat) : 1 ≤ pC P u k := bf_pc_pos_of (pM_lt _ _ _) (pM_self (pG_lt P u k))
theorem pC_le (P : bf_Pn) (u k : Nat) : pC P u k ≤ 10 := bf_pc_le _
/-- the i-th number that looks as u, from the place below k on -/
def pNa (P : bf_Pn) (u : Nat) : Nat → Nat → Nat → Nat → Option Nat
  | 0, nn, _, a => if a = 0 then some nn else none
  | k + 1, nn, ww, a => pNa P u k (nn + ww * bf_mb (pM P k (pB P k (pG P u k))) (a % pC P u k)) (ww * 10) (a / pC P u k)
theorem c_X2_numberAlike {d : Nat} (hd : 5 ≤ d) {D : bf_D} {P : bf_Pn} (hv : vP P) (hc : cP D P) (h1 : 1 ≤ pN P) {u i : Nat} (hu : u < 2 ^ 31) (hi : i < 2 ^ 31) : bf_Cf d mX2_numberAlike [.ref 2, .int (nI u), .int (nI i)] D (some (.int (bf_oN (pNa P u (pN P) 0 1 i)))) D := by
  refine bf_Cf_of 4 hd mo_X2_numberAlike (Nat.le_of_ble_eq_true rfl) (fun e he J r => ?_)
  show J 0 [some (.ref 2), some (.int (nI u)), some (.int (nI i)), none, none, none, none, none, none] [] (bf_MD D)
  have hn4 := hv.1
  have hx4 := pX_le hv
  have hx0 := pX_pos P
  refine bf_iconst r.1 (v := nI 0) dX2_numberAlike_0 rfl ?_
  refine bf_istore_n r.1 (L2 := [some (.ref 2), some (.int (nI u)), some (.int (nI i)), some (.int (nI 0)), none, none, none, none, none]) dX2_numberAlike_1 rfl ?_
  refine bf_iconst r.1 (v := nI 1) dX2_numberAlike_2 rfl ?_
  refine bf_istore r.1 (L2 := [some (.ref 2), some (.int (nI u)), some (.int (nI i)), some (.int (nI 0)), some (.int (nI 1)), none, none, none, none]) dX2_numberAlike_3 rfl ?_
  refine bf_iload_n r.1 dX2_numberAlike_5 rfl ?_
  refine bf_istore r.1 (L2 := [some (.ref 2), some (.int (nI u)), some (.int (nI i)), some (.int (nI 0)), some (.int (nI 1)), some (.int (nI i)), none, none, none]) dX2_numberAlike_6 rfl ?_
  refine bf_aload_n r.1 dX2_numberAlike_8 rfl ?_
  refine ig_int r (v := nI (pN P)) dX2_numberAlike_9 fl_X2_32 rfl (by decide) rfl (cP_n (P := P) hc) ?_
  refine bf_iconst r.1 (v := nI 1) dX2_numberAlike_12 rfl ?_
  refine na_sub r dX2_numberAlike_13 (by omega) ?_
  refine bf_istore r.1 (L2 := [some (.ref 2), some (.int (nI u)), some (.int (nI i)), some (.int (nI 0)), some (.int (nI 1)), some (.int (nI i)), some (.int (nI (pN P - 1))), none, none]) dX2_numberAlike_14 rfl ?_
  rw [show nI (pN P - 1) = nI (pN P) + Int32.ofInt (-1) from (bf_dec (by omega)).symm]
  have loop : ∀ (k nn ww a : Nat), k ≤ pN P → a < 2 ^ 31 → bf_oN (pNa P u k nn ww a) = bf_oN (pNa P u (pN P) 0 1 i) → J 16 [some (.ref 2), some (.int (nI u)), some (.int (nI i)), some (.int (nI nn)), some (.int (nI ww)), some (.int (nI a)), some (.int (nI k + Int32.ofInt (-1))), none, none] [] (bf_MD D) := by
    intro k
    induction k with
    | zero =>
      intro nn ww a hs0 hs1 he
      rw [bf_m0]
      refine bf_iload r.1 dX2_numberAlike_16 rfl ?_
      refine bf_if_lt r.1 (tgt := 88) dX2_numberAlike_18 (by decide) (fun c31 => ?_) (fun c31 => ?_)
      · refine bf_iload r.1 dX2_numberAlike_88 rfl ?_
        refine nz_ne r (tgt := 97) dX2_numberAlike_90 (by decide) hs1 (fun c32 => ?_) (fun c32 => ?_)
        · refine bf_bipush r.1 (v := -9) dX2_numberAlike_97 rfl ?_
          exact rt_i r dX2_numberAlike_99 rfl rfl (by rw [← he]; simp only [pNa, if_neg c32]; rfl) rfl
        · refine bf_iload_n r.1 dX2_numberAlike_93 rfl ?_
          refine bf_goto r.1 (tgt := 99) dX2_numberAlike_94 (by decide) ?_
          exact rt_i r dX2_numberAlike_99 rfl rfl (by rw [← he]; simp only [pNa, if_pos c32]; rfl) rfl
      · exact absurd (by decide) c31
    | succ k ih =>
      intro nn ww a hs0 hs1 he
      rw [bf_ms1]
      have hk : k < pN P := hs0
      have hC := pC_pos P u k
      have hC9 := pC_le P u k
      have hm1 : a % pC P u k < 2 ^ 31 := Nat.lt_of_le_of_lt (Nat.mod_le _ _) hs1
      have hm2 : a / pC P u k < 2 ^ 31 := Nat.lt_of_le_of_lt (Nat.div_le_self _ _) hs1
      refine bf_iload r.1 dX2_numberAlike_16 rfl ?_
      refine nz_lt r (tgt := 88) dX2_numberAlike_18 (by decide) (by omega) (fun c33 => ?_) (fun c33 => ?_)
      · exact absurd c33 (Nat.not_lt_zero _)
      · refine bf_aload_n r.1 dX2_numberAlike_21 rfl ?_
        refine bf_iload r.1 dX2_numberAlike_22 rfl ?_
        refine bf_aload_n r.1 dX2_numberAlike_24 rfl ?_
        refine bf_iload_n r.1 dX2_numberAlike_25 rfl ?_
        refine bf_iload r.1 dX2_numberAlike_26 rfl ?_
        refine cl_v r (y2 := mX2_digitOf) dX2_numberAlike_28 li_X2_54 mv_X2_digitOf rfl (by decide) [.int (nI u), .int (nI k)] [.int (nI k), .ref 2] rfl (Nat.le_of_ble_eq_true rfl) rfl (c_X2_digitOf (by omega) hv hc hu hk) ?_
        show J 31 [some (.ref 2), some (.int (nI u)), some (.int (nI i)), some (.int (nI nn)), some (.int (nI ww)), some (.int (nI a)), some (.int (nI k)), none, none] [.int (nI (pG P u k)), .int (nI k), .ref 2] (bf_MD D)
        refine cl_v r (y2 := mX2_digitsAlike) dX2_numberAlike_31 li_X2_77 mv_X2_digitsAlike rfl (by decide) [.int (nI k), .int (nI (pG P u k))] [] rfl (Nat.le_of_ble_eq_true rfl) rfl (c_X2_digitsAlike (by omega) hv hc hk (pG_lt P u k)) ?_
        show J 34 [some (.ref 2), some (.int (nI u)), some (.int (nI i)), some (.int (nI nn)), some (.int (nI ww)), some (.int (nI a)), some (.int (nI k)), none, none] [.int (nI (pM P k (pB P k (pG P u k))))] (bf_MD D)
        refine bf_istore r.1 (L2 := [some (.ref 2), some (.int (nI u)), some (.int (nI i)), some (.int (nI nn)), some (.int (nI ww)), some (.int (nI a)), some (.int (nI k)), some (.int (nI (pM P k (pB P k (pG P u k))))), none]) dX2_numberAlike_34 rfl ?_
        refine bf_iload r.1 dX2_numberAlike_36 rfl ?_
        refine cl_s r (y2 := mJ6_bitCount_0f7a4) dX2_numberAlike_38 li_X2_48 mv_J6_bitCount_0f7a4 [.int (nI (pM P k (pB P k (pG P u k))))] [] rfl (Nat.le_of_ble_eq_true rfl) rfl (c_J6_bitCount (by omega) D (pM_lt _ _ _)) ?_
        show J 41 [some (.ref 2), some (.int (nI u)), some (.int (nI i)), some (.int (nI nn)), some (.int (nI ww)), some (.int (nI a)), some (.int (nI k)), some (.int (nI (pM P k (pB P k (pG P u k))))), none] [.int (nI (bf_pc (pM P k (pB P k (pG P u k)))))] (bf_MD D)
        refine bf_istore r.1 (L2 := [some (.ref 2), some (.int (nI u)), some (.int (nI i)), some (.int (nI nn)), some (.int (nI ww)), some (.int (nI a)), some (.int (nI k)), some (.int (nI (pM P k (pB P k (pG P u k))))), some (.int (nI (bf_pc (pM P k (pB P k (pG P u k))))))]) dX2_numberAlike_41 rfl ?_
        refine bf_iload r.1 dX2_numberAlike_43 rfl ?_
        refine bf_iconst r.1 (v := nI 1) dX2_numberAlike_45 rfl ?_
        refine nc_ge r (tgt := 52) dX2_numberAlike_46 (by decide) (show pC P u k < 2 ^ 31 by omega) (by decide) (fun c34 => ?_) (fun c34 => ?_)
        · refine bf_iload_n r.1 dX2_numberAlike_52 rfl ?_
          refine bf_iload r.1 dX2_numberAlike_53 rfl ?_
          refine bf_iload r.1 dX2_numberAlike_55 rfl ?_
          refine bf_iload r.1 dX2_numberAlike_57 rfl ?_
          refine bf_iload r.1 dX2_numberAlike_59 rfl ?_
          refine na_rem r dX2_numberAlike_61 hs1 hC (show pC P u k < 2 ^ 31 by omega) ?_
          refine cl_s r (y2 := mX2_memberOf) dX2_numberAlike_62 li_X2_83 mv_X2_memberOf [.int (nI (pM P k (pB P k (pG P u k)))), .int (nI (a % (bf_pc (pM P k (pB P k (pG P u k))))))] [.int (nI ww), .int (nI nn)] rfl (Nat.le_of_ble_eq_true rfl) rfl (c_X2_memberOf (by omega) D (pM_lt _ _ _) hm1) ?_
          show J 65 [some (.ref 2), some (.int (nI u)), some (.int (nI i)), some (.int (nI nn)), some (.int (nI ww)), some (.int (nI a)), some (.int (nI k)), some (.int (nI (pM P k (pB P k (pG P u k))))), some (.int (nI (bf_pc (pM P k (pB P k (pG P u k))))))] [.int (nI (bf_mb (pM P k (pB P k (pG P u k))) (a % (bf_pc (pM P k (pB P k (pG P u k))))))), .int (nI ww), .int (nI nn)] (bf_MD D)
          refine na_mul r dX2_numberAlike_65  ?_
          refine na_add r dX2_numberAlike_66  ?_
          refine bf_istore_n r.1 (L2 := [some (.ref 2), some (.int (nI u)), some (.int (nI i)), some (.int (nI (nn + (ww * (bf_mb (pM P k (pB P k (pG P u k))) (a % (bf_pc (pM P k (pB P k (pG P u k)))))))))), some (.int (nI ww)), some (.int (nI a)), some (.int (nI k)), some (.int (nI (pM P k (pB P k (pG P u k))))), some (.int (nI (bf_pc (pM P k (pB P k (pG P u k))))))]) dX2_numberAlike_67 rfl ?_
          refine bf_iload r.1 dX2_numberAlike_68 rfl ?_
          refine bf_iload r.1 dX2_numberAlike_70 rfl ?_
          refine na_div r dX2_numberAlike_72 hs1 hC (show pC P u k < 2 ^ 31 by omega) ?_
          refine bf_istore r.1 (L2 := [some (.ref 2), some (.int (nI u)), some (.int (nI i)), some (.int (nI (nn + (ww * (bf_mb (pM P k (pB P k (pG P u k))) (a % (bf_pc (pM P k (pB P k (pG P u k)))))))))), some (.int (nI ww)), some (.int (nI (a / (bf_pc (pM P k (pB P k (pG P u k))))))), some (.int (nI k)), some (.int (nI (pM P k (pB P k (pG P u k))))), some (.int (nI (bf_pc (pM P k (pB P k (pG P u k))))))]) dX2_numberAlike_73 rfl ?_
          refine bf_iload r.1 dX2_numberAlike_75 rfl ?_
          refine bf_bipush r.1 (v := nI 10) dX2_numberAlike_77 rfl ?_
          refine na_mul r dX2_numberAlike_79  ?_
          refine bf_istore r.1 (L2 := [some (.ref 2), some (.int (nI u)), some (.int (nI i)), some (.int (nI (nn + (ww * (bf_mb (pM P k (pB P k (pG P u k))) (a % (bf_pc (pM P k (pB P k (pG P u k)))))))))), some (.int (nI (ww * 10))), some (.int (nI (a / (bf_pc (pM P k (pB P k (pG P u k))))))), some (.int (nI k)), some (.int (nI (pM P k (pB P k (pG P u k))))), some (.int (nI (bf_pc (pM P k (pB P k (pG P u k))))))]) dX2_numberAlike_80 rfl ?_
          refine bf_iinc r.1 (v := nI k + Int32.ofInt (-1)) (L2 := [some (.ref 2), some (.int (nI u)), some (.int (nI i)), some (.int (nI (nn + (ww * (bf_mb (pM P k (pB P k (pG P u k))) (a % (bf_pc (pM P k (pB P k (pG P u k)))))))))), some (.int (nI (ww * 10))), some (.int (nI (a / (bf_pc (pM P k (pB P k (pG P u k))))))), some (.int (nI k + Int32.ofInt (-1))), some (.int (nI (pM P k (pB P k (pG P u k))))), some (.int (nI (bf_pc (pM P k (pB P k (pG P u k))))))]) dX2_numberAlike_82 rfl rfl rfl ?_
          refine bf_goto r.1 (tgt := 16) dX2_numberAlike_85 (by decide) ?_
          refine bf_fgt r.1 (i := 7) (L2 := [some (.ref 2), some (.int (nI u)), some (.int (nI i)), some (.int (nI (nn + (ww * (bf_mb (pM P k (pB P k (pG P u k))) (a % (bf_pc (pM P k (pB P k (pG P u k)))))))))), some (.int (nI (ww * 10))), some (.int (nI (a / (bf_pc (pM P k (pB P k (pG P u k))))))), some (.int (nI k + Int32.ofInt (-1))), none, some (.int (nI (bf_pc (pM P k (pB P k (pG P u k))))))]) rfl ?_
          refine bf_fgt r.1 (i := 8) (L2 := [some (.ref 2), some (.int (nI u)), some (.int (nI i)), some (.int (nI (nn + (ww * (bf_mb (pM P k (pB P k (pG P u k))) (a % (bf_pc (pM P k (pB P k (pG P u k)))))))))), some (.int (nI (ww * 10))), some (.int (nI (a / (bf_pc (pM P k (pB P k (pG P u k))))))), some (.int (nI k + Int32.ofInt (-1))), none, none]) rfl ?_
          exact ih _ _ _ (by omega) hm2 he
        · exact absurd (show bf_pc _ < 1 from c34) (Nat.not_lt.mpr hC)
  exact loop (pN P) 0 1 i (Nat.le_refl _) hi rfl
/-- behind which step a bar dies, from a wear and a number on -/
def pSd (P : bf_Pn) (k b : Nat) : Nat → Nat → Nat → Nat → Option Nat
  | 0, _, _, _ => none
  | f + 1, st, ww, u => if pL P ≤ ww + ((pB P k (pG P u k) ^^^ pB P k (pG P (pNx P u) k)) / 2 ^ b &&& 1) then some st else pSd P k b f (st + 1) (ww + ((pB P k (pG P u k) ^^^ pB P k (pG P (pNx P u) k)) / 2 ^ b &&& 1)) (pNx P u)
theorem pNx_lt (P : bf_Pn) (u : Nat) : pNx P u < pX P := by
  have := pX_pos P
  unfold pNx
  split <;> omega
theorem c_X2_stepsToDeath {d : Nat} (hd : 3 ≤ d) {D : bf_D} {P : bf_Pn} (hv : vP P) (hc : cP D P) {k b lim : Nat} (hk : k < pN P) (hb : b < 7) (hlim : lim ≤ 1000) : bf_Cf d mX2_stepsToDeath [.ref 2, .int (nI k), .int (nI b), .int (nI lim)] D (some (.int (bf_oN (if (pD P k ||| pT P k) / 2 ^ b &&& 1 = 0 then pSd P k b lim 1 (pW P k b) (pS P) else none)))) D := by
  refine bf_Cf_of 2 hd mo_X2_stepsToDeath (Nat.le_of_ble_eq_true rfl) (fun e he J r => ?_)
  show J 0 [some (.ref 2), some (.int (nI k)), some (.int (nI b)), some (.int (nI lim)), none, none, none, none, none, none] [] (bf_MD D)
  have hn4 := hv.1
  have hx4 := pX_le hv
  have hx0 := pX_pos P
  have hsS := hv.2.2.2.1
  have hL9 := hv.2.1
  have hdt : pD P k ||| pT P k < 2 ^ 31 := bf_lt31 (Nat.or_lt_two_pow (n := 7) (vP_d hv hk) (vP_t hv hk)) (by decide)
  refine bf_aload_n r.1 dX2_stepsToDeath_0 rfl ?_
  refine ig_ref r (b := 3) dX2_stepsToDeath_1 fl_X2_11 rfl (by decide) rfl ?_
  refine bf_iload_n r.1 dX2_stepsToDeath_4 rfl ?_
  refine aa_ld r (n := 4) (b := 6 + 3 * k) dX2_stepsToDeath_5 (by decide) rfl (by decide) (Nat.lt_of_lt_of_le hk hn4) (ad_a3 (Nat.lt_of_lt_of_le hk hn4)) ?_
  refine bf_astore r.1 (L2 := [some (.ref 2), some (.int (nI k)), some (.int (nI b)), some (.int (nI lim)), some (.ref (6 + 3 * k)), none, none, none, none, none]) dX2_stepsToDeath_6 rfl ?_
  refine bf_aload r.1 dX2_stepsToDeath_8 rfl ?_
  refine ig_int r (v := nI (pD P k)) dX2_stepsToDeath_10 fl_X2_45 (ad_c6 (Nat.lt_of_lt_of_le hk hn4)) (ad_l6 (Nat.lt_of_lt_of_le hk hn4)) (ad_i6 (Nat.lt_of_lt_of_le hk hn4) 4 (by decide)) (cP_d (P := P) hc hk) ?_
  refine bf_aload r.1 dX2_stepsToDeath_13 rfl ?_
  refine ig_int r (v := nI (pT P k)) dX2_stepsToDeath_15 fl_X2_70 (ad_c6 (Nat.lt_of_lt_of_le hk hn4)) (ad_l6 (Nat.lt_of_lt_of_le hk hn4)) (ad_i6 (Nat.lt_of_lt_of_le hk hn4) 5 (by decide)) (cP_t (P := P) hc hk) ?_
  refine na_or r dX2_stepsToDeath_18  ?_
  refine bf_iload_n r.1 dX2_stepsToDeath_19 rfl ?_
  refine na_shr r dX2_stepsToDeath_20 (by omega) hdt ?_
  refine bf_iconst r.1 (v := nI 1) dX2_stepsToDeath_21 rfl ?_
  refine na_and r dX2_stepsToDeath_22  ?_
  refine nz_eq r (tgt := 29) dX2_stepsToDeath_23 (by decide) (bf_and1_lt _) (fun c35 => ?_) (fun c35 => ?_)
  · refine bf_aload r.1 dX2_stepsToDeath_29 rfl ?_
    refine ig_ref r (b := (8 + 3 * k)) dX2_stepsToDeath_31 fl_X2_73 (ad_c6 (Nat.lt_of_lt_of_le hk hn4)) (ad_l6 (Nat.lt_of_lt_of_le hk hn4)) (ad_r6_2 (Nat.lt_of_lt_of_le hk hn4)) ?_
    refine bf_iload_n r.1 dX2_stepsToDeath_34 rfl ?_
    refine ia_ld r (n := 7) (v := nI (pW P k b)) dX2_stepsToDeath_35 (ad_k8 (Nat.lt_of_lt_of_le hk hn4)) (ad_l8 (Nat.lt_of_lt_of_le hk hn4)) (by omega) (cP_w (P := P) hc hk (by omega)) ?_
    refine bf_istore r.1 (L2 := [some (.ref 2), some (.int (nI k)), some (.int (nI b)), some (.int (nI lim)), some (.ref (6 + 3 * k)), some (.int (nI (pW P k b))), none, none, none, none]) dX2_stepsToDeath_36 rfl ?_
    refine bf_aload_n r.1 dX2_stepsToDeath_38 rfl ?_
    refine ig_int r (v := nI (pS P)) dX2_stepsToDeath_39 fl_X2_39 rfl (by decide) rfl (cP_s (P := P) hc) ?_
    refine bf_istore r.1 (L2 := [some (.ref 2), some (.int (nI k)), some (.int (nI b)), some (.int (nI lim)), some (.ref (6 + 3 * k)), some (.int (nI (pW P k b))), some (.int (nI (pS P))), none, none, none]) dX2_stepsToDeath_42 rfl ?_
    refine bf_aload_n r.1 dX2_stepsToDeath_44 rfl ?_
    refine bf_iload r.1 dX2_stepsToDeath_45 rfl ?_
    refine bf_iload_n r.1 dX2_stepsToDeath_47 rfl ?_
    refine cl_v r (y2 := mX2_digitOf) dX2_stepsToDeath_48 li_X2_54 mv_X2_digitOf rfl (by decide) [.int (nI (pS P)), .int (nI k)] [] rfl (Nat.le_of_ble_eq_true rfl) rfl (c_X2_digitOf (by omega) hv hc (by omega) hk) ?_
    show J 51 [some (.ref 2), some (.int (nI k)), some (.int (nI b)), some (.int (nI lim)), some (.ref (6 + 3 * k)), some (.int (nI (pW P k b))), some (.int (nI (pS P))), none, none, none] [.int (nI (pG P (pS P) k))] (bf_MD D)
    refine bf_istore r.1 (L2 := [some (.ref 2), some (.int (nI k)), some (.int (nI b)), some (.int (nI lim)), some (.ref (6 + 3 * k)), some (.int (nI (pW P k b))), some (.int (nI (pS P))), some (.int (nI (pG P (pS P) k))), none, none]) dX2_stepsToDeath_51 rfl ?_
    refine bf_iconst r.1 (v := nI 1) dX2_stepsToDeath_53 rfl ?_
    refine bf_istore r.1 (L2 := [some (.ref 2), some (.int (nI k)), some (.int (nI b)), some (.int (nI lim)), some (.ref (6 + 3 * k)), some (.int (nI (pW P k b))), some (.int (nI (pS P))), some (.int (nI (pG P (pS P) k))), some (.int (nI 1)), none]) dX2_stepsToDeath_54 rfl ?_
    have loop : ∀ (f st ww u : Nat), st + f = lim + 1 → u < 2 ^ 30 → ww + f ≤ 2000 → bf_oN (pSd P k b f st ww u) = bf_oN (if (pD P k ||| pT P k) / 2 ^ b &&& 1 = 0 then pSd P k b lim 1 (pW P k b) (pS P) else none) → J 56 [some (.ref 2), some (.int (nI k)), some (.int (nI b)), some (.int (nI lim)), some (.ref (6 + 3 * k)), some (.int (nI ww)), some (.int (nI u)), some (.int (nI (pG P u k))), some (.int (nI st)), none] [] (bf_MD D) := by
      intro f
      induction f with
      | zero =>
        intro st ww u hs0 hs1 hs2 he
        refine bf_iload r.1 dX2_stepsToDeath_56 rfl ?_
        refine bf_iload_n r.1 dX2_stepsToDeath_58 rfl ?_
        refine nc_gt r (tgt := 132) dX2_stepsToDeath_59 (by decide) (by omega) (by omega) (fun c36 => ?_) (fun c36 => ?_)
        · refine bf_bipush r.1 (v := -9) dX2_stepsToDeath_132 rfl ?_
          exact rt_i r dX2_stepsToDeath_134 rfl rfl he rfl
        · exact absurd c36 (by omega)
      | succ f ih =>
        intro st ww u hs0 hs1 hs2 he
        have hx1 : (pB P k (pG P u k) ^^^ pB P k (pG P (pNx P u) k)) / 2 ^ b &&& 1 ≤ 1 := by rw [bf_and1]; omega
        have hww : ww + ((pB P k (pG P u k) ^^^ pB P k (pG P (pNx P u) k)) / 2 ^ b &&& 1) < 2 ^ 31 := by omega
        refine bf_iload r.1 dX2_stepsToDeath_56 rfl ?_
        refine bf_iload_n r.1 dX2_stepsToDeath_58 rfl ?_
        refine nc_gt r (tgt := 132) dX2_stepsToDeath_59 (by decide) (by omega) (by omega) (fun c37 => ?_) (fun c37 => ?_)
        · exact absurd c37 (by omega)
        · refine bf_aload_n r.1 dX2_stepsToDeath_62 rfl ?_
          refine bf_iload r.1 dX2_stepsToDeath_63 rfl ?_
          refine cl_v r (y2 := mX2_numberAfter) dX2_stepsToDeath_65 li_X2_67 mv_X2_numberAfter rfl (by decide) [.int (nI u)] [] rfl (Nat.le_of_ble_eq_true rfl) rfl (c_X2_numberAfter (by omega) hv (cP_x (P := P) hc) (show u < 2 ^ 31 by omega)) ?_
          show J 68 [some (.ref 2), some (.int (nI k)), some (.int (nI b)), some (.int (nI lim)), some (.ref (6 + 3 * k)), some (.int (nI ww)), some (.int (nI u)), some (.int (nI (pG P u k))), some (.int (nI st)), none] [.int (nI (pNx P u))] (bf_MD D)
          refine bf_istore r.1 (L2 := [some (.ref 2), some (.int (nI k)), some (.int (nI b)), some (.int (nI lim)), some (.ref (6 + 3 * k)), some (.int (nI ww)), some (.int (nI (pNx P u))), some (.int (nI (pG P u k))), some (.int (nI st)), none]) dX2_stepsToDeath_68 rfl ?_
          refine bf_aload_n r.1 dX2_stepsToDeath_70 rfl ?_
          refine bf_iload r.1 dX2_stepsToDeath_71 rfl ?_
          refine bf_iload_n r.1 dX2_stepsToDeath_73 rfl ?_
          refine cl_v r (y2 := mX2_digitOf) dX2_stepsToDeath_74 li_X2_54 mv_X2_digitOf rfl (by decide) [.int (nI (pNx P u)), .int (nI k)] [] rfl (Nat.le_of_ble_eq_true rfl) rfl (c_X2_digitOf (by omega) hv hc (show pNx P u < 2 ^ 31 by have := pNx_lt P u; omega) hk) ?_
          show J 77 [some (.ref 2), some (.int (nI k)), some (.int (nI b)), some (.int (nI lim)), some (.ref (6 + 3 * k)), some (.int (nI ww)), some (.int (nI (pNx P u))), some (.int (nI (pG P u k))), some (.int (nI st)), none] [.int (nI (pG P (pNx P u) k))] (bf_MD D)
          refine bf_istore r.1 (L2 := [some (.ref 2), some (.int (nI k)), some (.int (nI b)), some (.int (nI lim)), some (.ref (6 + 3 * k)), some (.int (nI ww)), some (.int (nI (pNx P u))), some (.int (nI (pG P u k))), some (.int (nI st)), some (.int (nI (pG P (pNx P u) k)))]) dX2_stepsToDeath_77 rfl ?_
          refine bf_iload r.1 dX2_stepsToDeath_79 rfl ?_
          refine bf_iload r.1 dX2_stepsToDeath_81 rfl ?_
          refine nc_eq r (tgt := 114) dX2_stepsToDeath_83 (by decide) (bf_lt31 (pG_lt P _ k) (by decide)) (bf_lt31 (pG_lt P u k) (by decide)) (fun c38 => ?_) (fun c38 => ?_)
          · have hz : (pB P k (pG P u k) ^^^ pB P k (pG P (pNx P u) k)) / 2 ^ b &&& 1 = 0 := by rw [c38, Nat.xor_self, Nat.zero_div]; rfl
            refine bf_fgt r.1 (i := 9) (L2 := [some (.ref 2), some (.int (nI k)), some (.int (nI b)), some (.int (nI lim)), some (.ref (6 + 3 * k)), some (.int (nI ww)), some (.int (nI (pNx P u))), some (.int (nI (pG P u k))), some (.int (nI st)), none]) rfl ?_
            rw [show nI ww = nI (ww + ((pB P k (pG P u k) ^^^ pB P k (pG P (pNx P u) k)) / 2 ^ b &&& 1)) from by rw [hz]; rfl]
            rw [show nI (pG P u k) = nI (pG P (pNx P u) k) from by rw [c38]]
            refine bf_iload r.1 dX2_stepsToDeath_114 rfl ?_
            refine bf_aload_n r.1 dX2_stepsToDeath_116 rfl ?_
            refine ig_int r (v := nI (pL P)) dX2_stepsToDeath_117 fl_X2_36 rfl (by decide) rfl (cP_l (P := P) hc) ?_
            refine nc_lt r (tgt := 126) dX2_stepsToDeath_120 (by decide) hww (by omega) (fun c39 => ?_) (fun c39 => ?_)
            · refine na_inc r (v := st + 1) (L2 := [some (.ref 2), some (.int (nI k)), some (.int (nI b)), some (.int (nI lim)), some (.ref (6 + 3 * k)), some (.int (nI (ww + ((pB P k (pG P u k) ^^^ pB P k (pG P (pNx P u) k)) / 2 ^ b &&& 1)))), some (.int (nI (pNx P u))), some (.int (nI (pG P (pNx P u) k))), some (.int (nI (st + 1))), none]) dX2_stepsToDeath_126 rfl (nI_add _ 1) rfl ?_
              refine bf_goto r.1 (tgt := 56) dX2_stepsToDeath_129 (by decide) ?_
              exact ih _ _ _ (by omega) (by have := pNx_lt P u; omega) (by omega) (by rw [← he]; simp only [pSd]; rw [if_neg (Nat.not_le.mpr c39)])
            · refine bf_iload r.1 dX2_stepsToDeath_123 rfl ?_
              exact rt_i r dX2_stepsToDeath_125 rfl rfl (by rw [← he]; simp only [pSd]; rw [if_pos c39]; rfl) rfl
          · refine bf_iload r.1 dX2_stepsToDeath_86 rfl ?_
            refine bf_aload r.1 dX2_stepsToDeath_88 rfl ?_
            refine bf_iload r.1 dX2_stepsToDeath_90 rfl ?_
            refine cl_v r (y2 := mX3_lit) dX2_stepsToDeath_92 li_X2_57 mv_X3_lit (ad_c6 (Nat.lt_of_lt_of_le hk hn4)) (ad_l6 (Nat.lt_of_lt_of_le hk hn4)) [.int (nI (pG P u k))] [.int (nI ww)] rfl (Nat.le_of_ble_eq_true rfl) rfl (c_X3_lit (by omega) hv hc hk (pG_lt P u k)) ?_
            show J 95 [some (.ref 2), some (.int (nI k)), some (.int (nI b)), some (.int (nI lim)), some (.ref (6 + 3 * k)), some (.int (nI ww)), some (.int (nI (pNx P u))), some (.int (nI (pG P u k))), some (.int (nI st)), some (.int (nI (pG P (pNx P u) k)))] [.int (nI (pB P k (pG P u k))), .int (nI ww)] (bf_MD D)
            refine bf_aload r.1 dX2_stepsToDeath_95 rfl ?_
            refine bf_iload r.1 dX2_stepsToDeath_97 rfl ?_
            refine cl_v r (y2 := mX3_lit) dX2_stepsToDeath_99 li_X2_57 mv_X3_lit (ad_c6 (Nat.lt_of_lt_of_le hk hn4)) (ad_l6 (Nat.lt_of_lt_of_le hk hn4)) [.int (nI (pG P (pNx P u) k))] [.int (nI (pB P k (pG P u k))), .int (nI ww)] rfl (Nat.le_of_ble_eq_true rfl) rfl (c_X3_lit (by omega) hv hc hk (pG_lt P (pNx P u) k)) ?_
            show J 102 [some (.ref 2), some (.int (nI k)), some (.int (nI b)), some (.int (nI lim)), some (.ref (6 + 3 * k)), some (.int (nI ww)), some (.int (nI (pNx P u))), some (.int (nI (pG P u k))), some (.int (nI st)), some (.int (nI (pG P (pNx P u) k)))] [.int (nI (pB P k (pG P (pNx P u) k))), .int (nI (pB P k (pG P u k))), .int (nI ww)] (bf_MD D)
            refine na_xor r dX2_stepsToDeath_102  ?_
            refine bf_iload_n r.1 dX2_stepsToDeath_103 rfl ?_
            refine na_shr r dX2_stepsToDeath_104 (by omega) (bf_lt31 (bf_xor_lt (pB_lt hv hk _) (pB_lt hv hk _)) (by decide)) ?_
            refine bf_iconst r.1 (v := nI 1) dX2_stepsToDeath_105 rfl ?_
            refine na_and r dX2_stepsToDeath_106  ?_
            refine na_add r dX2_stepsToDeath_107  ?_
            refine bf_istore r.1 (L2 := [some (.ref 2), some (.int (nI k)), some (.int (nI b)), some (.int (nI lim)), some (.ref (6 + 3 * k)), some (.int (nI (ww + ((((pB P k (pG P u k)) ^^^ (pB P k (pG P (pNx P u) k))) / 2 ^ b) &&& 1)))), some (.int (nI (pNx P u))), some (.int (nI (pG P u k))), some (.int (nI st)), some (.int (nI (pG P (pNx P u) k)))]) dX2_stepsToDeath_108 rfl ?_
            refine bf_iload r.1 dX2_stepsToDeath_110 rfl ?_
            refine bf_istore r.1 (L2 := [some (.ref 2), some (.int (nI k)), some (.int (nI b)), some (.int (nI lim)), some (.ref (6 + 3 * k)), some (.int (nI (ww + ((((pB P k (pG P u k)) ^^^ (pB P k (pG P (pNx P u) k))) / 2 ^ b) &&& 1)))), some (.int (nI (pNx P u))), some (.int (nI (pG P (pNx P u) k))), some (.int (nI st)), some (.int (nI (pG P (pNx P u) k)))]) dX2_stepsToDeath_112 rfl ?_
            refine bf_iload r.1 dX2_stepsToDeath_114 rfl ?_
            refine bf_aload_n r.1 dX2_stepsToDeath_116 rfl ?_
            refine ig_int r (v := nI (pL P)) dX2_stepsToDeath_117 fl_X2_36 rfl (by decide) rfl (cP_l (P := P) hc) ?_
            refine nc_lt r (tgt := 126) dX2_stepsToDeath_120 (by decide) hww (by omega) (fun c40 => ?_) (fun c40 => ?_)
            · refine na_inc r (v := st + 1) (L2 := [some (.ref 2), some (.int (nI k)), some (.int (nI b)), some (.int (nI lim)), some (.ref (6 + 3 * k)), some (.int (nI (ww + ((((pB P k (pG P u k)) ^^^ (pB P k (pG P (pNx P u) k))) / 2 ^ b) &&& 1)))), some (.int (nI (pNx P u))), some (.int (nI (pG P (pNx P u) k))), some (.int (nI (st + 1))), some (.int (nI (pG P (pNx P u) k)))]) dX2_stepsToDeath_126 rfl (nI_add _ 1) rfl ?_
              refine bf_goto r.1 (tgt := 56) dX2_stepsToDeath_129 (by decide) ?_
              refine bf_fgt r.1 (i := 9) (L2 := [some (.ref 2), some (.int (nI k)), some (.int (nI b)), some (.int (nI lim)), some (.ref (6 + 3 * k)), some (.int (nI (ww + ((((pB P k (pG P u k)) ^^^ (pB P k (pG P (pNx P u) k))) / 2 ^ b) &&& 1)))), some (.int (nI (pNx P u))), some (.int (nI (pG P (pNx P u) k))), some (.int (nI (st + 1))), none]) rfl ?_
              exact ih _ _ _ (by omega) (by have := pNx_lt P u; omega) (by omega) (by rw [← he]; simp only [pSd]; rw [if_neg (Nat.not_le.mpr c40)])
            · refine bf_iload r.1 dX2_stepsToDeath_123 rfl ?_
              exact rt_i r dX2_stepsToDeath_125 rfl rfl (by rw [← he]; simp only [pSd]; rw [if_pos c40]; rfl) rfl
    exact loop lim 1 (pW P k b) (pS P) (by omega) (by omega) (by have := ((hv.2.2.2.2 k hk).2.2.2 b hb).1; omega) (by rw [if_pos c35])
  · refine bf_bipush r.1 (v := -9) dX2_stepsToDeath_26 rfl ?_
    exact rt_i r dX2_stepsToDeath_28 rfl rfl (by rw [if_neg c35]; rfl) rfl
