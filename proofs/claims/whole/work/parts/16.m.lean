/-- do two digits look alike, with these bars dead, stuck -/
def bf_cq (kd dd st a b : Nat) : Nat := (bf_lk (kd * 10 + a) ^^^ bf_lk (kd * 10 + b)) &&& (127 ^^^ (dd ||| st))
def bf_clr (kd dd st : Nat) : Bool := (List.range 10).all fun a => (List.range a).all fun b => decide (bf_cq kd dd st a b ≠ 0)
theorem bf_clr_t {kd dd st : Nat} : bf_clr kd dd st = true ↔ ∀ a, a < 10 → ∀ b, b < a → bf_cq kd dd st a b ≠ 0 := by
  unfold bf_clr
  simp only [List.all_eq_true, List.mem_range, decide_eq_true_eq]
theorem bf_cq_lt {kd dd st a b : Nat} : bf_cq kd dd st a b < 128 := Nat.lt_of_le_of_lt Nat.and_le_left (bf_xor_lt (bf_lk_lt _) (bf_lk_lt _))
theorem bf_or_lt {a b : Nat} (ha : a < 128) (hb : b < 128) : a ||| b < 128 := Nat.or_lt_two_pow (n := 7) ha hb
theorem bf_and_lt {a b : Nat} (ha : a < 128) : a &&& b < 128 := Nat.lt_of_le_of_lt Nat.and_le_left ha
theorem c_X3_isClearIf {d : Nat} (hd : 3 ≤ d) {D : bf_D} {P : bf_Pn} (hv : vP P) (hc : cP D P) {k dd : Nat} (hk : k < pN P) (hdd : dd < 128) : bf_Cf d mX3_isClearIf [.ref (6 + 3 * k), .int (nI dd)] D (some (.int (if bf_clr (pK P k) dd (pT P k) = true then 1 else 0))) D := by
  refine bf_Cf_of 2 hd mo_X3_isClearIf (Nat.le_of_ble_eq_true rfl) (fun e he J r => ?_)
  show J 0 [some (.ref (6 + 3 * k)), some (.int (nI dd)), none, none, none, none] [] (bf_MD D)
  have hn4 := hv.1
  have hx4 := pX_le hv
  have hx0 := pX_pos P
  have hT := vP_t hv hk
  have hK := vP_k hv hk
  refine bf_iload_n r.1 dX3_isClearIf_0 rfl ?_
  refine bf_aload_n r.1 dX3_isClearIf_1 rfl ?_
  refine ig_int r (v := nI (pT P k)) dX3_isClearIf_2 fl_X3_29 (ad_c6 (Nat.lt_of_lt_of_le hk hn4)) (ad_l6 (Nat.lt_of_lt_of_le hk hn4)) (ad_i6 (Nat.lt_of_lt_of_le hk hn4) 5 (by decide)) (cP_t (P := P) hc hk) ?_
  refine na_or r dX3_isClearIf_5  ?_
  refine bf_iconst r.1 (v := -1) dX3_isClearIf_6 rfl ?_
  refine bf_ixor r.1 dX3_isClearIf_7 ?_
  refine bf_istore_n r.1 (L2 := [some (.ref (6 + 3 * k)), some (.int (nI dd)), some (.int ((nI (dd ||| (pT P k))) ^^^ (-1))), none, none, none]) dX3_isClearIf_8 rfl ?_
  refine bf_iconst r.1 (v := nI 1) dX3_isClearIf_9 rfl ?_
  refine bf_istore_n r.1 (L2 := [some (.ref (6 + 3 * k)), some (.int (nI dd)), some (.int ((nI (dd ||| (pT P k))) ^^^ (-1))), some (.int (nI 1)), none, none]) dX3_isClearIf_10 rfl ?_
  have loop : ∀ a : Nat, a ≤ 10 → 1 ≤ a → (∀ a1, a1 < a → ∀ b, b < a1 → bf_cq (pK P k) dd (pT P k) a1 b ≠ 0) → J 11 [some (.ref (6 + 3 * k)), some (.int (nI dd)), some (.int ((nI (dd ||| (pT P k))) ^^^ (-1))), some (.int (nI a)), none, none] [] (bf_MD D) := by
    refine bf_down (fun a hle ih => ?_)
    intro ha1 hh
    refine bf_iload_n r.1 dX3_isClearIf_11 rfl ?_
    refine bf_bipush r.1 (v := nI 10) dX3_isClearIf_12 rfl ?_
    refine nc_ge r (tgt := 75) dX3_isClearIf_14 (by decide) (by omega) (by decide) (fun c50 => ?_) (fun c50 => ?_)
    · refine bf_iconst r.1 (v := nI 1) dX3_isClearIf_75 rfl ?_
      exact rt_i r dX3_isClearIf_76 rfl (by decide) (if_pos (bf_clr_t.mpr (fun a1 h1 => hh a1 (by omega)))).symm rfl
    · refine bf_aload_n r.1 dX3_isClearIf_17 rfl ?_
      refine ig_ref r (b := 4) dX3_isClearIf_18 fl_X3_18 (ad_c6 (Nat.lt_of_lt_of_le hk hn4)) (ad_l6 (Nat.lt_of_lt_of_le hk hn4)) (ad_r6_0 (Nat.lt_of_lt_of_le hk hn4)) ?_
      refine bf_aload_n r.1 dX3_isClearIf_21 rfl ?_
      refine ig_int r (v := nI (pK P k)) dX3_isClearIf_22 fl_X3_22 (ad_c6 (Nat.lt_of_lt_of_le hk hn4)) (ad_l6 (Nat.lt_of_lt_of_le hk hn4)) (ad_i6 (Nat.lt_of_lt_of_le hk hn4) 3 (by decide)) (cP_k (P := P) hc hk) ?_
      refine bf_iload_n r.1 dX3_isClearIf_25 rfl ?_
      refine cl_v r (y2 := mX0_look) dX3_isClearIf_26 li_X3_43 mv_X0_look rfl (by decide) [.int (nI (pK P k)), .int (nI a)] [] rfl (Nat.le_of_ble_eq_true rfl) rfl (c_X0_look (by omega) hc.2.2 hK (by omega)) ?_
      show J 29 [some (.ref (6 + 3 * k)), some (.int (nI dd)), some (.int ((nI (dd ||| (pT P k))) ^^^ (-1))), some (.int (nI a)), none, none] [.int (nI (bf_lk (pK P k * 10 + a)))] (bf_MD D)
      refine bf_istore r.1 (L2 := [some (.ref (6 + 3 * k)), some (.int (nI dd)), some (.int ((nI (dd ||| (pT P k))) ^^^ (-1))), some (.int (nI a)), some (.int (nI (bf_lk (pK P k * 10 + a)))), none]) dX3_isClearIf_29 rfl ?_
      refine bf_iconst r.1 (v := nI 0) dX3_isClearIf_31 rfl ?_
      refine bf_istore r.1 (L2 := [some (.ref (6 + 3 * k)), some (.int (nI dd)), some (.int ((nI (dd ||| (pT P k))) ^^^ (-1))), some (.int (nI a)), some (.int (nI (bf_lk (pK P k * 10 + a)))), some (.int (nI 0))]) dX3_isClearIf_32 rfl ?_
      have ih0 := ih
      have inner : ∀ b : Nat, b ≤ a → (∀ b1, b1 < b → bf_cq (pK P k) dd (pT P k) a b1 ≠ 0) → J 34 [some (.ref (6 + 3 * k)), some (.int (nI dd)), some (.int ((nI (dd ||| (pT P k))) ^^^ (-1))), some (.int (nI a)), some (.int (nI (bf_lk (pK P k * 10 + a)))), some (.int (nI b))] [] (bf_MD D) := by
        refine bf_down (fun b hle ih => ?_)
        intro hb
        refine bf_iload r.1 dX3_isClearIf_34 rfl ?_
        refine bf_iload_n r.1 dX3_isClearIf_36 rfl ?_
        refine nc_ge r (tgt := 69) dX3_isClearIf_37 (by decide) (by omega) (by omega) (fun c51 => ?_) (fun c51 => ?_)
        · refine na_inc r (v := a + 1) (L2 := [some (.ref (6 + 3 * k)), some (.int (nI dd)), some (.int ((nI (dd ||| (pT P k))) ^^^ (-1))), some (.int (nI (a + 1))), some (.int (nI (bf_lk (pK P k * 10 + a)))), some (.int (nI b))]) dX3_isClearIf_69 rfl (nI_add _ 1) rfl ?_
          refine bf_goto r.1 (tgt := 11) dX3_isClearIf_72 (by decide) ?_
          refine bf_fgt r.1 (i := 4) (L2 := [some (.ref (6 + 3 * k)), some (.int (nI dd)), some (.int ((nI (dd ||| (pT P k))) ^^^ (-1))), some (.int (nI (a + 1))), none, some (.int (nI b))]) rfl ?_
          refine bf_fgt r.1 (i := 5) (L2 := [some (.ref (6 + 3 * k)), some (.int (nI dd)), some (.int ((nI (dd ||| (pT P k))) ^^^ (-1))), some (.int (nI (a + 1))), none, none]) rfl ?_
          exact ih0 (by omega) (by omega) (lt_s hh (fun b1 h1 => hb b1 (by omega)))
        · refine bf_iload r.1 dX3_isClearIf_40 rfl ?_
          refine bf_aload_n r.1 dX3_isClearIf_42 rfl ?_
          refine ig_ref r (b := 4) dX3_isClearIf_43 fl_X3_18 (ad_c6 (Nat.lt_of_lt_of_le hk hn4)) (ad_l6 (Nat.lt_of_lt_of_le hk hn4)) (ad_r6_0 (Nat.lt_of_lt_of_le hk hn4)) ?_
          refine bf_aload_n r.1 dX3_isClearIf_46 rfl ?_
          refine ig_int r (v := nI (pK P k)) dX3_isClearIf_47 fl_X3_22 (ad_c6 (Nat.lt_of_lt_of_le hk hn4)) (ad_l6 (Nat.lt_of_lt_of_le hk hn4)) (ad_i6 (Nat.lt_of_lt_of_le hk hn4) 3 (by decide)) (cP_k (P := P) hc hk) ?_
          refine bf_iload r.1 dX3_isClearIf_50 rfl ?_
          refine cl_v r (y2 := mX0_look) dX3_isClearIf_52 li_X3_43 mv_X0_look rfl (by decide) [.int (nI (pK P k)), .int (nI b)] [.int (nI (bf_lk (pK P k * 10 + a)))] rfl (Nat.le_of_ble_eq_true rfl) rfl (c_X0_look (by omega) hc.2.2 hK (by omega)) ?_
          show J 55 [some (.ref (6 + 3 * k)), some (.int (nI dd)), some (.int ((nI (dd ||| (pT P k))) ^^^ (-1))), some (.int (nI a)), some (.int (nI (bf_lk (pK P k * 10 + a)))), some (.int (nI b))] [.int (nI (bf_lk (pK P k * 10 + b))), .int (nI (bf_lk (pK P k * 10 + a)))] (bf_MD D)
          refine na_xor r dX3_isClearIf_55  ?_
          refine bf_iload_n r.1 dX3_isClearIf_56 rfl ?_
          refine bf_iand r.1 dX3_isClearIf_57 ?_
          refine eq_i (v := nI (bf_cq (pK P k) dd (pT P k) a b)) (bf_nand (bf_xor_lt (bf_lk_lt _) (bf_lk_lt _)) (bf_or_lt hdd hT)) ?_
          refine nz_ne r (tgt := 63) dX3_isClearIf_58 (by decide) (bf_lt31 bf_cq_lt (by decide)) (fun c52 => ?_) (fun c52 => ?_)
          · refine na_inc r (v := b + 1) (L2 := [some (.ref (6 + 3 * k)), some (.int (nI dd)), some (.int ((nI (dd ||| (pT P k))) ^^^ (-1))), some (.int (nI a)), some (.int (nI (bf_lk (pK P k * 10 + a)))), some (.int (nI (b + 1)))]) dX3_isClearIf_63 rfl (nI_add _ 1) rfl ?_
            refine bf_goto r.1 (tgt := 34) dX3_isClearIf_66 (by decide) ?_
            exact ih (by omega) (lt_s hb c52)
          · refine bf_iconst r.1 (v := nI 0) dX3_isClearIf_61 rfl ?_
            exact rt_i r dX3_isClearIf_62 rfl (by decide) (if_neg (fun h => absurd c52 (bf_clr_t.mp h a (by omega) b (by omega)))).symm rfl
      exact inner 0 (by omega) lt_0
  exact loop 1 (by omega) (Nat.le_refl _) (fun a1 h1 b hb => absurd hb (by omega))
def bf_rpc : Option Nat → Nat
  | none => 8
  | some b => bf_pc b
theorem bf_rpc_le (o : Option Nat) : bf_rpc o ≤ 10 := by
  cases o with
  | none => decide
  | some b => exact bf_pc_le b
/-- the fewest dead bars to mend: of the sets below s -/
def pRp (P : bf_Pn) (k : Nat) : Nat → Option Nat
  | 0 => none
  | s + 1 => if s &&& (127 ^^^ pD P k) = 0 then (if bf_pc s < bf_rpc (pRp P k s) then (if bf_clr (pK P k) (pD P k &&& (127 ^^^ s)) (pT P k) = true then some s else pRp P k s) else pRp P k s) else pRp P k s
theorem c_X3_fewestToMend {d : Nat} (hd : 4 ≤ d) {D : bf_D} {P : bf_Pn} (hv : vP P) (hc : cP D P) {k : Nat} (hk : k < pN P) : bf_Cf d mX3_fewestToMend [.ref (6 + 3 * k)] D (some (.int (bf_oN (pRp P k 128)))) D := by
  refine bf_Cf_of 3 hd mo_X3_fewestToMend (Nat.le_of_ble_eq_true rfl) (fun e he J r => ?_)
  show J 0 [some (.ref (6 + 3 * k)), none, none, none, none] [] (bf_MD D)
  have hn4 := hv.1
  have hx4 := pX_le hv
  have hx0 := pX_pos P
  have hT := vP_t hv hk
  have hK := vP_k hv hk
  have hD := vP_d hv hk
  refine bf_bipush r.1 (v := -9) dX3_fewestToMend_0 rfl ?_
  refine bf_istore_n r.1 (L2 := [some (.ref (6 + 3 * k)), some (.int (-9)), none, none, none]) dX3_fewestToMend_2 rfl ?_
  refine bf_bipush r.1 (v := nI 8) dX3_fewestToMend_3 rfl ?_
  refine bf_istore_n r.1 (L2 := [some (.ref (6 + 3 * k)), some (.int (-9)), some (.int (nI 8)), none, none]) dX3_fewestToMend_5 rfl ?_
  refine bf_iconst r.1 (v := nI 0) dX3_fewestToMend_6 rfl ?_
  refine bf_istore_n r.1 (L2 := [some (.ref (6 + 3 * k)), some (.int (-9)), some (.int (nI 8)), some (.int (nI 0)), none]) dX3_fewestToMend_7 rfl ?_
  have loop : ∀ s : Nat, s ≤ 128 → J 8 [some (.ref (6 + 3 * k)), some (.int (bf_oN (pRp P k s))), some (.int (nI (bf_rpc (pRp P k s)))), some (.int (nI s)), none] [] (bf_MD D) := by
    refine bf_down (fun s hle ih => ?_)
    have hrp := bf_rpc_le (pRp P k s)
    have hps := bf_pc_le s
    refine bf_iload_n r.1 dX3_fewestToMend_8 rfl ?_
    refine bf_sipush r.1 (v := nI 128) dX3_fewestToMend_9 rfl ?_
    refine nc_ge r (tgt := 64) dX3_fewestToMend_12 (by decide) (by omega) (by decide) (fun c53 => ?_) (fun c53 => ?_)
    · refine bf_iload_n r.1 dX3_fewestToMend_64 rfl ?_
      have es : s = 128 := by omega
      subst es
      exact rt_i r dX3_fewestToMend_65 rfl rfl rfl rfl
    · refine bf_iload_n r.1 dX3_fewestToMend_15 rfl ?_
      refine cl_s r (y2 := mJ6_bitCount_0f7a4) dX3_fewestToMend_16 li_X3_56 mv_J6_bitCount_0f7a4 [.int (nI s)] [] rfl (Nat.le_of_ble_eq_true rfl) rfl (c_J6_bitCount (by omega) D (by omega)) ?_
      show J 19 [some (.ref (6 + 3 * k)), some (.int (bf_oN (pRp P k s))), some (.int (nI (bf_rpc (pRp P k s)))), some (.int (nI s)), none] [.int (nI (bf_pc s))] (bf_MD D)
      refine bf_istore r.1 (L2 := [some (.ref (6 + 3 * k)), some (.int (bf_oN (pRp P k s))), some (.int (nI (bf_rpc (pRp P k s)))), some (.int (nI s)), some (.int (nI (bf_pc s)))]) dX3_fewestToMend_19 rfl ?_
      refine bf_iload_n r.1 dX3_fewestToMend_21 rfl ?_
      refine bf_aload_n r.1 dX3_fewestToMend_22 rfl ?_
      refine ig_int r (v := nI (pD P k)) dX3_fewestToMend_23 fl_X3_26 (ad_c6 (Nat.lt_of_lt_of_le hk hn4)) (ad_l6 (Nat.lt_of_lt_of_le hk hn4)) (ad_i6 (Nat.lt_of_lt_of_le hk hn4) 4 (by decide)) (cP_d (P := P) hc hk) ?_
      refine bf_iconst r.1 (v := -1) dX3_fewestToMend_26 rfl ?_
      refine bf_ixor r.1 dX3_fewestToMend_27 ?_
      refine bf_iand r.1 dX3_fewestToMend_28 ?_
      refine eq_i (bf_nand (show s < 128 by omega) hD) ?_
      refine nz_ne r (tgt := 58) dX3_fewestToMend_29 (by decide) (show s &&& _ < 2 ^ 31 from Nat.lt_of_le_of_lt Nat.and_le_left (by omega)) (fun c54 => ?_) (fun c54 => ?_)
      · refine na_inc r (v := s + 1) (L2 := [some (.ref (6 + 3 * k)), some (.int (bf_oN (pRp P k s))), some (.int (nI (bf_rpc (pRp P k s)))), some (.int (nI (s + 1))), some (.int (nI (bf_pc s)))]) dX3_fewestToMend_58 rfl (nI_add _ 1) rfl ?_
        refine bf_goto r.1 (tgt := 8) dX3_fewestToMend_61 (by decide) ?_
        refine bf_fgt r.1 (i := 4) (L2 := [some (.ref (6 + 3 * k)), some (.int (bf_oN (pRp P k s))), some (.int (nI (bf_rpc (pRp P k s)))), some (.int (nI (s + 1))), none]) rfl ?_
        have hi := ih c53
        simp only [pRp] at hi
        rw [if_neg c54] at hi
        exact hi
      · refine bf_iload r.1 dX3_fewestToMend_32 rfl ?_
        refine bf_iload_n r.1 dX3_fewestToMend_34 rfl ?_
        refine nc_ge r (tgt := 58) dX3_fewestToMend_35 (by decide) (by omega) (by omega) (fun c55 => ?_) (fun c55 => ?_)
        · refine na_inc r (v := s + 1) (L2 := [some (.ref (6 + 3 * k)), some (.int (bf_oN (pRp P k s))), some (.int (nI (bf_rpc (pRp P k s)))), some (.int (nI (s + 1))), some (.int (nI (bf_pc s)))]) dX3_fewestToMend_58 rfl (nI_add _ 1) rfl ?_
          refine bf_goto r.1 (tgt := 8) dX3_fewestToMend_61 (by decide) ?_
          refine bf_fgt r.1 (i := 4) (L2 := [some (.ref (6 + 3 * k)), some (.int (bf_oN (pRp P k s))), some (.int (nI (bf_rpc (pRp P k s)))), some (.int (nI (s + 1))), none]) rfl ?_
          have hi := ih c53
          simp only [pRp] at hi
          rw [if_pos c54, if_neg (Nat.not_lt.mpr c55)] at hi
          exact hi
        · refine bf_aload_n r.1 dX3_fewestToMend_38 rfl ?_
          refine bf_aload_n r.1 dX3_fewestToMend_39 rfl ?_
          refine ig_int r (v := nI (pD P k)) dX3_fewestToMend_40 fl_X3_26 (ad_c6 (Nat.lt_of_lt_of_le hk hn4)) (ad_l6 (Nat.lt_of_lt_of_le hk hn4)) (ad_i6 (Nat.lt_of_lt_of_le hk hn4) 4 (by decide)) (cP_d (P := P) hc hk) ?_
          refine bf_iload_n r.1 dX3_fewestToMend_43 rfl ?_
          refine bf_iconst r.1 (v := -1) dX3_fewestToMend_44 rfl ?_
          refine bf_ixor r.1 dX3_fewestToMend_45 ?_
          refine bf_iand r.1 dX3_fewestToMend_46 ?_
          refine eq_i (bf_nand hD (show s < 128 by omega)) ?_
          refine cl_v r (y2 := mX3_isClearIf) dX3_fewestToMend_47 li_X3_61 mv_X3_isClearIf (ad_c6 (Nat.lt_of_lt_of_le hk hn4)) (ad_l6 (Nat.lt_of_lt_of_le hk hn4)) [.int (nI (pD P k &&& (127 ^^^ s)))] [] rfl (Nat.le_of_ble_eq_true rfl) rfl (c_X3_isClearIf (by omega) hv hc hk (bf_and_lt hD)) ?_
          show J 50 [some (.ref (6 + 3 * k)), some (.int (bf_oN (pRp P k s))), some (.int (nI (bf_rpc (pRp P k s)))), some (.int (nI s)), some (.int (nI (bf_pc s)))] [.int (if bf_clr (pK P k) (pD P k &&& (127 ^^^ s)) (pT P k) = true then 1 else 0)] (bf_MD D)
          refine nb_eq r (tgt := 58) dX3_fewestToMend_50 (by decide) (fun c56 => ?_) (fun c56 => ?_)
          · refine na_inc r (v := s + 1) (L2 := [some (.ref (6 + 3 * k)), some (.int (bf_oN (pRp P k s))), some (.int (nI (bf_rpc (pRp P k s)))), some (.int (nI (s + 1))), some (.int (nI (bf_pc s)))]) dX3_fewestToMend_58 rfl (nI_add _ 1) rfl ?_
            refine bf_goto r.1 (tgt := 8) dX3_fewestToMend_61 (by decide) ?_
            refine bf_fgt r.1 (i := 4) (L2 := [some (.ref (6 + 3 * k)), some (.int (bf_oN (pRp P k s))), some (.int (nI (bf_rpc (pRp P k s)))), some (.int (nI (s + 1))), none]) rfl ?_
            have hi := ih c53
            simp only [pRp] at hi
            rw [if_pos c54, if_pos c55, if_neg c56] at hi
            exact hi
          · refine bf_iload_n r.1 dX3_fewestToMend_53 rfl ?_
            refine bf_istore_n r.1 (L2 := [some (.ref (6 + 3 * k)), some (.int (nI s)), some (.int (nI (bf_rpc (pRp P k s)))), some (.int (nI s)), some (.int (nI (bf_pc s)))]) dX3_fewestToMend_54 rfl ?_
            refine bf_iload r.1 dX3_fewestToMend_55 rfl ?_
            refine bf_istore_n r.1 (L2 := [some (.ref (6 + 3 * k)), some (.int (nI s)), some (.int (nI (bf_pc s))), some (.int (nI s)), some (.int (nI (bf_pc s)))]) dX3_fewestToMend_57 rfl ?_
            refine na_inc r (v := s + 1) (L2 := [some (.ref (6 + 3 * k)), some (.int (nI s)), some (.int (nI (bf_pc s))), some (.int (nI (s + 1))), some (.int (nI (bf_pc s)))]) dX3_fewestToMend_58 rfl (nI_add _ 1) rfl ?_
            refine bf_goto r.1 (tgt := 8) dX3_fewestToMend_61 (by decide) ?_
            refine bf_fgt r.1 (i := 4) (L2 := [some (.ref (6 + 3 * k)), some (.int (nI s)), some (.int (nI (bf_pc s))), some (.int (nI (s + 1))), none]) rfl ?_
            have hi := ih c53
            simp only [pRp] at hi
            rw [if_pos c54, if_pos c55, if_pos c56] at hi
            exact hi
  exact loop 0 (by omega) 
def bf_lD (D : bf_D) (k q dd st : Nat) : bf_D := bf_fd D (7 + 3 * k) (fun i => nI (bf_bn q dd st i)) 10
theorem c_X3_light {d : Nat} (hd : 4 ≤ d) {D : bf_D} (hl : lkF D) {k q dd st : Nat} (hk : k < 4) (h3 : D (6 + 3 * k) 3 = nI q) (h4 : D (6 + 3 * k) 4 = nI dd) (h5 : D (6 + 3 * k) 5 = nI st) (hq : q < 3) (hdd : dd < 128) : bf_Cf d mX3_light [.ref (6 + 3 * k)] D none (bf_lD D k q dd st) := by
  refine bf_Cf_of 3 hd mo_X3_light (Nat.le_of_ble_eq_true rfl) (fun e he J r => ?_)
  show J 0 [some (.ref (6 + 3 * k)), none] [] (bf_MD D)
  refine bf_iconst r.1 (v := nI 0) dX3_light_0 rfl ?_
  refine bf_istore_n r.1 (L2 := [some (.ref (6 + 3 * k)), some (.int (nI 0))]) dX3_light_1 rfl ?_
  have loop : ∀ j : Nat, j ≤ 10 → J 2 [some (.ref (6 + 3 * k)), some (.int (nI j))] [] (bf_MD (bf_fd D (7 + 3 * k) (fun i => nI (bf_bn q dd st i)) j)) := by
    refine bf_down (fun j hle ih => ?_)
    refine bf_iload_n r.1 dX3_light_2 rfl ?_
    refine bf_bipush r.1 (v := nI 10) dX3_light_3 rfl ?_
    refine nc_ge r (tgt := 33) dX3_light_5 (by decide) (by omega) (by decide) (fun c57 => ?_) (fun c57 => ?_)
    · have ej : j = 10 := by omega
      subst ej
      exact rt_v r dX3_light_33 rfl rfl
    · refine bf_aload_n r.1 dX3_light_8 rfl ?_
      refine ig_ref r (b := (7 + 3 * k)) dX3_light_9 fl_X3_9 (ad_c6 hk) (ad_l6 hk) (ad_r6_1 hk) ?_
      refine bf_iload_n r.1 dX3_light_12 rfl ?_
      refine bf_aload_n r.1 dX3_light_13 rfl ?_
      refine bf_aload_n r.1 dX3_light_14 rfl ?_
      refine ig_int r (v := nI q) dX3_light_15 fl_X3_22 (ad_c6 hk) (ad_l6 hk) (ad_i6 hk 3 (by decide)) ((bf_fd_out (Or.inl (by omega))).trans h3) ?_
      refine bf_aload_n r.1 dX3_light_18 rfl ?_
      refine ig_int r (v := nI dd) dX3_light_19 fl_X3_26 (ad_c6 hk) (ad_l6 hk) (ad_i6 hk 4 (by decide)) ((bf_fd_out (Or.inl (by omega))).trans h4) ?_
      refine bf_iload_n r.1 dX3_light_22 rfl ?_
      refine cl_v r (y2 := mX3_litIf) dX3_light_23 li_X3_35 mv_X3_litIf (ad_c6 hk) (ad_l6 hk) [.int (nI q), .int (nI dd), .int (nI j)] [.int (nI j), .ref (7 + 3 * k)] rfl (Nat.le_of_ble_eq_true rfl) rfl (c_X3_litIf (by omega) (fun i hi => (bf_fd_out (Or.inl (by omega))).trans (hl i hi)) hk ((bf_fd_out (Or.inl (by omega))).trans h5) hq hdd (by omega)) ?_
      show J 26 [some (.ref (6 + 3 * k)), some (.int (nI j))] [.int (nI (bf_bn q dd st j)), .int (nI j), .ref (7 + 3 * k)] (bf_MD (bf_fd D (7 + 3 * k) (fun i => nI (bf_bn q dd st i)) j))
      refine ia_st r (n := 10) dX3_light_26 (ad_k7 hk) (ad_l7 hk) (by omega) ?_
      refine na_inc r (v := j + 1) (L2 := [some (.ref (6 + 3 * k)), some (.int (nI (j + 1)))]) dX3_light_27 rfl (nI_add _ 1) rfl ?_
      refine bf_goto r.1 (tgt := 2) dX3_light_30 (by decide) ?_
      exact ih c57
  exact loop 0 (by omega) 
def bf_rD1 (D : bf_D) (k q dd st : Nat) : bf_D := bf_u (bf_u (bf_u D (6 + 3 * k) 3 (nI q)) (6 + 3 * k) 4 (nI dd)) (6 + 3 * k) 5 (nI st)
def bf_rD2 (D : bf_D) (k q dd st j : Nat) : bf_D := bf_fd (bf_rD1 D k q dd st) (8 + 3 * k) (fun _ => nI 0) j
def bf_rD (D : bf_D) (k q dd st : Nat) : bf_D := bf_lD (bf_rD2 D k q dd st 7) k q dd st
theorem bf_rD1_3 {D : bf_D} {k q dd st : Nat} : bf_rD1 D k q dd st (6 + 3 * k) 3 = nI q := by unfold bf_rD1; rw [bf_un (by omega), bf_un (by omega), bf_us]
theorem bf_rD1_4 {D : bf_D} {k q dd st : Nat} : bf_rD1 D k q dd st (6 + 3 * k) 4 = nI dd := by unfold bf_rD1; rw [bf_un (by omega), bf_us]
theorem bf_rD1_5 {D : bf_D} {k q dd st : Nat} : bf_rD1 D k q dd st (6 + 3 * k) 5 = nI st := by unfold bf_rD1; rw [bf_us]
theorem bf_rD1_o {D : bf_D} {k q dd st b j : Nat} (h : b ≠ 6 + 3 * k) : bf_rD1 D k q dd st b j = D b j := by unfold bf_rD1; rw [bf_un (Or.inl h), bf_un (Or.inl h), bf_un (Or.inl h)]
theorem bf_rD2_o {D : bf_D} {k q dd st n b j : Nat} (h : b ≠ 8 + 3 * k) : bf_rD2 D k q dd st n b j = bf_rD1 D k q dd st b j := bf_fd_out (Or.inl h)
theorem c_X3_renew {d : Nat} (hd : 5 ≤ d) {D : bf_D} (hl : lkF D) {k q dd st : Nat} (hk : k < 4) (hq : q < 3) (hdd : dd < 128) : bf_Cf d mX3_renew [.ref (6 + 3 * k), .int (nI q), .int (nI dd), .int (nI st)] D none (bf_rD D k q dd st) := by
  refine bf_Cf_of 4 hd mo_X3_renew (Nat.le_of_ble_eq_true rfl) (fun e he J r => ?_)
  show J 0 [some (.ref (6 + 3 * k)), some (.int (nI q)), some (.int (nI dd)), some (.int (nI st)), none] [] (bf_MD D)
  refine bf_aload_n r.1 dX3_renew_0 rfl ?_
  refine bf_iload_n r.1 dX3_renew_1 rfl ?_
  refine ip_int r dX3_renew_2 fp_X3_22 (ad_c6 hk) (ad_l6 hk) (ad_i6 hk 3 (by decide)) ?_
  refine bf_aload_n r.1 dX3_renew_5 rfl ?_
  refine bf_iload_n r.1 dX3_renew_6 rfl ?_
  refine ip_int r dX3_renew_7 fp_X3_26 (ad_c6 hk) (ad_l6 hk) (ad_i6 hk 4 (by decide)) ?_
  refine bf_aload_n r.1 dX3_renew_10 rfl ?_
  refine bf_iload_n r.1 dX3_renew_11 rfl ?_
  refine ip_int r dX3_renew_12 fp_X3_29 (ad_c6 hk) (ad_l6 hk) (ad_i6 hk 5 (by decide)) ?_
  refine bf_iconst r.1 (v := nI 0) dX3_renew_15 rfl ?_
  refine bf_istore r.1 (L2 := [some (.ref (6 + 3 * k)), some (.int (nI q)), some (.int (nI dd)), some (.int (nI st)), some (.int (nI 0))]) dX3_renew_16 rfl ?_
  have loop : ∀ j : Nat, j ≤ 7 → J 18 [some (.ref (6 + 3 * k)), some (.int (nI q)), some (.int (nI dd)), some (.int (nI st)), some (.int (nI j))] [] (bf_MD (bf_rD2 D k q dd st j)) := by
    refine bf_down (fun j hle ih => ?_)
    refine bf_iload r.1 dX3_renew_18 rfl ?_
    refine bf_bipush r.1 (v := nI 7) dX3_renew_20 rfl ?_
    refine nc_ge r (tgt := 39) dX3_renew_22 (by decide) (by omega) (by decide) (fun c58 => ?_) (fun c58 => ?_)
    · have ej : j = 7 := by omega
      subst ej
      refine bf_aload_n r.1 dX3_renew_39 rfl ?_
      refine cl_v r (y2 := mX3_light) dX3_renew_40 li_X3_32 mv_X3_light (ad_c6 hk) (ad_l6 hk) [] [] rfl (Nat.le_of_ble_eq_true rfl) rfl (c_X3_light (by omega) (fun i hi => ((bf_rD2_o (by omega)).trans (bf_rD1_o (by omega))).trans (hl i hi)) hk ((bf_rD2_o (by omega)).trans bf_rD1_3) ((bf_rD2_o (by omega)).trans bf_rD1_4) ((bf_rD2_o (by omega)).trans bf_rD1_5) hq hdd) ?_
      show J 43 [some (.ref (6 + 3 * k)), some (.int (nI q)), some (.int (nI dd)), some (.int (nI st)), some (.int (nI 7))] [] (bf_MD (bf_lD (bf_rD2 D k q dd st 7) k q dd st))
      exact rt_v r dX3_renew_43 rfl rfl
    · refine bf_aload_n r.1 dX3_renew_25 rfl ?_
      refine ig_ref r (b := (8 + 3 * k)) dX3_renew_26 fl_X3_15 (ad_c6 hk) (ad_l6 hk) (ad_r6_2 hk) ?_
      refine bf_iload r.1 dX3_renew_29 rfl ?_
      refine bf_iconst r.1 (v := nI 0) dX3_renew_31 rfl ?_
      refine ia_st r (n := 7) dX3_renew_32 (ad_k8 hk) (ad_l8 hk) (by omega) ?_
      refine na_inc r (v := j + 1) (L2 := [some (.ref (6 + 3 * k)), some (.int (nI q)), some (.int (nI dd)), some (.int (nI st)), some (.int (nI (j + 1)))]) dX3_renew_33 rfl (nI_add _ 1) rfl ?_
      refine bf_goto r.1 (tgt := 18) dX3_renew_36 (by decide) ?_
      exact ih c58
  exact loop 0 (by omega) 
def bf_cz (D : bf_D) (a : Nat) (p : Nat → Bool) : Nat → bf_D
  | 0 => D
  | n + 1 => if p n = true then bf_u (bf_cz D a p n) a n (nI 0) else bf_cz D a p n
theorem bf_cz_o {D : bf_D} {a : Nat} {p : Nat → Bool} {b j : Nat} (h : b ≠ a) : ∀ n, bf_cz D a p n b j = D b j := by
  intro n
  induction n with
  | zero => rfl
  | succ n ih =>
    simp only [bf_cz]
    split
    · rw [bf_un (Or.inl h)]; exact ih
    · exact ih
theorem bf_cz_in {D : bf_D} {a : Nat} {p : Nat → Bool} {j : Nat} : ∀ n, bf_cz D a p n a j = if j < n ∧ p j = true then nI 0 else D a j := by
  intro n
  induction n with
  | zero => simp [bf_cz]
  | succ n ih =>
    simp only [bf_cz]
    by_cases hp : p n = true
    · rw [if_pos hp]
      by_cases e : j = n
      · subst e; rw [bf_us, if_pos ⟨by omega, hp⟩]
      · rw [bf_un (Or.inr e), ih]
        exact bf_ifc ⟨fun h => ⟨by omega, h.2⟩, fun h => ⟨by omega, h.2⟩⟩
    · rw [if_neg hp, ih]
      refine bf_ifc ⟨fun h => ⟨by omega, h.2⟩, fun h => ⟨?_, h.2⟩⟩
      by_cases e : j = n
      · subst e; exact absurd h.2 hp
      · omega
/-- the bars that were dead and are not -/
def bf_wh (dd s b : Nat) : Bool := decide ((dd &&& (127 ^^^ s)) / 2 ^ b &&& 1 ≠ 0)
def bf_xD (D : bf_D) (k dd s n : Nat) : bf_D := bf_cz (bf_u D (6 + 3 * k) 4 (nI s)) (8 + 3 * k) (bf_wh dd s) n
theorem c_X3_exchangeDead {d : Nat} (hd : 5 ≤ d) {D : bf_D} (hl : lkF D) {k q dd st s : Nat} (hk : k < 4) (h3 : D (6 + 3 * k) 3 = nI q) (h4 : D (6 + 3 * k) 4 = nI dd) (h5 : D (6 + 3 * k) 5 = nI st) (hq : q < 3) (hdd : dd < 128) (hs : s < 128) : bf_Cf d mX3_exchangeDead [.ref (6 + 3 * k), .int (nI s)] D (some (.int (nI dd))) (bf_lD (bf_xD D k dd s 7) k q s st) := by
  refine bf_Cf_of 4 hd mo_X3_exchangeDead (Nat.le_of_ble_eq_true rfl) (fun e he J r => ?_)
  show J 0 [some (.ref (6 + 3 * k)), some (.int (nI s)), none, none, none] [] (bf_MD D)
  refine bf_aload_n r.1 dX3_exchangeDead_0 rfl ?_
  refine ig_int r (v := nI dd) dX3_exchangeDead_1 fl_X3_26 (ad_c6 hk) (ad_l6 hk) (ad_i6 hk 4 (by decide)) h4 ?_
  refine bf_istore_n r.1 (L2 := [some (.ref (6 + 3 * k)), some (.int (nI s)), some (.int (nI dd)), none, none]) dX3_exchangeDead_4 rfl ?_
  refine bf_aload_n r.1 dX3_exchangeDead_5 rfl ?_
  refine bf_iload_n r.1 dX3_exchangeDead_6 rfl ?_
  refine ip_int r dX3_exchangeDead_7 fp_X3_26 (ad_c6 hk) (ad_l6 hk) (ad_i6 hk 4 (by decide)) ?_
  refine bf_iload_n r.1 dX3_exchangeDead_10 rfl ?_
  refine bf_iload_n r.1 dX3_exchangeDead_11 rfl ?_
  refine bf_iconst r.1 (v := -1) dX3_exchangeDead_12 rfl ?_
  refine bf_ixor r.1 dX3_exchangeDead_13 ?_
  refine bf_iand r.1 dX3_exchangeDead_14 ?_
  refine eq_i (bf_nand hdd hs) ?_
  refine bf_istore_n r.1 (L2 := [some (.ref (6 + 3 * k)), some (.int (nI s)), some (.int (nI dd)), some (.int (nI (dd &&& (127 ^^^ s)))), none]) dX3_exchangeDead_15 rfl ?_
  refine bf_iconst r.1 (v := nI 0) dX3_exchangeDead_16 rfl ?_
  refine bf_istore r.1 (L2 := [some (.ref (6 + 3 * k)), some (.int (nI s)), some (.int (nI dd)), some (.int (nI (dd &&& (127 ^^^ s)))), some (.int (nI 0))]) dX3_exchangeDead_17 rfl ?_
  have loop : ∀ j : Nat, j ≤ 7 → J 19 [some (.ref (6 + 3 * k)), some (.int (nI s)), some (.int (nI dd)), some (.int (nI (dd &&& (127 ^^^ s)))), some (.int (nI j))] [] (bf_MD (bf_xD D k dd s j)) := by
    refine bf_down (fun j hle ih => ?_)
    refine bf_iload r.1 dX3_exchangeDead_19 rfl ?_
    refine bf_bipush r.1 (v := nI 7) dX3_exchangeDead_21 rfl ?_
    refine nc_ge r (tgt := 49) dX3_exchangeDead_23 (by decide) (by omega) (by decide) (fun c59 => ?_) (fun c59 => ?_)
    · have ej : j = 7 := by omega
      subst ej
      refine bf_aload_n r.1 dX3_exchangeDead_49 rfl ?_
      refine cl_v r (y2 := mX3_light) dX3_exchangeDead_50 li_X3_32 mv_X3_light (ad_c6 hk) (ad_l6 hk) [] [] rfl (Nat.le_of_ble_eq_true rfl) rfl (c_X3_light (by omega) (fun i hi => ((bf_cz_o (by omega) 7).trans (bf_un (by omega))).trans (hl i hi)) hk ((bf_cz_o (by omega) 7).trans ((bf_un (by omega)).trans h3)) ((bf_cz_o (by omega) 7).trans bf_us) ((bf_cz_o (by omega) 7).trans ((bf_un (by omega)).trans h5)) hq hs) ?_
      show J 53 [some (.ref (6 + 3 * k)), some (.int (nI s)), some (.int (nI dd)), some (.int (nI (dd &&& (127 ^^^ s)))), some (.int (nI 7))] [] (bf_MD (bf_lD (bf_xD D k dd s 7) k q s st))
      refine bf_iload_n r.1 dX3_exchangeDead_53 rfl ?_
      exact rt_i r dX3_exchangeDead_54 rfl rfl rfl rfl
    · refine bf_iload_n r.1 dX3_exchangeDead_26 rfl ?_
      refine bf_iload r.1 dX3_exchangeDead_27 rfl ?_
      refine na_shr r dX3_exchangeDead_29 (by omega) (bf_lt31 (bf_and_lt hdd) (by decide)) ?_
      refine bf_iconst r.1 (v := nI 1) dX3_exchangeDead_30 rfl ?_
      refine na_and r dX3_exchangeDead_31  ?_
      refine nz_eq r (tgt := 43) dX3_exchangeDead_32 (by decide) (bf_and1_lt _) (fun c60 => ?_) (fun c60 => ?_)
      · refine na_inc r (v := j + 1) (L2 := [some (.ref (6 + 3 * k)), some (.int (nI s)), some (.int (nI dd)), some (.int (nI (dd &&& (127 ^^^ s)))), some (.int (nI (j + 1)))]) dX3_exchangeDead_43 rfl (nI_add _ 1) rfl ?_
        refine bf_goto r.1 (tgt := 19) dX3_exchangeDead_46 (by decide) ?_
        have hi := ih c59
        unfold bf_xD at hi
        simp only [bf_cz] at hi
        rw [if_neg (show ¬ bf_wh dd s j = true from fun h => (of_decide_eq_true h) c60)] at hi
        exact hi
      · refine bf_aload_n r.1 dX3_exchangeDead_35 rfl ?_
        refine ig_ref r (b := (8 + 3 * k)) dX3_exchangeDead_36 fl_X3_15 (ad_c6 hk) (ad_l6 hk) (ad_r6_2 hk) ?_
        refine bf_iload r.1 dX3_exchangeDead_39 rfl ?_
        refine bf_iconst r.1 (v := nI 0) dX3_exchangeDead_41 rfl ?_
        refine ia_st r (n := 7) dX3_exchangeDead_42 (ad_k8 hk) (ad_l8 hk) (by omega) ?_
        refine na_inc r (v := j + 1) (L2 := [some (.ref (6 + 3 * k)), some (.int (nI s)), some (.int (nI dd)), some (.int (nI (dd &&& (127 ^^^ s)))), some (.int (nI (j + 1)))]) dX3_exchangeDead_43 rfl (nI_add _ 1) rfl ?_
        refine bf_goto r.1 (tgt := 19) dX3_exchangeDead_46 (by decide) ?_
        have hi := ih c59
        unfold bf_xD at hi
        simp only [bf_cz] at hi
        rw [if_pos (show bf_wh dd s j = true from decide_eq_true c60)] at hi
        exact hi
  exact loop 0 (by omega) 
theorem c_X3_exchangeStuck {d : Nat} (hd : 5 ≤ d) {D : bf_D} (hl : lkF D) {k q dd st s : Nat} (hk : k < 4) (h3 : D (6 + 3 * k) 3 = nI q) (h4 : D (6 + 3 * k) 4 = nI dd) (h5 : D (6 + 3 * k) 5 = nI st) (hq : q < 3) (hdd : dd < 128) : bf_Cf d mX3_exchangeStuck [.ref (6 + 3 * k), .int (nI s)] D (some (.int (nI st))) (bf_lD (bf_u D (6 + 3 * k) 5 (nI s)) k q dd s) := by
  refine bf_Cf_of 4 hd mo_X3_exchangeStuck (Nat.le_of_ble_eq_true rfl) (fun e he J r => ?_)
  show J 0 [some (.ref (6 + 3 * k)), some (.int (nI s)), none] [] (bf_MD D)
  refine bf_aload_n r.1 dX3_exchangeStuck_0 rfl ?_
  refine ig_int r (v := nI st) dX3_exchangeStuck_1 fl_X3_29 (ad_c6 hk) (ad_l6 hk) (ad_i6 hk 5 (by decide)) h5 ?_
  refine bf_istore_n r.1 (L2 := [some (.ref (6 + 3 * k)), some (.int (nI s)), some (.int (nI st))]) dX3_exchangeStuck_4 rfl ?_
  refine bf_aload_n r.1 dX3_exchangeStuck_5 rfl ?_
  refine bf_iload_n r.1 dX3_exchangeStuck_6 rfl ?_
  refine ip_int r dX3_exchangeStuck_7 fp_X3_29 (ad_c6 hk) (ad_l6 hk) (ad_i6 hk 5 (by decide)) ?_
  refine bf_aload_n r.1 dX3_exchangeStuck_10 rfl ?_
  refine cl_v r (y2 := mX3_light) dX3_exchangeStuck_11 li_X3_32 mv_X3_light (ad_c6 hk) (ad_l6 hk) [] [] rfl (Nat.le_of_ble_eq_true rfl) rfl (c_X3_light (by omega) (fun i hi => (bf_un (by omega)).trans (hl i hi)) hk ((bf_un (by omega)).trans h3) ((bf_un (by omega)).trans h4) bf_us hq hdd) ?_
  show J 14 [some (.ref (6 + 3 * k)), some (.int (nI s)), some (.int (nI st))] [] (bf_MD (bf_lD (bf_u D (6 + 3 * k) 5 (nI s)) k q dd s))
  refine bf_iload_n r.1 dX3_exchangeStuck_14 rfl ?_
  exact rt_i r dX3_exchangeStuck_15 rfl rfl rfl rfl
