/-- one digit tried: the number, its flips; what is nearest so far -/
def bf_nst (x own c : Nat) (nb : Int32) (st : Int32 × Nat) : Int32 × Nat := if x = own then st else if c < st.2 then (nb, c) else if c = st.2 then (if st.1 ≤ nb then st else (nb, c)) else st
def pnI (P : bf_Pn) (v k ww : Nat) (st : Int32 × Nat) : Nat → Int32 × Nat
  | 0 => st
  | x + 1 => bf_nst x (pG P v k) (bf_pc (pB P k (pG P v k) ^^^ pB P k x)) (nI v + nI ww * (nI x - nI (pG P v k))) (pnI P v k ww st x)
def pnO (P : bf_Pn) (v : Nat) : Nat → Nat → Int32 × Nat → Int32 × Nat
  | 0, _, st => st
  | k + 1, ww, st => pnO P v k (ww * 10) (pnI P v k ww st 10)
theorem bf_nst_le {x own c : Nat} {nb : Int32} {st : Int32 × Nat} {B : Nat} (h : st.2 ≤ B) (hc : c ≤ B) : (bf_nst x own c nb st).2 ≤ B := by
  unfold bf_nst
  split
  · exact h
  · split
    · exact hc
    · split
      · split
        · exact h
        · exact hc
      · exact h
theorem pnI_le {P : bf_Pn} {v k ww : Nat} {st : Int32 × Nat} (h : st.2 ≤ 29) : ∀ x, (pnI P v k ww st x).2 ≤ 29 := by
  intro x
  induction x with
  | zero => exact h
  | succ x ih => exact bf_nst_le ih (Nat.le_trans (bf_pc_le _) (by decide))
theorem c_X2_nearestUnlike {d : Nat} (hd : 3 ≤ d) {D : bf_D} {P : bf_Pn} (hv : vP P) (hc : cP D P) (h1 : 1 ≤ pN P) {v : Nat} (hw : v < 2 ^ 31) : bf_Cf d mX2_nearestUnlike [.ref 2, .int (nI v)] D (some (.int (pnO P v (pN P) 1 (-9, 29)).1)) D := by
  refine bf_Cf_of 2 hd mo_X2_nearestUnlike (Nat.le_of_ble_eq_true rfl) (fun e he J r => ?_)
  show J 0 [some (.ref 2), some (.int (nI v)), none, none, none, none, none, none, none, none] [] (bf_MD D)
  have hn4 := hv.1
  have hx4 := pX_le hv
  have hx0 := pX_pos P
  refine bf_bipush r.1 (v := -9) dX2_nearestUnlike_0 rfl ?_
  refine bf_istore_n r.1 (L2 := [some (.ref 2), some (.int (nI v)), some (.int (-9)), none, none, none, none, none, none, none]) dX2_nearestUnlike_2 rfl ?_
  refine bf_bipush r.1 (v := nI 29) dX2_nearestUnlike_3 rfl ?_
  refine bf_istore_n r.1 (L2 := [some (.ref 2), some (.int (nI v)), some (.int (-9)), some (.int (nI 29)), none, none, none, none, none, none]) dX2_nearestUnlike_5 rfl ?_
  refine bf_iconst r.1 (v := nI 1) dX2_nearestUnlike_6 rfl ?_
  refine bf_istore r.1 (L2 := [some (.ref 2), some (.int (nI v)), some (.int (-9)), some (.int (nI 29)), some (.int (nI 1)), none, none, none, none, none]) dX2_nearestUnlike_7 rfl ?_
  refine bf_aload_n r.1 dX2_nearestUnlike_9 rfl ?_
  refine ig_int r (v := nI (pN P)) dX2_nearestUnlike_10 fl_X2_32 rfl (by decide) rfl (cP_n (P := P) hc) ?_
  refine bf_iconst r.1 (v := nI 1) dX2_nearestUnlike_13 rfl ?_
  refine na_sub r dX2_nearestUnlike_14 (by omega) ?_
  refine bf_istore r.1 (L2 := [some (.ref 2), some (.int (nI v)), some (.int (-9)), some (.int (nI 29)), some (.int (nI 1)), some (.int (nI (pN P - 1))), none, none, none, none]) dX2_nearestUnlike_15 rfl ?_
  rw [show nI (pN P - 1) = nI (pN P) + Int32.ofInt (-1) from (bf_dec (by omega)).symm]
  have loop : ∀ (k ww : Nat) (st : Int32 × Nat), k ≤ pN P → st.2 ≤ 29 → (pnO P v k ww st).1 = (pnO P v (pN P) 1 (-9, 29)).1 → J 17 [some (.ref 2), some (.int (nI v)), some (.int (st.1)), some (.int (nI st.2)), some (.int (nI ww)), some (.int (nI k + Int32.ofInt (-1))), none, none, none, none] [] (bf_MD D) := by
    intro k
    induction k with
    | zero =>
      intro ww st hs0 hs1 he
      rw [bf_m0]
      refine bf_iload r.1 dX2_nearestUnlike_17 rfl ?_
      refine bf_if_lt r.1 (tgt := 133) dX2_nearestUnlike_19 (by decide) (fun c41 => ?_) (fun c41 => ?_)
      · refine bf_iload_n r.1 dX2_nearestUnlike_133 rfl ?_
        exact rt_i r dX2_nearestUnlike_134 rfl rfl (by rw [← he]; rfl) rfl
      · exact absurd (by decide) c41
    | succ k ih =>
      intro ww st hs0 hs1 he
      rw [bf_ms1]
      have hk : k < pN P := hs0
      refine bf_iload r.1 dX2_nearestUnlike_17 rfl ?_
      refine nz_lt r (tgt := 133) dX2_nearestUnlike_19 (by decide) (by omega) (fun c42 => ?_) (fun c42 => ?_)
      · exact absurd c42 (Nat.not_lt_zero _)
      · refine bf_aload_n r.1 dX2_nearestUnlike_22 rfl ?_
        refine bf_iload_n r.1 dX2_nearestUnlike_23 rfl ?_
        refine bf_iload r.1 dX2_nearestUnlike_24 rfl ?_
        refine cl_v r (y2 := mX2_digitOf) dX2_nearestUnlike_26 li_X2_54 mv_X2_digitOf rfl (by decide) [.int (nI v), .int (nI k)] [] rfl (Nat.le_of_ble_eq_true rfl) rfl (c_X2_digitOf (by omega) hv hc hw hk) ?_
        show J 29 [some (.ref 2), some (.int (nI v)), some (.int (st.1)), some (.int (nI st.2)), some (.int (nI ww)), some (.int (nI k)), none, none, none, none] [.int (nI (pG P v k))] (bf_MD D)
        refine bf_istore r.1 (L2 := [some (.ref 2), some (.int (nI v)), some (.int (st.1)), some (.int (nI st.2)), some (.int (nI ww)), some (.int (nI k)), some (.int (nI (pG P v k))), none, none, none]) dX2_nearestUnlike_29 rfl ?_
        refine bf_iconst r.1 (v := nI 0) dX2_nearestUnlike_31 rfl ?_
        refine bf_istore r.1 (L2 := [some (.ref 2), some (.int (nI v)), some (.int (st.1)), some (.int (nI st.2)), some (.int (nI ww)), some (.int (nI k)), some (.int (nI (pG P v k))), some (.int (nI 0)), none, none]) dX2_nearestUnlike_32 rfl ?_
        have ih0 := ih
        have inner : ∀ x : Nat, x ≤ 10 → J 34 [some (.ref 2), some (.int (nI v)), some (.int ((pnI P v k ww st x).1)), some (.int (nI ((pnI P v k ww st x).2))), some (.int (nI ww)), some (.int (nI k)), some (.int (nI (pG P v k))), some (.int (nI x)), none, none] [] (bf_MD D) := by
          refine bf_down (fun x hle ih => ?_)
          have hf := pnI_le (P := P) (v := v) (k := k) (ww := ww) hs1 x
          have hpc := bf_pc_le (pB P k (pG P v k) ^^^ pB P k x)
          refine bf_iload r.1 dX2_nearestUnlike_34 rfl ?_
          refine bf_bipush r.1 (v := nI 10) dX2_nearestUnlike_36 rfl ?_
          refine nc_ge r (tgt := 120) dX2_nearestUnlike_38 (by decide) (by omega) (by decide) (fun c43 => ?_) (fun c43 => ?_)
          · have ex : x = 10 := by omega
            subst ex
            refine bf_iload r.1 dX2_nearestUnlike_120 rfl ?_
            refine bf_bipush r.1 (v := nI 10) dX2_nearestUnlike_122 rfl ?_
            refine na_mul r dX2_nearestUnlike_124  ?_
            refine bf_istore r.1 (L2 := [some (.ref 2), some (.int (nI v)), some (.int ((pnI P v k ww st 10).1)), some (.int (nI ((pnI P v k ww st 10).2))), some (.int (nI (ww * 10))), some (.int (nI k)), some (.int (nI (pG P v k))), some (.int (nI 10)), none, none]) dX2_nearestUnlike_125 rfl ?_
            refine bf_iinc r.1 (v := nI k + Int32.ofInt (-1)) (L2 := [some (.ref 2), some (.int (nI v)), some (.int ((pnI P v k ww st 10).1)), some (.int (nI ((pnI P v k ww st 10).2))), some (.int (nI (ww * 10))), some (.int (nI k + Int32.ofInt (-1))), some (.int (nI (pG P v k))), some (.int (nI 10)), none, none]) dX2_nearestUnlike_127 rfl rfl rfl ?_
            refine bf_goto r.1 (tgt := 17) dX2_nearestUnlike_130 (by decide) ?_
            refine bf_fgt r.1 (i := 6) (L2 := [some (.ref 2), some (.int (nI v)), some (.int ((pnI P v k ww st 10).1)), some (.int (nI ((pnI P v k ww st 10).2))), some (.int (nI (ww * 10))), some (.int (nI k + Int32.ofInt (-1))), none, some (.int (nI 10)), none, none]) rfl ?_
            refine bf_fgt r.1 (i := 7) (L2 := [some (.ref 2), some (.int (nI v)), some (.int ((pnI P v k ww st 10).1)), some (.int (nI ((pnI P v k ww st 10).2))), some (.int (nI (ww * 10))), some (.int (nI k + Int32.ofInt (-1))), none, none, none, none]) rfl ?_
            exact ih0 _ _ (by omega) (pnI_le hs1 10) he
          · refine bf_iload_n r.1 dX2_nearestUnlike_41 rfl ?_
            refine bf_iload r.1 dX2_nearestUnlike_42 rfl ?_
            refine bf_iload r.1 dX2_nearestUnlike_44 rfl ?_
            refine bf_iload r.1 dX2_nearestUnlike_46 rfl ?_
            refine bf_isub r.1 dX2_nearestUnlike_48 ?_
            refine bf_imul r.1 dX2_nearestUnlike_49 ?_
            refine bf_iadd r.1 dX2_nearestUnlike_50 ?_
            refine bf_istore r.1 (L2 := [some (.ref 2), some (.int (nI v)), some (.int ((pnI P v k ww st x).1)), some (.int (nI ((pnI P v k ww st x).2))), some (.int (nI ww)), some (.int (nI k)), some (.int (nI (pG P v k))), some (.int (nI x)), some (.int ((nI v) + ((nI ww) * ((nI x) - (nI (pG P v k)))))), none]) dX2_nearestUnlike_51 rfl ?_
            refine bf_aload_n r.1 dX2_nearestUnlike_53 rfl ?_
            refine ig_ref r (b := 3) dX2_nearestUnlike_54 fl_X2_11 rfl (by decide) rfl ?_
            refine bf_iload r.1 dX2_nearestUnlike_57 rfl ?_
            refine aa_ld r (n := 4) (b := 6 + 3 * k) dX2_nearestUnlike_59 (by decide) rfl (by decide) (Nat.lt_of_lt_of_le hk hn4) (ad_a3 (Nat.lt_of_lt_of_le hk hn4)) ?_
            refine bf_iload r.1 dX2_nearestUnlike_60 rfl ?_
            refine cl_v r (y2 := mX3_lit) dX2_nearestUnlike_62 li_X2_57 mv_X3_lit (ad_c6 (Nat.lt_of_lt_of_le hk hn4)) (ad_l6 (Nat.lt_of_lt_of_le hk hn4)) [.int (nI (pG P v k))] [] rfl (Nat.le_of_ble_eq_true rfl) rfl (c_X3_lit (by omega) hv hc hk (pG_lt P v k)) ?_
            show J 65 [some (.ref 2), some (.int (nI v)), some (.int ((pnI P v k ww st x).1)), some (.int (nI ((pnI P v k ww st x).2))), some (.int (nI ww)), some (.int (nI k)), some (.int (nI (pG P v k))), some (.int (nI x)), some (.int ((nI v) + ((nI ww) * ((nI x) - (nI (pG P v k)))))), none] [.int (nI (pB P k (pG P v k)))] (bf_MD D)
            refine bf_aload_n r.1 dX2_nearestUnlike_65 rfl ?_
            refine ig_ref r (b := 3) dX2_nearestUnlike_66 fl_X2_11 rfl (by decide) rfl ?_
            refine bf_iload r.1 dX2_nearestUnlike_69 rfl ?_
            refine aa_ld r (n := 4) (b := 6 + 3 * k) dX2_nearestUnlike_71 (by decide) rfl (by decide) (Nat.lt_of_lt_of_le hk hn4) (ad_a3 (Nat.lt_of_lt_of_le hk hn4)) ?_
            refine bf_iload r.1 dX2_nearestUnlike_72 rfl ?_
            refine cl_v r (y2 := mX3_lit) dX2_nearestUnlike_74 li_X2_57 mv_X3_lit (ad_c6 (Nat.lt_of_lt_of_le hk hn4)) (ad_l6 (Nat.lt_of_lt_of_le hk hn4)) [.int (nI x)] [.int (nI (pB P k (pG P v k)))] rfl (Nat.le_of_ble_eq_true rfl) rfl (c_X3_lit (by omega) hv hc hk (by omega)) ?_
            show J 77 [some (.ref 2), some (.int (nI v)), some (.int ((pnI P v k ww st x).1)), some (.int (nI ((pnI P v k ww st x).2))), some (.int (nI ww)), some (.int (nI k)), some (.int (nI (pG P v k))), some (.int (nI x)), some (.int ((nI v) + ((nI ww) * ((nI x) - (nI (pG P v k)))))), none] [.int (nI (pB P k x)), .int (nI (pB P k (pG P v k)))] (bf_MD D)
            refine na_xor r dX2_nearestUnlike_77  ?_
            refine cl_s r (y2 := mJ6_bitCount_0f7a4) dX2_nearestUnlike_78 li_X2_48 mv_J6_bitCount_0f7a4 [.int (nI ((pB P k (pG P v k)) ^^^ (pB P k x)))] [] rfl (Nat.le_of_ble_eq_true rfl) rfl (c_J6_bitCount (by omega) D (bf_1024 (bf_xor_lt (pB_lt hv hk _) (pB_lt hv hk _)))) ?_
            show J 81 [some (.ref 2), some (.int (nI v)), some (.int ((pnI P v k ww st x).1)), some (.int (nI ((pnI P v k ww st x).2))), some (.int (nI ww)), some (.int (nI k)), some (.int (nI (pG P v k))), some (.int (nI x)), some (.int ((nI v) + ((nI ww) * ((nI x) - (nI (pG P v k)))))), none] [.int (nI (bf_pc ((pB P k (pG P v k)) ^^^ (pB P k x))))] (bf_MD D)
            refine bf_istore r.1 (L2 := [some (.ref 2), some (.int (nI v)), some (.int ((pnI P v k ww st x).1)), some (.int (nI ((pnI P v k ww st x).2))), some (.int (nI ww)), some (.int (nI k)), some (.int (nI (pG P v k))), some (.int (nI x)), some (.int ((nI v) + ((nI ww) * ((nI x) - (nI (pG P v k)))))), some (.int (nI (bf_pc ((pB P k (pG P v k)) ^^^ (pB P k x)))))]) dX2_nearestUnlike_81 rfl ?_
            refine bf_iload r.1 dX2_nearestUnlike_83 rfl ?_
            refine bf_iload r.1 dX2_nearestUnlike_85 rfl ?_
            refine nc_eq r (tgt := 114) dX2_nearestUnlike_87 (by decide) (by omega) (bf_lt31 (pG_lt P v k) (by decide)) (fun c44 => ?_) (fun c44 => ?_)
            · refine na_inc r (v := x + 1) (L2 := [some (.ref 2), some (.int (nI v)), some (.int ((pnI P v k ww st x).1)), some (.int (nI ((pnI P v k ww st x).2))), some (.int (nI ww)), some (.int (nI k)), some (.int (nI (pG P v k))), some (.int (nI (x + 1))), some (.int ((nI v) + ((nI ww) * ((nI x) - (nI (pG P v k)))))), some (.int (nI (bf_pc ((pB P k (pG P v k)) ^^^ (pB P k x)))))]) dX2_nearestUnlike_114 rfl (nI_add _ 1) rfl ?_
              refine bf_goto r.1 (tgt := 34) dX2_nearestUnlike_117 (by decide) ?_
              refine bf_fgt r.1 (i := 8) (L2 := [some (.ref 2), some (.int (nI v)), some (.int ((pnI P v k ww st x).1)), some (.int (nI ((pnI P v k ww st x).2))), some (.int (nI ww)), some (.int (nI k)), some (.int (nI (pG P v k))), some (.int (nI (x + 1))), none, some (.int (nI (bf_pc ((pB P k (pG P v k)) ^^^ (pB P k x)))))]) rfl ?_
              refine bf_fgt r.1 (i := 9) (L2 := [some (.ref 2), some (.int (nI v)), some (.int ((pnI P v k ww st x).1)), some (.int (nI ((pnI P v k ww st x).2))), some (.int (nI ww)), some (.int (nI k)), some (.int (nI (pG P v k))), some (.int (nI (x + 1))), none, none]) rfl ?_
              have hi := ih c43
              simp only [pnI, bf_nst] at hi
              rw [if_pos c44] at hi
              exact hi
            · refine bf_iload r.1 dX2_nearestUnlike_90 rfl ?_
              refine bf_iload_n r.1 dX2_nearestUnlike_92 rfl ?_
              refine nc_lt r (tgt := 108) dX2_nearestUnlike_93 (by decide) (by omega) (by omega) (fun c45 => ?_) (fun c45 => ?_)
              · refine bf_iload r.1 dX2_nearestUnlike_108 rfl ?_
                refine bf_istore_n r.1 (L2 := [some (.ref 2), some (.int (nI v)), some (.int ((nI v) + ((nI ww) * ((nI x) - (nI (pG P v k)))))), some (.int (nI ((pnI P v k ww st x).2))), some (.int (nI ww)), some (.int (nI k)), some (.int (nI (pG P v k))), some (.int (nI x)), some (.int ((nI v) + ((nI ww) * ((nI x) - (nI (pG P v k)))))), some (.int (nI (bf_pc ((pB P k (pG P v k)) ^^^ (pB P k x)))))]) dX2_nearestUnlike_110 rfl ?_
                refine bf_iload r.1 dX2_nearestUnlike_111 rfl ?_
                refine bf_istore_n r.1 (L2 := [some (.ref 2), some (.int (nI v)), some (.int ((nI v) + ((nI ww) * ((nI x) - (nI (pG P v k)))))), some (.int (nI (bf_pc ((pB P k (pG P v k)) ^^^ (pB P k x))))), some (.int (nI ww)), some (.int (nI k)), some (.int (nI (pG P v k))), some (.int (nI x)), some (.int ((nI v) + ((nI ww) * ((nI x) - (nI (pG P v k)))))), some (.int (nI (bf_pc ((pB P k (pG P v k)) ^^^ (pB P k x)))))]) dX2_nearestUnlike_113 rfl ?_
                refine na_inc r (v := x + 1) (L2 := [some (.ref 2), some (.int (nI v)), some (.int ((nI v) + ((nI ww) * ((nI x) - (nI (pG P v k)))))), some (.int (nI (bf_pc ((pB P k (pG P v k)) ^^^ (pB P k x))))), some (.int (nI ww)), some (.int (nI k)), some (.int (nI (pG P v k))), some (.int (nI (x + 1))), some (.int ((nI v) + ((nI ww) * ((nI x) - (nI (pG P v k)))))), some (.int (nI (bf_pc ((pB P k (pG P v k)) ^^^ (pB P k x)))))]) dX2_nearestUnlike_114 rfl (nI_add _ 1) rfl ?_
                refine bf_goto r.1 (tgt := 34) dX2_nearestUnlike_117 (by decide) ?_
                refine bf_fgt r.1 (i := 8) (L2 := [some (.ref 2), some (.int (nI v)), some (.int ((nI v) + ((nI ww) * ((nI x) - (nI (pG P v k)))))), some (.int (nI (bf_pc ((pB P k (pG P v k)) ^^^ (pB P k x))))), some (.int (nI ww)), some (.int (nI k)), some (.int (nI (pG P v k))), some (.int (nI (x + 1))), none, some (.int (nI (bf_pc ((pB P k (pG P v k)) ^^^ (pB P k x)))))]) rfl ?_
                refine bf_fgt r.1 (i := 9) (L2 := [some (.ref 2), some (.int (nI v)), some (.int ((nI v) + ((nI ww) * ((nI x) - (nI (pG P v k)))))), some (.int (nI (bf_pc ((pB P k (pG P v k)) ^^^ (pB P k x))))), some (.int (nI ww)), some (.int (nI k)), some (.int (nI (pG P v k))), some (.int (nI (x + 1))), none, none]) rfl ?_
                have hi := ih c43
                simp only [pnI, bf_nst] at hi
                rw [if_neg c44, if_pos c45] at hi
                exact hi
              · refine bf_iload r.1 dX2_nearestUnlike_96 rfl ?_
                refine bf_iload_n r.1 dX2_nearestUnlike_98 rfl ?_
                refine nc_ne r (tgt := 114) dX2_nearestUnlike_99 (by decide) (by omega) (by omega) (fun c46 => ?_) (fun c46 => ?_)
                · refine na_inc r (v := x + 1) (L2 := [some (.ref 2), some (.int (nI v)), some (.int ((pnI P v k ww st x).1)), some (.int (nI ((pnI P v k ww st x).2))), some (.int (nI ww)), some (.int (nI k)), some (.int (nI (pG P v k))), some (.int (nI (x + 1))), some (.int ((nI v) + ((nI ww) * ((nI x) - (nI (pG P v k)))))), some (.int (nI (bf_pc ((pB P k (pG P v k)) ^^^ (pB P k x)))))]) dX2_nearestUnlike_114 rfl (nI_add _ 1) rfl ?_
                  refine bf_goto r.1 (tgt := 34) dX2_nearestUnlike_117 (by decide) ?_
                  refine bf_fgt r.1 (i := 8) (L2 := [some (.ref 2), some (.int (nI v)), some (.int ((pnI P v k ww st x).1)), some (.int (nI ((pnI P v k ww st x).2))), some (.int (nI ww)), some (.int (nI k)), some (.int (nI (pG P v k))), some (.int (nI (x + 1))), none, some (.int (nI (bf_pc ((pB P k (pG P v k)) ^^^ (pB P k x)))))]) rfl ?_
                  refine bf_fgt r.1 (i := 9) (L2 := [some (.ref 2), some (.int (nI v)), some (.int ((pnI P v k ww st x).1)), some (.int (nI ((pnI P v k ww st x).2))), some (.int (nI ww)), some (.int (nI k)), some (.int (nI (pG P v k))), some (.int (nI (x + 1))), none, none]) rfl ?_
                  have hi := ih c43
                  simp only [pnI, bf_nst] at hi
                  rw [if_neg c44, if_neg (Nat.not_lt.mpr c45), if_neg c46] at hi
                  exact hi
                · refine bf_iload r.1 dX2_nearestUnlike_102 rfl ?_
                  refine bf_iload_n r.1 dX2_nearestUnlike_104 rfl ?_
                  refine bf_icmp_ge r.1 (tgt := 114) dX2_nearestUnlike_105 (by decide) (fun c47 => ?_) (fun c47 => ?_)
                  · refine na_inc r (v := x + 1) (L2 := [some (.ref 2), some (.int (nI v)), some (.int ((pnI P v k ww st x).1)), some (.int (nI ((pnI P v k ww st x).2))), some (.int (nI ww)), some (.int (nI k)), some (.int (nI (pG P v k))), some (.int (nI (x + 1))), some (.int ((nI v) + ((nI ww) * ((nI x) - (nI (pG P v k)))))), some (.int (nI (bf_pc ((pB P k (pG P v k)) ^^^ (pB P k x)))))]) dX2_nearestUnlike_114 rfl (nI_add _ 1) rfl ?_
                    refine bf_goto r.1 (tgt := 34) dX2_nearestUnlike_117 (by decide) ?_
                    refine bf_fgt r.1 (i := 8) (L2 := [some (.ref 2), some (.int (nI v)), some (.int ((pnI P v k ww st x).1)), some (.int (nI ((pnI P v k ww st x).2))), some (.int (nI ww)), some (.int (nI k)), some (.int (nI (pG P v k))), some (.int (nI (x + 1))), none, some (.int (nI (bf_pc ((pB P k (pG P v k)) ^^^ (pB P k x)))))]) rfl ?_
                    refine bf_fgt r.1 (i := 9) (L2 := [some (.ref 2), some (.int (nI v)), some (.int ((pnI P v k ww st x).1)), some (.int (nI ((pnI P v k ww st x).2))), some (.int (nI ww)), some (.int (nI k)), some (.int (nI (pG P v k))), some (.int (nI (x + 1))), none, none]) rfl ?_
                    have hi := ih c43
                    simp only [pnI, bf_nst] at hi
                    rw [if_neg c44, if_neg (Nat.not_lt.mpr c45), if_pos c46, if_pos c47] at hi
                    exact hi
                  · refine bf_iload r.1 dX2_nearestUnlike_108 rfl ?_
                    refine bf_istore_n r.1 (L2 := [some (.ref 2), some (.int (nI v)), some (.int ((nI v) + ((nI ww) * ((nI x) - (nI (pG P v k)))))), some (.int (nI ((pnI P v k ww st x).2))), some (.int (nI ww)), some (.int (nI k)), some (.int (nI (pG P v k))), some (.int (nI x)), some (.int ((nI v) + ((nI ww) * ((nI x) - (nI (pG P v k)))))), some (.int (nI (bf_pc ((pB P k (pG P v k)) ^^^ (pB P k x)))))]) dX2_nearestUnlike_110 rfl ?_
                    refine bf_iload r.1 dX2_nearestUnlike_111 rfl ?_
                    refine bf_istore_n r.1 (L2 := [some (.ref 2), some (.int (nI v)), some (.int ((nI v) + ((nI ww) * ((nI x) - (nI (pG P v k)))))), some (.int (nI (bf_pc ((pB P k (pG P v k)) ^^^ (pB P k x))))), some (.int (nI ww)), some (.int (nI k)), some (.int (nI (pG P v k))), some (.int (nI x)), some (.int ((nI v) + ((nI ww) * ((nI x) - (nI (pG P v k)))))), some (.int (nI (bf_pc ((pB P k (pG P v k)) ^^^ (pB P k x)))))]) dX2_nearestUnlike_113 rfl ?_
                    refine na_inc r (v := x + 1) (L2 := [some (.ref 2), some (.int (nI v)), some (.int ((nI v) + ((nI ww) * ((nI x) - (nI (pG P v k)))))), some (.int (nI (bf_pc ((pB P k (pG P v k)) ^^^ (pB P k x))))), some (.int (nI ww)), some (.int (nI k)), some (.int (nI (pG P v k))), some (.int (nI (x + 1))), some (.int ((nI v) + ((nI ww) * ((nI x) - (nI (pG P v k)))))), some (.int (nI (bf_pc ((pB P k (pG P v k)) ^^^ (pB P k x)))))]) dX2_nearestUnlike_114 rfl (nI_add _ 1) rfl ?_
                    refine bf_goto r.1 (tgt := 34) dX2_nearestUnlike_117 (by decide) ?_
                    refine bf_fgt r.1 (i := 8) (L2 := [some (.ref 2), some (.int (nI v)), some (.int ((nI v) + ((nI ww) * ((nI x) - (nI (pG P v k)))))), some (.int (nI (bf_pc ((pB P k (pG P v k)) ^^^ (pB P k x))))), some (.int (nI ww)), some (.int (nI k)), some (.int (nI (pG P v k))), some (.int (nI (x + 1))), none, some (.int (nI (bf_pc ((pB P k (pG P v k)) ^^^ (pB P k x)))))]) rfl ?_
                    refine bf_fgt r.1 (i := 9) (L2 := [some (.ref 2), some (.int (nI v)), some (.int ((nI v) + ((nI ww) * ((nI x) - (nI (pG P v k)))))), some (.int (nI (bf_pc ((pB P k (pG P v k)) ^^^ (pB P k x))))), some (.int (nI ww)), some (.int (nI k)), some (.int (nI (pG P v k))), some (.int (nI (x + 1))), none, none]) rfl ?_
                    have hi := ih c43
                    simp only [pnI, bf_nst] at hi
                    rw [if_neg c44, if_neg (Nat.not_lt.mpr c45), if_pos c46, if_neg c47] at hi
                    exact hi
        exact inner 0 (by omega) 
  exact loop (pN P) 1 (-9, 29) (Nat.le_refl _) (Nat.le_refl _) rfl
def pNr (P : bf_Pn) (v : Nat) : Int32 := if pA P v = 1 then (pnO P v (pN P) 1 (-9, 29)).1 else if bf_oN (pNa P v (pN P) 0 1 0) = nI v then bf_oN (pNa P v (pN P) 0 1 1) else bf_oN (pNa P v (pN P) 0 1 0)
theorem bf_pr_le {f : Nat → Nat} {B : Nat} (hf : ∀ k, f k ≤ B) : ∀ n, bf_pr f n ≤ B ^ n := by
  intro n
  induction n with
  | zero => exact Nat.le_refl _
  | succ n ih => rw [Nat.pow_succ]; exact Nat.mul_le_mul ih (hf n)
theorem pA_le {P : bf_Pn} (hv : vP P) (u : Nat) : pA P u ≤ 10000 := Nat.le_trans (bf_pr_le (fun k => bf_pc_le _) _) (pX_le hv)
theorem c_X2_nearestTo {d : Nat} (hd : 6 ≤ d) {D : bf_D} {P : bf_Pn} (hv : vP P) (hc : cP D P) (h1 : 1 ≤ pN P) {v : Nat} (hw : v < 2 ^ 31) : bf_Cf d mX2_nearestTo [.ref 2, .int (nI v)] D (some (.int (pNr P v))) D := by
  refine bf_Cf_of 5 hd mo_X2_nearestTo (Nat.le_of_ble_eq_true rfl) (fun e he J r => ?_)
  show J 0 [some (.ref 2), some (.int (nI v)), none] [] (bf_MD D)
  have hn4 := hv.1
  have hx4 := pX_le hv
  have hx0 := pX_pos P
  have hA := pA_le hv v
  refine bf_aload_n r.1 dX2_nearestTo_0 rfl ?_
  refine bf_iload_n r.1 dX2_nearestTo_1 rfl ?_
  refine cl_v r (y2 := mX2_countAlike) dX2_nearestTo_2 li_X2_86 mv_X2_countAlike rfl (by decide) [.int (nI v)] [] rfl (Nat.le_of_ble_eq_true rfl) rfl (c_X2_countAlike (by omega) hv hc (by omega)) ?_
  show J 5 [some (.ref 2), some (.int (nI v)), none] [.int (nI (pA P v))] (bf_MD D)
  refine bf_iconst r.1 (v := nI 1) dX2_nearestTo_5 rfl ?_
  refine nc_ne r (tgt := 15) dX2_nearestTo_6 (by decide) (by omega) (by decide) (fun c48 => ?_) (fun c48 => ?_)
  · refine bf_aload_n r.1 dX2_nearestTo_15 rfl ?_
    refine bf_iload_n r.1 dX2_nearestTo_16 rfl ?_
    refine bf_iconst r.1 (v := nI 0) dX2_nearestTo_17 rfl ?_
    refine cl_v r (y2 := mX2_numberAlike) dX2_nearestTo_18 li_X2_92 mv_X2_numberAlike rfl (by decide) [.int (nI v), .int (nI 0)] [] rfl (Nat.le_of_ble_eq_true rfl) rfl (c_X2_numberAlike (by omega) hv hc (by omega) (by omega) (by decide)) ?_
    show J 21 [some (.ref 2), some (.int (nI v)), none] [.int (bf_oN (pNa P v (pN P) 0 1 0))] (bf_MD D)
    refine bf_istore_n r.1 (L2 := [some (.ref 2), some (.int (nI v)), some (.int (bf_oN (pNa P v (pN P) 0 1 0)))]) dX2_nearestTo_21 rfl ?_
    refine bf_iload_n r.1 dX2_nearestTo_22 rfl ?_
    refine bf_iload_n r.1 dX2_nearestTo_23 rfl ?_
    refine bf_icmp_eq r.1 (tgt := 31) dX2_nearestTo_24 (by decide) (fun c49 => ?_) (fun c49 => ?_)
    · refine bf_aload_n r.1 dX2_nearestTo_31 rfl ?_
      refine bf_iload_n r.1 dX2_nearestTo_32 rfl ?_
      refine bf_iconst r.1 (v := nI 1) dX2_nearestTo_33 rfl ?_
      refine cl_v r (y2 := mX2_numberAlike) dX2_nearestTo_34 li_X2_92 mv_X2_numberAlike rfl (by decide) [.int (nI v), .int (nI 1)] [] rfl (Nat.le_of_ble_eq_true rfl) rfl (c_X2_numberAlike (by omega) hv hc (by omega) (by omega) (by decide)) ?_
      show J 37 [some (.ref 2), some (.int (nI v)), some (.int (bf_oN (pNa P v (pN P) 0 1 0)))] [.int (bf_oN (pNa P v (pN P) 0 1 1))] (bf_MD D)
      exact rt_i r dX2_nearestTo_37 rfl rfl (by unfold pNr; rw [if_neg c48, if_pos c49]) rfl
    · refine bf_iload_n r.1 dX2_nearestTo_27 rfl ?_
      refine bf_goto r.1 (tgt := 37) dX2_nearestTo_28 (by decide) ?_
      exact rt_i r dX2_nearestTo_37 rfl rfl (by unfold pNr; rw [if_neg c48, if_neg c49]) rfl
  · refine bf_aload_n r.1 dX2_nearestTo_9 rfl ?_
    refine bf_iload_n r.1 dX2_nearestTo_10 rfl ?_
    refine cl_v r (y2 := mX2_nearestUnlike) dX2_nearestTo_11 li_X2_89 mv_X2_nearestUnlike rfl (by decide) [.int (nI v)] [] rfl (Nat.le_of_ble_eq_true rfl) rfl (c_X2_nearestUnlike (by omega) hv hc (by omega) (by omega)) ?_
    show J 14 [some (.ref 2), some (.int (nI v)), none] [.int ((pnO P v (pN P) 1 (-9, 29)).1)] (bf_MD D)
    exact rt_i r dX2_nearestTo_14 rfl rfl (by unfold pNr; rw [if_pos c48]) rfl
