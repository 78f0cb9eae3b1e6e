/-- bars that flip wear, and die: the dead ones, how many died, the cells, after n bars -/
def bf_wd (fl lf : Nat) (wf : Nat → Nat) (dd : Nat) : Nat → Nat
  | 0 => dd
  | n + 1 => if fl / 2 ^ n &&& 1 = 0 then bf_wd fl lf wf dd n else if wf n + 1 < lf then bf_wd fl lf wf dd n else bf_wd fl lf wf dd n ||| 1 * 2 ^ n
def bf_wc (fl lf : Nat) (wf : Nat → Nat) : Nat → Nat
  | 0 => 0
  | n + 1 => if fl / 2 ^ n &&& 1 = 0 then bf_wc fl lf wf n else if wf n + 1 < lf then bf_wc fl lf wf n else bf_wc fl lf wf n + 1
def bf_wD (D : bf_D) (k fl lf : Nat) (wf : Nat → Nat) (dd : Nat) : Nat → bf_D
  | 0 => D
  | n + 1 => if fl / 2 ^ n &&& 1 = 0 then bf_wD D k fl lf wf dd n else if wf n + 1 < lf then bf_u (bf_wD D k fl lf wf dd n) (8 + 3 * k) n (nI (wf n + 1)) else bf_u (bf_u (bf_wD D k fl lf wf dd n) (8 + 3 * k) n (nI (wf n + 1))) (6 + 3 * k) 4 (nI (bf_wd fl lf wf dd n ||| 1 * 2 ^ n))
theorem bf_wD_hi {D : bf_D} {k fl lf : Nat} {wf : Nat → Nat} {dd : Nat} : ∀ {n j : Nat}, n ≤ j → bf_wD D k fl lf wf dd n (8 + 3 * k) j = D (8 + 3 * k) j := by
  intro n
  induction n with
  | zero => intro j _; rfl
  | succ n ih =>
    intro j h
    simp only [bf_wD]
    split
    · exact ih (by omega)
    · split
      · rw [bf_un (by omega)]; exact ih (by omega)
      · rw [bf_un (by omega), bf_un (by omega)]; exact ih (by omega)
theorem bf_wD_lo {D : bf_D} {k fl lf : Nat} {wf : Nat → Nat} {dd : Nat} : ∀ {n j : Nat}, j < n → bf_wD D k fl lf wf dd n (8 + 3 * k) j = if fl / 2 ^ j &&& 1 = 0 then D (8 + 3 * k) j else nI (wf j + 1) := by
  intro n
  induction n with
  | zero => intro j h; omega
  | succ n ih =>
    intro j h
    by_cases e : j = n
    · subst e
      simp only [bf_wD]
      split
      · exact bf_wD_hi (Nat.le_refl _)
      · split
        · exact bf_us
        · rw [bf_un (by omega)]; exact bf_us
    · rw [← ih (show j < n by omega)]
      simp only [bf_wD]
      split
      · rfl
      · split
        · rw [bf_un (by omega)]
        · rw [bf_un (by omega), bf_un (by omega)]
theorem bf_wD_d {D : bf_D} {k fl lf : Nat} {wf : Nat → Nat} {dd : Nat} (h : D (6 + 3 * k) 4 = nI dd) : ∀ n, bf_wD D k fl lf wf dd n (6 + 3 * k) 4 = nI (bf_wd fl lf wf dd n) := by
  intro n
  induction n with
  | zero => exact h
  | succ n ih =>
    simp only [bf_wD, bf_wd]
    split
    · exact ih
    · split
      · rw [bf_un (by omega)]; exact ih
      · exact bf_us
theorem bf_wD_o {D : bf_D} {k fl lf : Nat} {wf : Nat → Nat} {dd b j : Nat} (h1 : b ≠ 8 + 3 * k) (h2 : b ≠ 6 + 3 * k ∨ j ≠ 4) : ∀ n, bf_wD D k fl lf wf dd n b j = D b j := by
  intro n
  induction n with
  | zero => rfl
  | succ n ih =>
    simp only [bf_wD]
    split
    · exact ih
    · split
      · rw [bf_un (Or.inl h1)]; exact ih
      · rw [bf_un h2, bf_un (Or.inl h1)]; exact ih
theorem bf_p2 {n m : Nat} (h : n < m) : 1 * 2 ^ n < 2 ^ m := by rw [Nat.one_mul]; exact Nat.pow_lt_pow_right (by decide) h
theorem bf_wd_lt {fl lf : Nat} {wf : Nat → Nat} {dd : Nat} (h : dd < 128) : ∀ n, n ≤ 7 → bf_wd fl lf wf dd n < 128 := by
  intro n
  induction n with
  | zero => intro _; exact h
  | succ n ih =>
    intro hn
    simp only [bf_wd]
    split
    · exact ih (by omega)
    · split
      · exact ih (by omega)
      · exact bf_or_lt (ih (by omega)) (bf_p2 (n := n) (m := 7) (by omega))
theorem bf_wc_le (fl lf : Nat) (wf : Nat → Nat) : ∀ n, bf_wc fl lf wf n ≤ n := by
  intro n
  induction n with
  | zero => exact Nat.le_refl _
  | succ n ih =>
    simp only [bf_wc]
    split
    · omega
    · split <;> omega
def bf_wE (D : bf_D) (k fl lf : Nat) (wf : Nat → Nat) (q dd st : Nat) : bf_D := if bf_wc fl lf wf 7 ≤ 0 then bf_wD D k fl lf wf dd 7 else bf_lD (bf_wD D k fl lf wf dd 7) k q (bf_wd fl lf wf dd 7) st
theorem c_X3_wearBetween {d : Nat} (hd : 5 ≤ d) {D : bf_D} {P : bf_Pn} (hv : vP P) (hc : cP D P) {k x z lf : Nat} (hk : k < pN P) (hx : x < 10) (hz : z < 10) (hlf : lf < 2 ^ 31) : bf_Cf d mX3_wearBetween [.ref (6 + 3 * k), .int (nI x), .int (nI z), .int (nI lf)] D (some (.int (nI (bf_wc (pB P k x ^^^ pB P k z) lf (pW P k) 7)))) (bf_wE D k (pB P k x ^^^ pB P k z) lf (pW P k) (pK P k) (pD P k) (pT P k)) := by
  refine bf_Cf_of 4 hd mo_X3_wearBetween (Nat.le_of_ble_eq_true rfl) (fun e he J r => ?_)
  show J 0 [some (.ref (6 + 3 * k)), some (.int (nI x)), some (.int (nI z)), some (.int (nI lf)), none, none, none] [] (bf_MD D)
  have hn4 := hv.1
  have hx4 := pX_le hv
  have hx0 := pX_pos P
  have hT := vP_t hv hk
  have hK := vP_k hv hk
  have hD := vP_d hv hk
  have hL := hv.2.1
  have hwl := (hv.2.2.2.2 k hk).2.2.2
  refine bf_aload_n r.1 dX3_wearBetween_0 rfl ?_
  refine bf_iload_n r.1 dX3_wearBetween_1 rfl ?_
  refine cl_v r (y2 := mX3_lit) dX3_wearBetween_2 li_X3_53 mv_X3_lit (ad_c6 (Nat.lt_of_lt_of_le hk hn4)) (ad_l6 (Nat.lt_of_lt_of_le hk hn4)) [.int (nI x)] [] rfl (Nat.le_of_ble_eq_true rfl) rfl (c_X3_lit (by omega) hv hc hk (by omega)) ?_
  show J 5 [some (.ref (6 + 3 * k)), some (.int (nI x)), some (.int (nI z)), some (.int (nI lf)), none, none, none] [.int (nI (pB P k x))] (bf_MD D)
  refine bf_aload_n r.1 dX3_wearBetween_5 rfl ?_
  refine bf_iload_n r.1 dX3_wearBetween_6 rfl ?_
  refine cl_v r (y2 := mX3_lit) dX3_wearBetween_7 li_X3_53 mv_X3_lit (ad_c6 (Nat.lt_of_lt_of_le hk hn4)) (ad_l6 (Nat.lt_of_lt_of_le hk hn4)) [.int (nI z)] [.int (nI (pB P k x))] rfl (Nat.le_of_ble_eq_true rfl) rfl (c_X3_lit (by omega) hv hc hk (by omega)) ?_
  show J 10 [some (.ref (6 + 3 * k)), some (.int (nI x)), some (.int (nI z)), some (.int (nI lf)), none, none, none] [.int (nI (pB P k z)), .int (nI (pB P k x))] (bf_MD D)
  refine na_xor r dX3_wearBetween_10  ?_
  refine bf_istore r.1 (L2 := [some (.ref (6 + 3 * k)), some (.int (nI x)), some (.int (nI z)), some (.int (nI lf)), some (.int (nI ((pB P k x) ^^^ (pB P k z)))), none, none]) dX3_wearBetween_11 rfl ?_
  refine bf_iconst r.1 (v := nI 0) dX3_wearBetween_13 rfl ?_
  refine bf_istore r.1 (L2 := [some (.ref (6 + 3 * k)), some (.int (nI x)), some (.int (nI z)), some (.int (nI lf)), some (.int (nI ((pB P k x) ^^^ (pB P k z)))), some (.int (nI 0)), none]) dX3_wearBetween_14 rfl ?_
  refine bf_iconst r.1 (v := nI 0) dX3_wearBetween_16 rfl ?_
  refine bf_istore r.1 (L2 := [some (.ref (6 + 3 * k)), some (.int (nI x)), some (.int (nI z)), some (.int (nI lf)), some (.int (nI ((pB P k x) ^^^ (pB P k z)))), some (.int (nI 0)), some (.int (nI 0))]) dX3_wearBetween_17 rfl ?_
  generalize hfl : pB P k x ^^^ pB P k z = fl at r ⊢
  have hfl7 : fl < 128 := by rw [← hfl]; exact bf_xor_lt (pB_lt hv hk _) (pB_lt hv hk _)
  have loop : ∀ b : Nat, b ≤ 7 → J 19 [some (.ref (6 + 3 * k)), some (.int (nI x)), some (.int (nI z)), some (.int (nI lf)), some (.int (nI fl)), some (.int (nI (bf_wc fl lf (pW P k) b))), some (.int (nI b))] [] (bf_MD (bf_wD D k fl lf (pW P k) (pD P k) b)) := by
    refine bf_down (fun b hle ih => ?_)
    refine bf_iload r.1 dX3_wearBetween_19 rfl ?_
    refine bf_bipush r.1 (v := nI 7) dX3_wearBetween_21 rfl ?_
    refine nc_ge r (tgt := 80) dX3_wearBetween_23 (by decide) (by omega) (by decide) (fun c61 => ?_) (fun c61 => ?_)
    · have eb : b = 7 := by omega
      subst eb
      have hwc := bf_wc_le fl lf (pW P k) 7
      refine bf_iload r.1 dX3_wearBetween_80 rfl ?_
      refine nz_le r (tgt := 89) dX3_wearBetween_82 (by decide) (by omega) (fun c62 => ?_) (fun c62 => ?_)
      · refine bf_iload r.1 dX3_wearBetween_89 rfl ?_
        exact rt_i r dX3_wearBetween_91 rfl rfl rfl (by unfold bf_wE; rw [if_pos c62])
      · refine bf_aload_n r.1 dX3_wearBetween_85 rfl ?_
        refine cl_v r (y2 := mX3_light) dX3_wearBetween_86 li_X3_32 mv_X3_light (ad_c6 (Nat.lt_of_lt_of_le hk hn4)) (ad_l6 (Nat.lt_of_lt_of_le hk hn4)) [] [] rfl (Nat.le_of_ble_eq_true rfl) rfl (c_X3_light (by omega) (fun i hi => (bf_wD_o (by omega) (by omega) 7).trans (cP_lk hc hi)) (Nat.lt_of_lt_of_le hk hn4) ((bf_wD_o (by omega) (by omega) 7).trans (cP_k hc hk)) (bf_wD_d (cP_d hc hk) 7) ((bf_wD_o (by omega) (by omega) 7).trans (cP_t hc hk)) hK (bf_wd_lt hD 7 (Nat.le_refl _))) ?_
        show J 89 [some (.ref (6 + 3 * k)), some (.int (nI x)), some (.int (nI z)), some (.int (nI lf)), some (.int (nI fl)), some (.int (nI (bf_wc fl lf (pW P k) 7))), some (.int (nI 7))] [] (bf_MD (bf_lD (bf_wD D k fl lf (pW P k) (pD P k) 7) k (pK P k) (bf_wd fl lf (pW P k) (pD P k) 7) (pT P k)))
        refine bf_iload r.1 dX3_wearBetween_89 rfl ?_
        exact rt_i r dX3_wearBetween_91 rfl rfl rfl (by unfold bf_wE; rw [if_neg (Nat.not_le.mpr c62)])
    · have hw1 := (hwl b c61).1
      refine bf_iload r.1 dX3_wearBetween_26 rfl ?_
      refine bf_iload r.1 dX3_wearBetween_28 rfl ?_
      refine na_shr r dX3_wearBetween_30 (by omega) (by omega) ?_
      refine bf_iconst r.1 (v := nI 1) dX3_wearBetween_31 rfl ?_
      refine na_and r dX3_wearBetween_32  ?_
      refine nz_eq r (tgt := 74) dX3_wearBetween_33 (by decide) (bf_and1_lt _) (fun c63 => ?_) (fun c63 => ?_)
      · refine na_inc r (v := b + 1) (L2 := [some (.ref (6 + 3 * k)), some (.int (nI x)), some (.int (nI z)), some (.int (nI lf)), some (.int (nI fl)), some (.int (nI (bf_wc fl lf (pW P k) b))), some (.int (nI (b + 1)))]) dX3_wearBetween_74 rfl (nI_add _ 1) rfl ?_
        refine bf_goto r.1 (tgt := 19) dX3_wearBetween_77 (by decide) ?_
        have hi := ih c61
        simp only [bf_wD, bf_wc] at hi
        rw [if_pos c63, if_pos c63] at hi
        exact hi
      · refine bf_aload_n r.1 dX3_wearBetween_36 rfl ?_
        refine ig_ref r (b := (8 + 3 * k)) dX3_wearBetween_37 fl_X3_15 (ad_c6 (Nat.lt_of_lt_of_le hk hn4)) (ad_l6 (Nat.lt_of_lt_of_le hk hn4)) (ad_r6_2 (Nat.lt_of_lt_of_le hk hn4)) ?_
        refine bf_iload r.1 dX3_wearBetween_40 rfl ?_
        refine bf_dup2 r.1 dX3_wearBetween_42 rfl rfl ?_
        refine ia_ld r (n := 7) (v := nI (pW P k b)) dX3_wearBetween_43 (ad_k8 (Nat.lt_of_lt_of_le hk hn4)) (ad_l8 (Nat.lt_of_lt_of_le hk hn4)) (by omega) ((bf_wD_hi (Nat.le_refl _)).trans (cP_w hc hk (by omega))) ?_
        refine bf_iconst r.1 (v := nI 1) dX3_wearBetween_44 rfl ?_
        refine na_add r dX3_wearBetween_45  ?_
        refine ia_st r (n := 7) dX3_wearBetween_46 (ad_k8 (Nat.lt_of_lt_of_le hk hn4)) (ad_l8 (Nat.lt_of_lt_of_le hk hn4)) (by omega) ?_
        refine bf_aload_n r.1 dX3_wearBetween_47 rfl ?_
        refine ig_ref r (b := (8 + 3 * k)) dX3_wearBetween_48 fl_X3_15 (ad_c6 (Nat.lt_of_lt_of_le hk hn4)) (ad_l6 (Nat.lt_of_lt_of_le hk hn4)) (ad_r6_2 (Nat.lt_of_lt_of_le hk hn4)) ?_
        refine bf_iload r.1 dX3_wearBetween_51 rfl ?_
        refine ia_ld r (n := 7) (v := nI (pW P k b + 1)) dX3_wearBetween_53 (ad_k8 (Nat.lt_of_lt_of_le hk hn4)) (ad_l8 (Nat.lt_of_lt_of_le hk hn4)) (by omega) bf_us ?_
        refine bf_iload_n r.1 dX3_wearBetween_54 rfl ?_
        refine nc_lt r (tgt := 74) dX3_wearBetween_55 (by decide) (by omega) hlf (fun c64 => ?_) (fun c64 => ?_)
        · refine na_inc r (v := b + 1) (L2 := [some (.ref (6 + 3 * k)), some (.int (nI x)), some (.int (nI z)), some (.int (nI lf)), some (.int (nI fl)), some (.int (nI (bf_wc fl lf (pW P k) b))), some (.int (nI (b + 1)))]) dX3_wearBetween_74 rfl (nI_add _ 1) rfl ?_
          refine bf_goto r.1 (tgt := 19) dX3_wearBetween_77 (by decide) ?_
          have hi := ih c61
          simp only [bf_wD, bf_wc] at hi
          rw [if_neg c63, if_neg c63, if_pos c64, if_pos c64] at hi
          exact hi
        · refine bf_aload_n r.1 dX3_wearBetween_58 rfl ?_
          refine bf_dup r.1 dX3_wearBetween_59 rfl ?_
          refine ig_int r (v := nI (bf_wd fl lf (pW P k) (pD P k) b)) dX3_wearBetween_60 fl_X3_26 (ad_c6 (Nat.lt_of_lt_of_le hk hn4)) (ad_l6 (Nat.lt_of_lt_of_le hk hn4)) (ad_i6 (Nat.lt_of_lt_of_le hk hn4) 4 (by decide)) ((bf_un (by omega)).trans (bf_wD_d (cP_d hc hk) b)) ?_
          refine bf_iconst r.1 (v := nI 1) dX3_wearBetween_63 rfl ?_
          refine bf_iload r.1 dX3_wearBetween_64 rfl ?_
          refine na_shl r dX3_wearBetween_66 (by omega) (bf_sh1 (by omega)) ?_
          refine na_or r dX3_wearBetween_67  ?_
          refine ip_int r dX3_wearBetween_68 fp_X3_26 (ad_c6 (Nat.lt_of_lt_of_le hk hn4)) (ad_l6 (Nat.lt_of_lt_of_le hk hn4)) (ad_i6 (Nat.lt_of_lt_of_le hk hn4) 4 (by decide)) ?_
          refine na_inc r (v := bf_wc fl lf (pW P k) b + 1) (L2 := [some (.ref (6 + 3 * k)), some (.int (nI x)), some (.int (nI z)), some (.int (nI lf)), some (.int (nI fl)), some (.int (nI (bf_wc fl lf (pW P k) b + 1))), some (.int (nI b))]) dX3_wearBetween_71 rfl (nI_add _ 1) rfl ?_
          refine na_inc r (v := b + 1) (L2 := [some (.ref (6 + 3 * k)), some (.int (nI x)), some (.int (nI z)), some (.int (nI lf)), some (.int (nI fl)), some (.int (nI (bf_wc fl lf (pW P k) b + 1))), some (.int (nI (b + 1)))]) dX3_wearBetween_74 rfl (nI_add _ 1) rfl ?_
          refine bf_goto r.1 (tgt := 19) dX3_wearBetween_77 (by decide) ?_
          have hi := ih c61
          simp only [bf_wD, bf_wc] at hi
          rw [if_neg c63, if_neg c63, if_neg (Nat.not_lt.mpr c64), if_neg (Nat.not_lt.mpr c64)] at hi
          exact hi
  exact loop 0 (by omega) 
