/-! odds, trace, fault -/
theorem lN_divN {a d : Nat} (ha : a < 2 ^ 31) (hd : d < 2 ^ 31) : lN a / lN d = lN (a / d) := by
  apply Int64.toInt_inj.mp
  have e : (a : Int) / (d : Int) = ((a / d : Nat) : Int) := by first | rfl | exact (Int.natCast_ediv _ _).symm
  have hb := Nat.div_le_self a d
  rw [Int64.toInt_div, lN_toInt ha, lN_toInt hd, Int.tdiv_eq_ediv_of_nonneg (by omega), e]
  clear e
  generalize a / d = q at hb ⊢
  rw [lN_toInt (show q < 2 ^ 31 by omega), Int.bmod_eq_of_le (by omega) (by omega)]
theorem lN_remN {a d : Nat} (ha : a < 2 ^ 31) (hd : d < 2 ^ 31) : lN a - lN a / lN d * lN d = lN (a % d) := by
  rw [lN_divN ha hd, lN_mul, lN_sub (Nat.div_mul_le_self a d)]
  exact congrArg lN (by have := Nat.div_add_mod' a d; omega)
theorem lN_ne0 {d : Nat} (h0 : 0 < d) (hd : d < 2 ^ 31) : ¬ lN d = 0 := fun e => absurd ((lN_eq hd (show 0 < 2 ^ 31 by decide)).mp e) (by omega)
def egF : Nat → Nat → Nat → Nat
  | 0, x, _ => x
  | f + 1, x, y => if y = 0 then x else egF f y (x % y)
theorem gcd_st (x y : Nat) : Nat.gcd y (x % y) = Nat.gcd x y := by rw [Nat.gcd_comm x y, Nat.gcd_rec y x, Nat.gcd_comm]
theorem egF_g : ∀ m f x y, y < 2 ^ m → 2 * m + 1 ≤ f → egF f x y = Nat.gcd x y := by
  intro m
  induction m with
  | zero =>
    intro f x y hy hf
    have h0 : y = 0 := by simp only [Nat.pow_zero] at hy; omega
    subst h0
    obtain ⟨g, rfl⟩ : ∃ g, f = g + 1 := ⟨f - 1, by omega⟩
    simp only [egF]
    simp
  | succ m ih =>
    intro f x y hy hf
    obtain ⟨g, rfl⟩ : ∃ g, f = g + 2 := ⟨f - 2, by omega⟩
    show (if y = 0 then x else egF (g + 1) y (x % y)) = _
    by_cases h0 : y = 0
    · rw [if_pos h0, h0, Nat.gcd_zero_right]
    · rw [if_neg h0, ← gcd_st x y]
      have hr : x % y < y := Nat.mod_lt _ (by omega)
      generalize x % y = r at *
      show (if r = 0 then y else egF g r (y % r)) = _
      by_cases h1 : r = 0
      · rw [if_pos h1, h1, Nat.gcd_zero_right]
      · rw [if_neg h1, ← gcd_st y r]
        refine ih g r (y % r) ?_ (by omega)
        have h2 : y % r < r := Nat.mod_lt _ (by omega)
        have h3 := Nat.div_add_mod y r
        have h4 : 1 ≤ y / r := Nat.div_pos (by omega) (by omega)
        have h5 : r ≤ r * (y / r) := Nat.le_mul_of_pos_right r (by omega)
        rw [Nat.pow_succ] at hy
        omega
def pUp (P : bf_Pn) : Nat := bf_pr (pE P) (pN P)
theorem pUp_le {P : bf_Pn} (hv : vP P) : pUp P ≤ 10000 := Nat.le_trans (bf_pr_le (fun k => bf_ct_le _ 10) _) (pX_le hv)
def pGd (P : bf_Pn) : Nat := Nat.gcd (pUp P) (pX P)
theorem pGd_b {P : bf_Pn} (hv : vP P) : 1 ≤ pGd P ∧ pGd P ≤ 10000 := ⟨Nat.gcd_pos_of_pos_right _ (pX_pos P), Nat.le_trans (Nat.gcd_le_right _ (pX_pos P)) (pX_le hv)⟩
def ox_odds (P : bf_Pn) (wh : Int32) : Int64 := bf_on (bf_rg wh 2) bf_lost fun wh => if pN P = 0 then bf_lost else if wh = 0 then lN (pUp P / pGd P) else lN (pX P / pGd P)
def ox_trace (T : Int32) : Int32 := T
def ox_fault (F : Nat) : Int32 := nI F
theorem bf_ct_c {p p' : Nat → Bool} : ∀ n, (∀ i, i < n → p i = p' i) → bf_ct p n = bf_ct p' n := by
  intro n
  induction n with
  | zero => intro _; rfl
  | succ n ih => intro h; simp only [bf_ct]; rw [ih (fun i hi => h i (by omega)), h n (by omega)]
theorem pE_pc (P : bf_Pn) (k : Nat) : bf_ct (fun d => decide (bf_pc (pM P k (pB P k d)) = 1)) 10 = pE P k := by
  refine bf_ct_c 10 (fun d hd => ?_)
  apply decide_eq_decide.mpr
  have key : ∀ x : Fin 1024, bf_pc x.1 = 1 → ∃ i : Fin 10, x.1 = 2 ^ i.1 := by decide +kernel
  have key2 : ∀ i : Fin 10, bf_pc (1 * 2 ^ i.1) = 1 := by decide +kernel
  constructor
  · intro h
    obtain ⟨t, ht⟩ := key ⟨_, pM_lt P k (pB P k d)⟩ h
    simp only at ht
    have h2 := pM_self (P := P) (k := k) hd
    rw [ht, Nat.testBit_two_pow] at h2
    rw [ht, of_decide_eq_true h2, Nat.one_mul]
  · intro h; rw [h]; exact key2 ⟨d, hd⟩
theorem c_X8_commonDivisor {d : Nat} (hd : 1 ≤ d) (D : bf_D) {a b : Nat} (ha : a < 2 ^ 31) (hb : b < 2 ^ 31) : bf_Cf d mX8_commonDivisor [.long (lN a), .long (lN b)] D (some (.long (lN (egF 64 a b)))) D := by
  refine bf_Cf_of 0 hd mo_X8_commonDivisor (Nat.le_of_ble_eq_true rfl) (fun e he J r => ?_)
  show J 0 [some (.long (lN a)), none, some (.long (lN b)), none, none, none, none, none, none, none, none] [] (bf_MD D)
  refine bf_lload_n r.1 dX8_commonDivisor_0 rfl ?_
  refine bf_lstore r.1 (L2 := [some (.long (lN a)), none, some (.long (lN b)), none, some (.long (lN a)), none, none, none, none, none, none]) dX8_commonDivisor_1 rfl ?_
  refine bf_lload_n r.1 dX8_commonDivisor_3 rfl ?_
  refine bf_lstore r.1 (L2 := [some (.long (lN a)), none, some (.long (lN b)), none, some (.long (lN a)), none, some (.long (lN b)), none, none, none, none]) dX8_commonDivisor_4 rfl ?_
  refine bf_iconst r.1 (v := nI 0) dX8_commonDivisor_6 rfl ?_
  refine bf_istore r.1 (L2 := [some (.long (lN a)), none, some (.long (lN b)), none, some (.long (lN a)), none, some (.long (lN b)), none, some (.int (nI 0)), none, none]) dX8_commonDivisor_7 rfl ?_
  have loop : ∀ (f x y t : Nat), t + f = 64 → x < 2 ^ 31 → y < 2 ^ 31 → egF f x y = egF 64 a b → J 9 [some (.long (lN a)), none, some (.long (lN b)), none, some (.long (lN x)), none, some (.long (lN y)), none, some (.int (nI t)), none, none] [] (bf_MD D) := by
    intro f
    induction f with
    | zero =>
      intro x y t hs0 hs1 hs2 he
      refine bf_iload r.1 dX8_commonDivisor_9 rfl ?_
      refine bf_bipush r.1 (v := nI 64) dX8_commonDivisor_11 rfl ?_
      refine nc_ge r (tgt := 44) dX8_commonDivisor_13 (by decide) (by omega) (by decide) (fun c540 => ?_) (fun c540 => ?_)
      · refine bf_lload r.1 dX8_commonDivisor_44 rfl ?_
        exact rt_l r dX8_commonDivisor_46 rfl (congrArg lN (by rw [← he]; rfl)) rfl
      · exact absurd c540 (by omega)
    | succ f ih =>
      intro x y t hs0 hs1 hs2 he
      refine bf_iload r.1 dX8_commonDivisor_9 rfl ?_
      refine bf_bipush r.1 (v := nI 64) dX8_commonDivisor_11 rfl ?_
      refine nc_ge r (tgt := 44) dX8_commonDivisor_13 (by decide) (by omega) (by decide) (fun c541 => ?_) (fun c541 => ?_)
      · exact absurd c541 (by omega)
      · refine bf_lload r.1 dX8_commonDivisor_16 rfl ?_
        refine bf_lconst r.1 (v := lN 0) dX8_commonDivisor_18 rfl ?_
        refine bf_lcmp r.1 dX8_commonDivisor_19 ?_
        refine bf_if_eq r.1 (tgt := 44) dX8_commonDivisor_20 (by decide) (fun c542 => ?_) (fun c542 => ?_)
        · have hy0 : y = 0 := (lN_eq hs2 (show 0 < 2 ^ 31 by decide)).mp ((lg_cmp_eq _ _).mp c542)
          refine bf_lload r.1 dX8_commonDivisor_44 rfl ?_
          exact rt_l r dX8_commonDivisor_46 rfl (congrArg lN (by rw [← he]; simp only [egF]; rw [if_pos hy0])) rfl
        · have hy0 : ¬ y = 0 := fun q => c542 ((lg_cmp_eq _ _).mpr (by rw [q]))
          refine bf_lload r.1 dX8_commonDivisor_23 rfl ?_
          refine bf_lload r.1 dX8_commonDivisor_25 rfl ?_
          refine bf_lrem r.1 dX8_commonDivisor_27 (lN_ne0 (by omega) hs2) ?_
          refine eq_l (lN_remN hs1 hs2) ?_
          refine bf_lstore r.1 (L2 := [some (.long (lN a)), none, some (.long (lN b)), none, some (.long (lN x)), none, some (.long (lN y)), none, some (.int (nI t)), some (.long (lN (x % y))), none]) dX8_commonDivisor_28 rfl ?_
          refine bf_lload r.1 dX8_commonDivisor_30 rfl ?_
          refine bf_lstore r.1 (L2 := [some (.long (lN a)), none, some (.long (lN b)), none, some (.long (lN y)), none, some (.long (lN y)), none, some (.int (nI t)), some (.long (lN (x % y))), none]) dX8_commonDivisor_32 rfl ?_
          refine bf_lload r.1 dX8_commonDivisor_34 rfl ?_
          refine bf_lstore r.1 (L2 := [some (.long (lN a)), none, some (.long (lN b)), none, some (.long (lN y)), none, some (.long (lN (x % y))), none, some (.int (nI t)), some (.long (lN (x % y))), none]) dX8_commonDivisor_36 rfl ?_
          refine na_inc r (v := t + 1) (L2 := [some (.long (lN a)), none, some (.long (lN b)), none, some (.long (lN y)), none, some (.long (lN (x % y))), none, some (.int (nI (t + 1))), some (.long (lN (x % y))), none]) dX8_commonDivisor_38 rfl (nI_add _ 1) rfl ?_
          refine bf_goto r.1 (tgt := 9) dX8_commonDivisor_41 (by decide) ?_
          refine bf_fgt r.1 (i := 9) (L2 := [some (.long (lN a)), none, some (.long (lN b)), none, some (.long (lN y)), none, some (.long (lN (x % y))), none, some (.int (nI (t + 1))), none, none]) rfl ?_
          exact ih _ _ _ (by omega) hs2 (Nat.lt_of_lt_of_le (Nat.mod_lt _ (by omega)) (by omega)) (by rw [← he]; simp only [egF]; rw [if_neg hy0])
  exact loop 64 a b 0 rfl ha hb rfl
theorem c_X8_odds {d : Nat} (hd : 7 ≤ d) {D : bf_D} {P : bf_Pn} (hv : vP P) (hc : cP D P) (wh : Int32) : bf_Cf d mX8_odds [.ref 0, .int (wh)] D (some (.long (ox_odds P wh))) D := by
  refine bf_Cf_of 6 hd mo_X8_odds (Nat.le_of_ble_eq_true rfl) (fun e he J r => ?_)
  show J 0 [some (.ref 0), some (.int (wh)), none, none, none, none, none, none] [] (bf_MD D)
  have hn4 := hv.1
  have hx4 := pX_le hv
  have hx0 := pX_pos P
  refine bf_iload_n r.1 dX8_odds_0 rfl ?_
  refine bf_iconst r.1 (v := nI 2) dX8_odds_1 rfl ?_
  refine cl_s r (y2 := mX8_isWithin) dX8_odds_2 li_X8_50 mv_X8_isWithin [.int (wh), .int (nI 2)] [] rfl (Nat.le_of_ble_eq_true rfl) rfl (c_X8_isWithin (by omega) D _ _) ?_
  show J 5 [some (.ref 0), some (.int (wh)), none, none, none, none, none, none] [.int (if 0 ≤ wh ∧ wh < nI 2 then 1 else 0)] (bf_MD D)
  refine nb_eq r (tgt := 18) dX8_odds_5 (by decide) (fun c543 => ?_) (fun c543 => ?_)
  · have wwh := rg_n c543
    refine bf_ldc2 r.1 dX8_odds_18 lc_X8_195 ?_
    exact rt_l r dX8_odds_21 rfl (by simp only [ox_odds, wwh, on_n, on_s, bf_lost]) rfl
  · obtain ⟨wh0, hwh0, rfl⟩ := rg_in (by decide) c543
    have wwh := rg_s hwh0 (by decide)
    refine bf_aload_n r.1 dX8_odds_8 rfl ?_
    refine ig_ref r (b := 2) dX8_odds_9 fl_X8_20 rfl (by decide) rfl ?_
    refine cl_v r (y2 := mX2_isNone) dX8_odds_12 li_X8_122 mv_X2_isNone rfl (by decide) [] [] rfl (Nat.le_of_ble_eq_true rfl) rfl (c_X2_isNone (by omega) hv hc) ?_
    show J 15 [some (.ref 0), some (.int (nI wh0)), none, none, none, none, none, none] [.int (if pN P = 0 then 1 else 0)] (bf_MD D)
    refine nb_eq r (tgt := 22) dX8_odds_15 (by decide) (fun c544 => ?_) (fun c544 => ?_)
    · have h1n : 1 ≤ pN P := by omega
      refine bf_aload_n r.1 dX8_odds_22 rfl ?_
      refine ig_ref r (b := 2) dX8_odds_23 fl_X8_20 rfl (by decide) rfl ?_
      refine cl_v r (y2 := mX2_lonePictures) dX8_odds_26 li_X8_197 mv_X2_lonePictures rfl (by decide) [] [] rfl (Nat.le_of_ble_eq_true rfl) rfl (c_X2_lonePictures (by omega) hv hc) ?_
      show J 29 [some (.ref 0), some (.int (nI wh0)), none, none, none, none, none, none] [.int (nI (bf_pr (pE P) (pN P)))] (bf_MD D)
      show J 29 [some (.ref 0), some (.int (nI wh0)), none, none, none, none, none, none] [.int (nI (pUp P))] (bf_MD D)
      refine na_i2l r dX8_odds_29 (by have := pUp_le hv; omega) ?_
      refine bf_lstore_n r.1 (L2 := [some (.ref 0), some (.int (nI wh0)), some (.long (lN (pUp P))), none, none, none, none, none]) dX8_odds_30 rfl ?_
      refine bf_aload_n r.1 dX8_odds_31 rfl ?_
      refine ig_ref r (b := 2) dX8_odds_32 fl_X8_20 rfl (by decide) rfl ?_
      refine ig_int r (v := nI (pX P - 1)) dX8_odds_35 fl_X8_200 rfl (by decide) rfl (cP_x (P := P) hc) ?_
      refine bf_iconst r.1 (v := nI 1) dX8_odds_38 rfl ?_
      refine na_add r dX8_odds_39  ?_
      refine eq_i (v := nI (pX P)) (congrArg nI (by omega)) ?_
      refine na_i2l r dX8_odds_40 (by omega) ?_
      refine bf_lstore r.1 (L2 := [some (.ref 0), some (.int (nI wh0)), some (.long (lN (pUp P))), none, some (.long (lN (pX P))), none, none, none]) dX8_odds_41 rfl ?_
      refine bf_lload_n r.1 dX8_odds_43 rfl ?_
      refine bf_lload r.1 dX8_odds_44 rfl ?_
      refine cl_s r (y2 := mX8_commonDivisor) dX8_odds_46 li_X8_203 mv_X8_commonDivisor [.long (lN (pUp P)), .long (lN (pX P))] [] rfl (Nat.le_of_ble_eq_true rfl) rfl (c_X8_commonDivisor (by omega) D (by have := pUp_le hv; omega) (by omega)) ?_
      show J 49 [some (.ref 0), some (.int (nI wh0)), some (.long (lN (pUp P))), none, some (.long (lN (pX P))), none, none, none] [.long (lN (egF 64 (pUp P) (pX P)))] (bf_MD D)
      have hgd := pGd_b hv
      refine eq_l (v := lN (pGd P)) (congrArg lN (egF_g 14 64 _ _ (by omega) (by decide))) ?_
      refine bf_lstore r.1 (L2 := [some (.ref 0), some (.int (nI wh0)), some (.long (lN (pUp P))), none, some (.long (lN (pX P))), none, some (.long (lN (pGd P))), none]) dX8_odds_49 rfl ?_
      refine bf_lload r.1 dX8_odds_51 rfl ?_
      refine bf_lconst r.1 (v := lN 1) dX8_odds_53 rfl ?_
      refine bf_lcmp r.1 dX8_odds_54 ?_
      refine bf_if_ge r.1 (tgt := 62) dX8_odds_55 (by decide) (fun c545 => ?_) (fun c545 => ?_)
      · refine bf_iload_n r.1 dX8_odds_62 rfl ?_
        refine nz_ne r (tgt := 73) dX8_odds_63 (by decide) (by omega) (fun c546 => ?_) (fun c546 => ?_)
        · refine bf_lload r.1 dX8_odds_73 rfl ?_
          refine bf_lload r.1 dX8_odds_75 rfl ?_
          refine bf_ldiv r.1 dX8_odds_77 (lN_ne0 (by omega) (by omega)) ?_
          refine eq_l (lN_divN (by omega) (by omega)) ?_
          exact rt_l r dX8_odds_78 rfl (by simp only [ox_odds, wwh, if_neg c544, if_neg c546, on_n, on_s, bf_lost]) rfl
        · refine bf_lload_n r.1 dX8_odds_66 rfl ?_
          refine bf_lload r.1 dX8_odds_67 rfl ?_
          refine bf_ldiv r.1 dX8_odds_69 (lN_ne0 (by omega) (by omega)) ?_
          refine eq_l (lN_divN (by have := pUp_le hv; omega) (by omega)) ?_
          refine bf_goto r.1 (tgt := 78) dX8_odds_70 (by decide) ?_
          exact rt_l r dX8_odds_78 rfl (by simp only [ox_odds, wwh, if_neg c544, if_pos c546, on_n, on_s, bf_lost]) rfl
      · exact absurd ((lg_cmp_ge _ _).mpr ((lN_le (show 1 < 2 ^ 31 by decide) (by omega)).mpr hgd.1)) c545
    · refine bf_ldc2 r.1 dX8_odds_18 lc_X8_195 ?_
      exact rt_l r dX8_odds_21 rfl (by simp only [ox_odds, wwh, if_pos c544, on_n, on_s, bf_lost]) rfl
theorem c_X9_share {d : Nat} (hd : 1 ≤ d) (D : bf_D) {a b t : Nat} (ha : a < 2 ^ 31) (hb : b < 2 ^ 31) (h0 : 0 < b) (ht : t < 2) : bf_Cf d mX9_share [.long (lN a), .long (lN b), .int (nI t)] D (some (.long (if t = 0 then lN (a / Nat.gcd a b) else lN (b / Nat.gcd a b)))) D := by
  refine bf_Cf_of 0 hd mo_X9_share (Nat.le_of_ble_eq_true rfl) (fun e he J r => ?_)
  show J 0 [some (.long (lN a)), none, some (.long (lN b)), none, some (.int (nI t)), none, none, none, none, none, none] [] (bf_MD D)
  refine bf_lload_n r.1 dX9_share_0 rfl ?_
  refine bf_lstore r.1 (L2 := [some (.long (lN a)), none, some (.long (lN b)), none, some (.int (nI t)), some (.long (lN a)), none, none, none, none, none]) dX9_share_1 rfl ?_
  refine bf_lload_n r.1 dX9_share_3 rfl ?_
  refine bf_lstore r.1 (L2 := [some (.long (lN a)), none, some (.long (lN b)), none, some (.int (nI t)), some (.long (lN a)), none, some (.long (lN b)), none, none, none]) dX9_share_4 rfl ?_
  have loop : ∀ (f x y : Nat), y ≤ f → x < 2 ^ 31 → y < 2 ^ 31 → Nat.gcd x y = Nat.gcd a b → J 6 [some (.long (lN a)), none, some (.long (lN b)), none, some (.int (nI t)), some (.long (lN x)), none, some (.long (lN y)), none, none, none] [] (bf_MD D) := by
    intro f
    induction f with
    | zero =>
      intro x y hs0 hs1 hs2 he
      refine bf_lload r.1 dX9_share_6 rfl ?_
      refine bf_lconst r.1 (v := lN 0) dX9_share_8 rfl ?_
      refine bf_lcmp r.1 dX9_share_9 ?_
      refine bf_if_eq r.1 (tgt := 31) dX9_share_10 (by decide) (fun c547 => ?_) (fun c547 => ?_)
      · have hy0 : y = 0 := (lN_eq hs2 (show 0 < 2 ^ 31 by decide)).mp ((lg_cmp_eq _ _).mp c547)
        have hxg : x = Nat.gcd a b := by rw [← he, hy0, Nat.gcd_zero_right]
        have hx0 : 0 < x := by rw [hxg]; exact Nat.gcd_pos_of_pos_right _ h0
        refine bf_iload r.1 dX9_share_31 rfl ?_
        refine nz_ne r (tgt := 40) dX9_share_33 (by decide) (by omega) (fun c548 => ?_) (fun c548 => ?_)
        · refine bf_lload_n r.1 dX9_share_40 rfl ?_
          refine bf_lload r.1 dX9_share_41 rfl ?_
          refine bf_ldiv r.1 dX9_share_43 (lN_ne0 hx0 hs1) ?_
          refine eq_l (lN_divN hb hs1) ?_
          exact rt_l r dX9_share_44 rfl (by rw [if_neg c548, hxg]) rfl
        · refine bf_lload_n r.1 dX9_share_36 rfl ?_
          refine bf_goto r.1 (tgt := 41) dX9_share_37 (by decide) ?_
          refine bf_lload r.1 dX9_share_41 rfl ?_
          refine bf_ldiv r.1 dX9_share_43 (lN_ne0 hx0 hs1) ?_
          refine eq_l (lN_divN ha hs1) ?_
          exact rt_l r dX9_share_44 rfl (by rw [if_pos c548, hxg]) rfl
      · exact absurd c547 (fun q => q ((lg_cmp_eq _ _).mpr (by rw [show y = 0 by omega])))
    | succ f ih =>
      intro x y hs0 hs1 hs2 he
      refine bf_lload r.1 dX9_share_6 rfl ?_
      refine bf_lconst r.1 (v := lN 0) dX9_share_8 rfl ?_
      refine bf_lcmp r.1 dX9_share_9 ?_
      refine bf_if_eq r.1 (tgt := 31) dX9_share_10 (by decide) (fun c549 => ?_) (fun c549 => ?_)
      · have hy0 : y = 0 := (lN_eq hs2 (show 0 < 2 ^ 31 by decide)).mp ((lg_cmp_eq _ _).mp c549)
        have hxg : x = Nat.gcd a b := by rw [← he, hy0, Nat.gcd_zero_right]
        have hx0 : 0 < x := by rw [hxg]; exact Nat.gcd_pos_of_pos_right _ h0
        refine bf_iload r.1 dX9_share_31 rfl ?_
        refine nz_ne r (tgt := 40) dX9_share_33 (by decide) (by omega) (fun c550 => ?_) (fun c550 => ?_)
        · refine bf_lload_n r.1 dX9_share_40 rfl ?_
          refine bf_lload r.1 dX9_share_41 rfl ?_
          refine bf_ldiv r.1 dX9_share_43 (lN_ne0 hx0 hs1) ?_
          refine eq_l (lN_divN hb hs1) ?_
          exact rt_l r dX9_share_44 rfl (by rw [if_neg c550, hxg]) rfl
        · refine bf_lload_n r.1 dX9_share_36 rfl ?_
          refine bf_goto r.1 (tgt := 41) dX9_share_37 (by decide) ?_
          refine bf_lload r.1 dX9_share_41 rfl ?_
          refine bf_ldiv r.1 dX9_share_43 (lN_ne0 hx0 hs1) ?_
          refine eq_l (lN_divN ha hs1) ?_
          exact rt_l r dX9_share_44 rfl (by rw [if_pos c550, hxg]) rfl
      · have hy0 : ¬ y = 0 := fun q => c549 ((lg_cmp_eq _ _).mpr (by rw [q]))
        refine bf_lload r.1 dX9_share_13 rfl ?_
        refine bf_lload r.1 dX9_share_15 rfl ?_
        refine bf_lrem r.1 dX9_share_17 (lN_ne0 (by omega) hs2) ?_
        refine eq_l (lN_remN hs1 hs2) ?_
        refine bf_lstore r.1 (L2 := [some (.long (lN a)), none, some (.long (lN b)), none, some (.int (nI t)), some (.long (lN x)), none, some (.long (lN y)), none, some (.long (lN (x % y))), none]) dX9_share_18 rfl ?_
        refine bf_lload r.1 dX9_share_20 rfl ?_
        refine bf_lstore r.1 (L2 := [some (.long (lN a)), none, some (.long (lN b)), none, some (.int (nI t)), some (.long (lN y)), none, some (.long (lN y)), none, some (.long (lN (x % y))), none]) dX9_share_22 rfl ?_
        refine bf_lload r.1 dX9_share_24 rfl ?_
        refine bf_lstore r.1 (L2 := [some (.long (lN a)), none, some (.long (lN b)), none, some (.int (nI t)), some (.long (lN y)), none, some (.long (lN (x % y))), none, some (.long (lN (x % y))), none]) dX9_share_26 rfl ?_
        refine bf_goto r.1 (tgt := 6) dX9_share_28 (by decide) ?_
        refine bf_fgt r.1 (i := 9) (L2 := [some (.long (lN a)), none, some (.long (lN b)), none, some (.int (nI t)), some (.long (lN y)), none, some (.long (lN (x % y))), none, none, none]) rfl ?_
        have hml := Nat.mod_lt x (show 0 < y by omega)
        exact ih _ _ (by omega) hs2 (by omega) (by rw [← he]; exact gcd_st x y)
  exact loop b a b (Nat.le_refl _) ha hb rfl
theorem c_X9_odds {d : Nat} (hd : 9 ≤ d) {D : bf_D} {P : bf_Pn} (hv : vP P) (hm : mP D P) (wh : Int32) : bf_Cf d mX9_odds [.ref 37, .int (wh)] D (some (.long (ox_odds P wh))) D := by
  refine bf_Cf_of 8 hd mo_X9_odds (Nat.le_of_ble_eq_true rfl) (fun e he J r => ?_)
  show J 0 [some (.ref 37), some (.int (wh)), none, none, none, none, none] [] (bf_MD D)
  have hn4 := hv.1
  have hx4 := pX_le hv
  have hx0 := pX_pos P
  refine bf_iload_n r.1 dX9_odds_0 rfl ?_
  refine bf_i2l r.1 dX9_odds_1 ?_
  refine bf_lconst r.1 (v := lN 0) dX9_odds_2 rfl ?_
  refine bf_lconst r.1 (v := lN 1) dX9_odds_3 rfl ?_
  refine cl_s r (y2 := mX9_in) dX9_odds_4 li_X9_80 mv_X9_in [.long (wh.toInt64), .long (lN 0), .long (lN 1)] [] rfl (Nat.le_of_ble_eq_true rfl) rfl (c_X9_in32 (by omega) D wh (h := 1) (m := 2) rfl (by decide)) ?_
  show J 7 [some (.ref 37), some (.int (wh)), none, none, none, none, none] [.int (if 0 ≤ wh ∧ wh < nI 2 then 1 else 0)] (bf_MD D)
  refine nb_eq r (tgt := 17) dX9_odds_7 (by decide) (fun c551 => ?_) (fun c551 => ?_)
  · have wwh := rg_n c551
    refine cl_s r (y2 := mX9_lost) dX9_odds_17 li_X9_73 mv_X9_lost [] [] rfl (Nat.le_of_ble_eq_true rfl) rfl (c_X9_lost (by omega) D) ?_
    show J 20 [some (.ref 37), some (.int (wh)), none, none, none, none, none] [.long (bf_lost)] (bf_MD D)
    exact rt_l r dX9_odds_20 rfl (by simp only [ox_odds, wwh, on_n, on_s]) rfl
  · obtain ⟨wh0, hwh0, rfl⟩ := rg_in (by decide) c551
    have wwh := rg_s hwh0 (by decide)
    refine bf_aload_n r.1 dX9_odds_10 rfl ?_
    refine ig_int r (v := nI (pN P)) dX9_odds_11 fl_X9_77 rfl (by decide) rfl (mP_n (P := P) hm) ?_
    refine nz_ne r (tgt := 21) dX9_odds_14 (by decide) (by omega) (fun c552 => ?_) (fun c552 => ?_)
    · have h1n : 1 ≤ pN P := by omega
      refine bf_lconst r.1 (v := lN 1) dX9_odds_21 rfl ?_
      refine bf_lstore_n r.1 (L2 := [some (.ref 37), some (.int (nI wh0)), some (.long (lN 1)), none, none, none, none]) dX9_odds_22 rfl ?_
      refine bf_iconst r.1 (v := nI 0) dX9_odds_23 rfl ?_
      refine bf_istore r.1 (L2 := [some (.ref 37), some (.int (nI wh0)), some (.long (lN 1)), none, some (.int (nI 0)), none, none]) dX9_odds_24 rfl ?_
      have loop : ∀ k : Nat, k ≤ (pN P) → J 26 [some (.ref 37), some (.int (nI wh0)), some (.long (lN (bf_pr (pE P) k))), none, some (.int (nI k)), none, none] [] (bf_MD D) := by
        refine bf_down (fun k hle ih => ?_)
        refine bf_iload r.1 dX9_odds_26 rfl ?_
        refine bf_aload_n r.1 dX9_odds_28 rfl ?_
        refine ig_int r (v := nI (pN P)) dX9_odds_29 fl_X9_77 rfl (by decide) rfl (mP_n (P := P) hm) ?_
        refine nc_ge r (tgt := 97) dX9_odds_32 (by decide) (by omega) (by omega) (fun c553 => ?_) (fun c553 => ?_)
        · have ek : k = pN P := by omega
          subst ek
          refine bf_lload_n r.1 dX9_odds_97 rfl ?_
          refine bf_aload_n r.1 dX9_odds_98 rfl ?_
          refine bf_aload_n r.1 dX9_odds_99 rfl ?_
          refine ig_int r (v := nI (pN P)) dX9_odds_100 fl_X9_77 rfl (by decide) rfl (mP_n (P := P) hm) ?_
          refine cl_v r (y2 := mX9_ten) dX9_odds_103 li_X9_154 mv_X9_ten rfl (by decide) [.int (nI (pN P))] [.long (lN (pUp P))] rfl (Nat.le_of_ble_eq_true rfl) rfl (c_X9_ten (by omega) D (by omega)) ?_
          show J 106 [some (.ref 37), some (.int (nI wh0)), some (.long (lN (pUp P))), none, some (.int (nI (pN P))), none, none] [.int (nI (10 ^ (pN P))), .long (lN (pUp P))] (bf_MD D)
          show J 106 [some (.ref 37), some (.int (nI wh0)), some (.long (lN (pUp P))), none, some (.int (nI (pN P))), none, none] [.int (nI (pX P)), .long (lN (pUp P))] (bf_MD D)
          refine na_i2l r dX9_odds_106 (by omega) ?_
          refine bf_iload_n r.1 dX9_odds_107 rfl ?_
          refine cl_s r (y2 := mX9_share) dX9_odds_108 li_X9_258 mv_X9_share [.long (lN (pUp P)), .long (lN (pX P)), .int (nI wh0)] [] rfl (Nat.le_of_ble_eq_true rfl) rfl (c_X9_share (by omega) D (by have := pUp_le hv; omega) (by omega) (by omega) hwh0) ?_
          show J 111 [some (.ref 37), some (.int (nI wh0)), some (.long (lN (pUp P))), none, some (.int (nI (pN P))), none, none] [.long (if wh0 = 0 then lN ((pUp P) / Nat.gcd (pUp P) (pX P)) else lN ((pX P) / Nat.gcd (pUp P) (pX P)))] (bf_MD D)
          exact rt_l r dX9_odds_111 rfl (by simp only [ox_odds, wwh, if_neg c552, on_n, on_s, pGd]) rfl
        · have hkn : k < pN P := c553
          refine bf_iconst r.1 (v := nI 0) dX9_odds_35 rfl ?_
          refine bf_istore r.1 (L2 := [some (.ref 37), some (.int (nI wh0)), some (.long (lN (bf_pr (pE P) k))), none, some (.int (nI k)), some (.int (nI 0)), none]) dX9_odds_36 rfl ?_
          refine bf_iconst r.1 (v := nI 0) dX9_odds_38 rfl ?_
          refine bf_istore r.1 (L2 := [some (.ref 37), some (.int (nI wh0)), some (.long (lN (bf_pr (pE P) k))), none, some (.int (nI k)), some (.int (nI 0)), some (.int (nI 0))]) dX9_odds_39 rfl ?_
          have ihk := ih
          have lod : ∀ d : Nat, d ≤ 10 → J 41 [some (.ref 37), some (.int (nI wh0)), some (.long (lN (bf_pr (pE P) k))), none, some (.int (nI k)), some (.int (nI (bf_ct (fun d => decide (bf_pc (pM P k (pB P k d)) = 1)) d))), some (.int (nI d))] [] (bf_MD D) := by
            refine bf_down (fun d hle ih => ?_)
            refine bf_iload r.1 dX9_odds_41 rfl ?_
            refine bf_bipush r.1 (v := nI 10) dX9_odds_43 rfl ?_
            refine nc_ge r (tgt := 85) dX9_odds_45 (by decide) (by omega) (by decide) (fun c554 => ?_) (fun c554 => ?_)
            · have ed : d = 10 := by omega
              subst ed
              rw [pE_pc]
              refine bf_lload_n r.1 dX9_odds_85 rfl ?_
              refine bf_iload r.1 dX9_odds_86 rfl ?_
              refine na_i2l r dX9_odds_88 (by have : pE P k ≤ 10 := bf_ct_le _ 10; omega) ?_
              refine bf_lmul r.1 dX9_odds_89  ?_
              refine eq_l (lN_mul _ _) ?_
              refine bf_lstore_n r.1 (L2 := [some (.ref 37), some (.int (nI wh0)), some (.long (lN (bf_pr (pE P) k * pE P k))), none, some (.int (nI k)), some (.int (nI (pE P k))), some (.int (nI 10))]) dX9_odds_90 rfl ?_
              refine na_inc r (v := k + 1) (L2 := [some (.ref 37), some (.int (nI wh0)), some (.long (lN (bf_pr (pE P) k * pE P k))), none, some (.int (nI (k + 1))), some (.int (nI (pE P k))), some (.int (nI 10))]) dX9_odds_91 rfl (nI_add _ 1) rfl ?_
              refine bf_goto r.1 (tgt := 26) dX9_odds_94 (by decide) ?_
              refine bf_fgt r.1 (i := 5) (L2 := [some (.ref 37), some (.int (nI wh0)), some (.long (lN (bf_pr (pE P) k * pE P k))), none, some (.int (nI (k + 1))), none, some (.int (nI 10))]) rfl ?_
              refine bf_fgt r.1 (i := 6) (L2 := [some (.ref 37), some (.int (nI wh0)), some (.long (lN (bf_pr (pE P) k * pE P k))), none, some (.int (nI (k + 1))), none, none]) rfl ?_
              exact ihk (by omega)
            · refine bf_iload r.1 dX9_odds_48 rfl ?_
              refine bf_aload_n r.1 dX9_odds_50 rfl ?_
              refine bf_iload r.1 dX9_odds_51 rfl ?_
              refine bf_aload_n r.1 dX9_odds_53 rfl ?_
              refine bf_iload r.1 dX9_odds_54 rfl ?_
              refine bf_iload r.1 dX9_odds_56 rfl ?_
              refine cl_v r (y2 := mX9_burnsAt) dX9_odds_58 li_X9_157 mv_X9_burnsAt rfl (by decide) [.int (nI k), .int (nI d)] [.int (nI k), .ref 37, .int (nI (bf_ct (fun d => decide (bf_pc (pM P k (pB P k d)) = 1)) d))] rfl (Nat.le_of_ble_eq_true rfl) rfl (c_X9_burnsAt (by omega) hv hm hkn (by omega)) ?_
              show J 61 [some (.ref 37), some (.int (nI wh0)), some (.long (lN (bf_pr (pE P) k))), none, some (.int (nI k)), some (.int (nI (bf_ct (fun d => decide (bf_pc (pM P k (pB P k d)) = 1)) d))), some (.int (nI d))] [.int (nI (pB P k d)), .int (nI k), .ref 37, .int (nI (bf_ct (fun d => decide (bf_pc (pM P k (pB P k d)) = 1)) d))] (bf_MD D)
              refine cl_v r (y2 := mX9_digitsOf) dX9_odds_61 li_X9_178 mv_X9_digitsOf rfl (by decide) [.int (nI k), .int (nI (pB P k d))] [.int (nI (bf_ct (fun d => decide (bf_pc (pM P k (pB P k d)) = 1)) d))] rfl (Nat.le_of_ble_eq_true rfl) rfl (c_X9_digitsOf (by omega) hv hm hkn (bf_lt31 (pB_lt hv hkn d) (by decide))) ?_
              show J 64 [some (.ref 37), some (.int (nI wh0)), some (.long (lN (bf_pr (pE P) k))), none, some (.int (nI k)), some (.int (nI (bf_ct (fun d => decide (bf_pc (pM P k (pB P k d)) = 1)) d))), some (.int (nI d))] [.int (nI (pM P k (pB P k d))), .int (nI (bf_ct (fun d => decide (bf_pc (pM P k (pB P k d)) = 1)) d))] (bf_MD D)
              refine cl_s r (y2 := mX9_bits) dX9_odds_64 li_X9_188 mv_X9_bits [.int (nI (pM P k (pB P k d)))] [.int (nI (bf_ct (fun d => decide (bf_pc (pM P k (pB P k d)) = 1)) d))] rfl (Nat.le_of_ble_eq_true rfl) rfl (c_X9_bits (by omega) D (pM_lt _ _ _)) ?_
              show J 67 [some (.ref 37), some (.int (nI wh0)), some (.long (lN (bf_pr (pE P) k))), none, some (.int (nI k)), some (.int (nI (bf_ct (fun d => decide (bf_pc (pM P k (pB P k d)) = 1)) d))), some (.int (nI d))] [.int (nI (bf_pc (pM P k (pB P k d)))), .int (nI (bf_ct (fun d => decide (bf_pc (pM P k (pB P k d)) = 1)) d))] (bf_MD D)
              refine bf_iconst r.1 (v := nI 1) dX9_odds_67 rfl ?_
              refine nc_ne r (tgt := 75) dX9_odds_68 (by decide) (by have := bf_pc_le (pM P k (pB P k d)); omega) (by decide) (fun c555 => ?_) (fun c555 => ?_)
              · refine bf_iconst r.1 (v := nI 0) dX9_odds_75 rfl ?_
                refine na_add r dX9_odds_76  ?_
                refine bf_istore r.1 (L2 := [some (.ref 37), some (.int (nI wh0)), some (.long (lN (bf_pr (pE P) k))), none, some (.int (nI k)), some (.int (nI (bf_ct (fun d => decide (bf_pc (pM P k (pB P k d)) = 1)) d + 0))), some (.int (nI d))]) dX9_odds_77 rfl ?_
                refine na_inc r (v := d + 1) (L2 := [some (.ref 37), some (.int (nI wh0)), some (.long (lN (bf_pr (pE P) k))), none, some (.int (nI k)), some (.int (nI (bf_ct (fun d => decide (bf_pc (pM P k (pB P k d)) = 1)) d + 0))), some (.int (nI (d + 1)))]) dX9_odds_79 rfl (nI_add _ 1) rfl ?_
                refine bf_goto r.1 (tgt := 41) dX9_odds_82 (by decide) ?_
                have hi := ih (by omega)
                rw [bf_ct_f (p := (fun d => decide (bf_pc (pM P k (pB P k d)) = 1))) (fun q => c555 (of_decide_eq_true q))] at hi
                exact hi
              · refine bf_iconst r.1 (v := nI 1) dX9_odds_71 rfl ?_
                refine bf_goto r.1 (tgt := 76) dX9_odds_72 (by decide) ?_
                refine na_add r dX9_odds_76  ?_
                refine bf_istore r.1 (L2 := [some (.ref 37), some (.int (nI wh0)), some (.long (lN (bf_pr (pE P) k))), none, some (.int (nI k)), some (.int (nI (bf_ct (fun d => decide (bf_pc (pM P k (pB P k d)) = 1)) d + 1))), some (.int (nI d))]) dX9_odds_77 rfl ?_
                refine na_inc r (v := d + 1) (L2 := [some (.ref 37), some (.int (nI wh0)), some (.long (lN (bf_pr (pE P) k))), none, some (.int (nI k)), some (.int (nI (bf_ct (fun d => decide (bf_pc (pM P k (pB P k d)) = 1)) d + 1))), some (.int (nI (d + 1)))]) dX9_odds_79 rfl (nI_add _ 1) rfl ?_
                refine bf_goto r.1 (tgt := 41) dX9_odds_82 (by decide) ?_
                have hi := ih (by omega)
                rw [bf_ct_t (p := (fun d => decide (bf_pc (pM P k (pB P k d)) = 1))) (decide_eq_true c555)] at hi
                exact hi
          exact lod 0 (by omega)
      exact loop 0 (by omega) 
    · refine cl_s r (y2 := mX9_lost) dX9_odds_17 li_X9_73 mv_X9_lost [] [] rfl (Nat.le_of_ble_eq_true rfl) rfl (c_X9_lost (by omega) D) ?_
      show J 20 [some (.ref 37), some (.int (nI wh0)), none, none, none, none, none] [.long (bf_lost)] (bf_MD D)
      exact rt_l r dX9_odds_20 rfl (by simp only [ox_odds, wwh, if_pos c552, on_n, on_s]) rfl
theorem c_X8_trace {d : Nat} (hd : 1 ≤ d) {D : bf_D} {P : bf_Pn} {S : bf_Sh} {Q : bf_Rd} {F : Nat} {T : Int32} (ca : cA D (P, S, Q, F, T)) : bf_Cf d mX8_trace [.ref 0] D (some (.int (ox_trace T))) D := by
  refine bf_Cf_of 0 hd mo_X8_trace (Nat.le_of_ble_eq_true rfl) (fun e he J r => ?_)
  show J 0 [some (.ref 0)] [] (bf_MD D)
  refine bf_aload_n r.1 dX8_trace_0 rfl ?_
  refine ig_int r (v := T) dX8_trace_1 fl_X8_247 rfl (by decide) rfl ca.2.2.2.2 ?_
  exact rt_i r dX8_trace_4 rfl rfl rfl rfl
theorem c_X8_fault {d : Nat} (hd : 1 ≤ d) {D : bf_D} {P : bf_Pn} {S : bf_Sh} {Q : bf_Rd} {F : Nat} {T : Int32} (ca : cA D (P, S, Q, F, T)) : bf_Cf d mX8_fault [.ref 0] D (some (.int (ox_fault F))) D := by
  refine bf_Cf_of 0 hd mo_X8_fault (Nat.le_of_ble_eq_true rfl) (fun e he J r => ?_)
  show J 0 [some (.ref 0)] [] (bf_MD D)
  refine bf_aload_n r.1 dX8_fault_0 rfl ?_
  refine ig_int r (v := nI F) dX8_fault_1 fl_X8_46 rfl (by decide) rfl ca.2.2.2.1 ?_
  exact rt_i r dX8_fault_4 rfl rfl rfl rfl
theorem c_X9_trace {d : Nat} (hd : 1 ≤ d) {D : bf_D} {P : bf_Pn} {S : bf_Sh} {Q : bf_Rd} {F : Nat} {T : Int32} (ca : mA D (P, S, Q, F, T)) : bf_Cf d mX9_trace [.ref 37] D (some (.int (ox_trace T))) D := by
  refine bf_Cf_of 0 hd mo_X9_trace (Nat.le_of_ble_eq_true rfl) (fun e he J r => ?_)
  show J 0 [some (.ref 37)] [] (bf_MD D)
  refine bf_aload_n r.1 dX9_trace_0 rfl ?_
  refine ig_int r (v := T) dX9_trace_1 fl_X9_269 rfl (by decide) rfl ca.2.2.2.2 ?_
  exact rt_i r dX9_trace_4 rfl rfl rfl rfl
theorem c_X9_fault {d : Nat} (hd : 1 ≤ d) {D : bf_D} {P : bf_Pn} {S : bf_Sh} {Q : bf_Rd} {F : Nat} {T : Int32} (ca : mA D (P, S, Q, F, T)) : bf_Cf d mX9_fault [.ref 37] D (some (.int (ox_fault F))) D := by
  refine bf_Cf_of 0 hd mo_X9_fault (Nat.le_of_ble_eq_true rfl) (fun e he J r => ?_)
  show J 0 [some (.ref 37)] [] (bf_MD D)
  refine bf_aload_n r.1 dX9_fault_0 rfl ?_
  refine ig_int r (v := nI F) dX9_fault_1 fl_X9_69 rfl (by decide) rfl ca.2.2.2.1 ?_
  exact rt_i r dX9_fault_4 rfl rfl rfl rfl
