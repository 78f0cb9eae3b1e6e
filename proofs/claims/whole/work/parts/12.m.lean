/-- a set of numbers below n, as bits -/
def bf_bm (p : Nat → Bool) : Nat → Nat
  | 0 => 0
  | n + 1 => if p n = true then bf_bm p n ||| 1 * 2 ^ n else bf_bm p n
theorem bf_bm_t {p : Nat → Bool} {n : Nat} (h : p n = true) : bf_bm p (n + 1) = bf_bm p n ||| 1 * 2 ^ n := if_pos h
theorem bf_bm_f {p : Nat → Bool} {n : Nat} (h : ¬ p n = true) : bf_bm p (n + 1) = bf_bm p n := if_neg h
theorem bf_bm_lt (p : Nat → Bool) : ∀ n, bf_bm p n < 2 ^ n := by
  intro n
  induction n with
  | zero => exact Nat.one_pos
  | succ n ih =>
    have h1 : (2 : Nat) ^ n < 2 ^ (n + 1) := Nat.pow_lt_pow_right (by decide) (Nat.lt_succ_self n)
    by_cases h : p n = true
    · rw [bf_bm_t h]; exact Nat.or_lt_two_pow (Nat.lt_trans ih h1) (by rw [Nat.one_mul]; exact h1)
    · rw [bf_bm_f h]; exact Nat.lt_trans ih h1
theorem bf_bm_bit (p : Nat → Bool) : ∀ n i, (bf_bm p n).testBit i = (decide (i < n) && p i) := by
  intro n
  induction n with
  | zero => intro i; simp [bf_bm]
  | succ n ih =>
    intro i
    by_cases h : p n = true
    · rw [bf_bm_t h, Nat.testBit_or, ih, Nat.one_mul, Nat.testBit_two_pow]
      by_cases e : n = i
      · subst e; simp [h]
      · have e2 : (decide (i < n + 1)) = decide (i < n) := by
          have : (i < n + 1) ↔ (i < n) := by omega
          simp [this]
        simp [e, e2]
    · rw [bf_bm_f h, ih]
      by_cases e : n = i
      · subst e; simp [h]
      · have e2 : (decide (i < n + 1)) = decide (i < n) := by
          have : (i < n + 1) ↔ (i < n) := by omega
          simp [this]
        rw [e2]
/-- how many numbers below n -/
def bf_ct (p : Nat → Bool) : Nat → Nat
  | 0 => 0
  | n + 1 => bf_ct p n + (if p n = true then 1 else 0)
theorem bf_ct_t {p : Nat → Bool} {n : Nat} (h : p n = true) : bf_ct p (n + 1) = bf_ct p n + 1 := by simp [bf_ct, h]
theorem bf_ct_f {p : Nat → Bool} {n : Nat} (h : ¬ p n = true) : bf_ct p (n + 1) = bf_ct p n + 0 := by simp [bf_ct, h]
theorem bf_ct_le (p : Nat → Bool) : ∀ n, bf_ct p n ≤ n := by
  intro n
  induction n with
  | zero => exact Nat.le_refl _
  | succ n ih => simp only [bf_ct]; split <;> omega
theorem bf_sh1 {z : Nat} (h : z < 31) : 1 * 2 ^ z < 2 ^ 32 := by
  rw [Nat.one_mul]
  exact Nat.pow_lt_pow_right (by decide) (by omega)
/-- digits that look as a set -/
def pM (P : bf_Pn) (k s : Nat) : Nat := bf_bm (fun d => decide (pB P k d = s)) 10
theorem pM_lt (P : bf_Pn) (k s : Nat) : pM P k s < 1024 := bf_bm_lt _ 10
theorem pM_bit (P : bf_Pn) (k s i : Nat) : (pM P k s).testBit i = (decide (i < 10) && decide (pB P k i = s)) := bf_bm_bit _ 10 i
/-- the digits that no lesser one looks as; those that no other one looks as -/
def pU (P : bf_Pn) (k : Nat) : Nat := bf_ct (fun d => decide (pM P k (pB P k d) &&& (1 * 2 ^ d - 1) = 0)) 10
def pE (P : bf_Pn) (k : Nat) : Nat := bf_ct (fun d => decide (pM P k (pB P k d) = 1 * 2 ^ d)) 10
def lkF (D : bf_D) : Prop := ∀ i, i < 30 → D 5 i = nI (bf_lk i)
theorem c_X0_look {d : Nat} (hd : 2 ≤ d) {D : bf_D} (hl : lkF D) {q x : Nat} (hq : q < 3) (hx : x < 10) : bf_Cf d mX0_look [.ref 4, .int (nI q), .int (nI x)] D (some (.int (nI (bf_lk (q * 10 + x))))) D := by
  refine bf_Cf_of 1 hd mo_X0_look (Nat.le_of_ble_eq_true rfl) (fun e he J r => ?_)
  show J 0 [some (.ref 4), some (.int (nI q)), some (.int (nI x))] [] (bf_MD D)
  refine bf_iload_n r.1 dX0_look_0 rfl ?_
  refine bf_iconst r.1 (v := nI 3) dX0_look_1 rfl ?_
  refine cl_s r (y2 := mX8_isWithin) dX0_look_2 li_X0_25 mv_X8_isWithin [.int (nI q), .int (nI 3)] [] rfl (Nat.le_of_ble_eq_true rfl) rfl (c_X8_isWithinN (by omega) D (by omega) (by decide)) ?_
  show J 5 [some (.ref 4), some (.int (nI q)), some (.int (nI x))] [.int (if q < 3 then 1 else 0)] (bf_MD D)
  refine nb_eq r (tgt := 31) dX0_look_5 (by decide) (fun c3 => ?_) (fun c3 => ?_)
  · exact absurd hq c3
  · refine bf_iload_n r.1 dX0_look_8 rfl ?_
    refine bf_bipush r.1 (v := nI 10) dX0_look_9 rfl ?_
    refine cl_s r (y2 := mX8_isWithin) dX0_look_11 li_X0_25 mv_X8_isWithin [.int (nI x), .int (nI 10)] [] rfl (Nat.le_of_ble_eq_true rfl) rfl (c_X8_isWithinN (by omega) D (by omega) (by decide)) ?_
    show J 14 [some (.ref 4), some (.int (nI q)), some (.int (nI x))] [.int (if x < 10 then 1 else 0)] (bf_MD D)
    refine nb_eq r (tgt := 31) dX0_look_14 (by decide) (fun c4 => ?_) (fun c4 => ?_)
    · exact absurd hx c4
    · refine bf_aload_n r.1 dX0_look_17 rfl ?_
      refine ig_ref r (b := 5) dX0_look_18 fl_X0_9 rfl (by decide) rfl ?_
      refine bf_iload_n r.1 dX0_look_21 rfl ?_
      refine bf_bipush r.1 (v := nI 10) dX0_look_22 rfl ?_
      refine na_mul r dX0_look_24  ?_
      refine bf_iload_n r.1 dX0_look_25 rfl ?_
      refine na_add r dX0_look_26  ?_
      refine ia_ld r (n := 30) (v := nI (bf_lk (q * 10 + x))) dX0_look_27 rfl (by decide) (by omega) (hl _ (by omega)) ?_
      refine bf_goto r.1 (tgt := 32) dX0_look_28 (by decide) ?_
      exact rt_i r dX0_look_32 rfl rfl rfl rfl
theorem c_X3_litIf {d : Nat} (hd : 3 ≤ d) {D : bf_D} (hl : lkF D) {k : Nat} (hk : k < 4) {q dd st x : Nat} (hs : D (6 + 3 * k) 5 = nI st) (hq : q < 3) (hdd : dd < 128) (hx : x < 10) : bf_Cf d mX3_litIf [.ref (6 + 3 * k), .int (nI q), .int (nI dd), .int (nI x)] D (some (.int (nI (bf_bn q dd st x)))) D := by
  refine bf_Cf_of 2 hd mo_X3_litIf (Nat.le_of_ble_eq_true rfl) (fun e he J r => ?_)
  show J 0 [some (.ref (6 + 3 * k)), some (.int (nI q)), some (.int (nI dd)), some (.int (nI x))] [] (bf_MD D)
  refine bf_aload_n r.1 dX3_litIf_0 rfl ?_
  refine ig_ref r (b := 4) dX3_litIf_1 fl_X3_18 (ad_c6 hk) (ad_l6 hk) (ad_r6_0 hk) ?_
  refine bf_iload_n r.1 dX3_litIf_4 rfl ?_
  refine bf_iload_n r.1 dX3_litIf_5 rfl ?_
  refine cl_v r (y2 := mX0_look) dX3_litIf_6 li_X3_43 mv_X0_look rfl (by decide) [.int (nI q), .int (nI x)] [] rfl (Nat.le_of_ble_eq_true rfl) rfl (c_X0_look (by omega) hl hq hx) ?_
  show J 9 [some (.ref (6 + 3 * k)), some (.int (nI q)), some (.int (nI dd)), some (.int (nI x))] [.int (nI (bf_lk (q * 10 + x)))] (bf_MD D)
  refine bf_iload_n r.1 dX3_litIf_9 rfl ?_
  refine bf_iconst r.1 (v := -1) dX3_litIf_10 rfl ?_
  refine bf_ixor r.1 dX3_litIf_11 ?_
  refine bf_iand r.1 dX3_litIf_12 ?_
  refine eq_i (bf_nand (bf_lk_lt _) hdd) ?_
  refine bf_aload_n r.1 dX3_litIf_13 rfl ?_
  refine ig_int r (v := nI st) dX3_litIf_14 fl_X3_29 (ad_c6 hk) (ad_l6 hk) (ad_i6 hk 5 (by decide)) hs ?_
  refine na_or r dX3_litIf_17  ?_
  exact rt_i r dX3_litIf_18 rfl rfl rfl rfl
theorem c_X3_lit {d : Nat} (hd : 2 ≤ d) {D : bf_D} {P : bf_Pn} (hv : vP P) (hc : cP D P) {k : Nat} (hk : k < pN P) {x : Nat} (hx : x < 10) : bf_Cf d mX3_lit [.ref (6 + 3 * k), .int (nI x)] D (some (.int (nI (pB P k x)))) D := by
  refine bf_Cf_of 1 hd mo_X3_lit (Nat.le_of_ble_eq_true rfl) (fun e he J r => ?_)
  show J 0 [some (.ref (6 + 3 * k)), some (.int (nI x))] [] (bf_MD D)
  have hn4 := hv.1
  have hx4 := pX_le hv
  have hx0 := pX_pos P
  refine bf_iload_n r.1 dX3_lit_0 rfl ?_
  refine bf_bipush r.1 (v := nI 10) dX3_lit_1 rfl ?_
  refine cl_s r (y2 := mX8_isWithin) dX3_lit_3 li_X3_39 mv_X8_isWithin [.int (nI x), .int (nI 10)] [] rfl (Nat.le_of_ble_eq_true rfl) rfl (c_X8_isWithinN (by omega) D (by omega) (by decide)) ?_
  show J 6 [some (.ref (6 + 3 * k)), some (.int (nI x))] [.int (if x < 10 then 1 else 0)] (bf_MD D)
  refine nb_eq r (tgt := 18) dX3_lit_6 (by decide) (fun c5 => ?_) (fun c5 => ?_)
  · exact absurd hx c5
  · refine bf_aload_n r.1 dX3_lit_9 rfl ?_
    refine ig_ref r (b := (7 + 3 * k)) dX3_lit_10 fl_X3_9 (ad_c6 (Nat.lt_of_lt_of_le hk hn4)) (ad_l6 (Nat.lt_of_lt_of_le hk hn4)) (ad_r6_1 (Nat.lt_of_lt_of_le hk hn4)) ?_
    refine bf_iload_n r.1 dX3_lit_13 rfl ?_
    refine ia_ld r (n := 10) (v := nI (pB P k x)) dX3_lit_14 (ad_k7 (Nat.lt_of_lt_of_le hk hn4)) (ad_l7 (Nat.lt_of_lt_of_le hk hn4)) (by omega) (cP_b (P := P) hc hk (by omega)) ?_
    refine bf_goto r.1 (tgt := 19) dX3_lit_15 (by decide) ?_
    exact rt_i r dX3_lit_19 rfl rfl rfl rfl
theorem c_X3_digitsOf {d : Nat} (hd : 1 ≤ d) {D : bf_D} {P : bf_Pn} (hv : vP P) (hc : cP D P) {k : Nat} (hk : k < pN P) {x : Nat} (hx : x < 2 ^ 31) : bf_Cf d mX3_digitsOf [.ref (6 + 3 * k), .int (nI x)] D (some (.int (nI (pM P k x)))) D := by
  refine bf_Cf_of 0 hd mo_X3_digitsOf (Nat.le_of_ble_eq_true rfl) (fun e he J r => ?_)
  show J 0 [some (.ref (6 + 3 * k)), some (.int (nI x)), none, none] [] (bf_MD D)
  have hn4 := hv.1
  have hx4 := pX_le hv
  have hx0 := pX_pos P
  refine bf_iconst r.1 (v := nI 0) dX3_digitsOf_0 rfl ?_
  refine bf_istore_n r.1 (L2 := [some (.ref (6 + 3 * k)), some (.int (nI x)), some (.int (nI 0)), none]) dX3_digitsOf_1 rfl ?_
  refine bf_iconst r.1 (v := nI 0) dX3_digitsOf_2 rfl ?_
  refine bf_istore_n r.1 (L2 := [some (.ref (6 + 3 * k)), some (.int (nI x)), some (.int (nI 0)), some (.int (nI 0))]) dX3_digitsOf_3 rfl ?_
  have loop : ∀ j : Nat, j ≤ 10 → J 4 [some (.ref (6 + 3 * k)), some (.int (nI x)), some (.int (nI (bf_bm (fun d => decide (pB P k d = x)) j))), some (.int (nI j))] [] (bf_MD D) := by
    refine bf_down (fun j hle ih => ?_)
    refine bf_iload_n r.1 dX3_digitsOf_4 rfl ?_
    refine bf_bipush r.1 (v := nI 10) dX3_digitsOf_5 rfl ?_
    refine nc_ge r (tgt := 32) dX3_digitsOf_7 (by decide) (by omega) (by decide) (fun c6 => ?_) (fun c6 => ?_)
    · refine bf_iload_n r.1 dX3_digitsOf_32 rfl ?_
      have ej : j = 10 := by omega
      subst ej
      exact rt_i r dX3_digitsOf_33 rfl rfl rfl rfl
    · refine bf_aload_n r.1 dX3_digitsOf_10 rfl ?_
      refine ig_ref r (b := (7 + 3 * k)) dX3_digitsOf_11 fl_X3_9 (ad_c6 (Nat.lt_of_lt_of_le hk hn4)) (ad_l6 (Nat.lt_of_lt_of_le hk hn4)) (ad_r6_1 (Nat.lt_of_lt_of_le hk hn4)) ?_
      refine bf_iload_n r.1 dX3_digitsOf_14 rfl ?_
      refine ia_ld r (n := 10) (v := nI (pB P k j)) dX3_digitsOf_15 (ad_k7 (Nat.lt_of_lt_of_le hk hn4)) (ad_l7 (Nat.lt_of_lt_of_le hk hn4)) (by omega) (cP_b (P := P) hc hk (by omega)) ?_
      refine bf_iload_n r.1 dX3_digitsOf_16 rfl ?_
      refine nc_ne r (tgt := 26) dX3_digitsOf_17 (by decide) (bf_lt31 (pB_lt hv hk j) (by decide)) (by omega) (fun c7 => ?_) (fun c7 => ?_)
      · refine na_inc r (v := j + 1) (L2 := [some (.ref (6 + 3 * k)), some (.int (nI x)), some (.int (nI (bf_bm (fun d => decide (pB P k d = x)) j))), some (.int (nI (j + 1)))]) dX3_digitsOf_26 rfl (nI_add _ 1) rfl ?_
        refine bf_goto r.1 (tgt := 4) dX3_digitsOf_29 (by decide) ?_
        have hi := ih c6
        rw [bf_bm_f (by simp [c7])] at hi
        exact hi
      · refine bf_iload_n r.1 dX3_digitsOf_20 rfl ?_
        refine bf_iconst r.1 (v := nI 1) dX3_digitsOf_21 rfl ?_
        refine bf_iload_n r.1 dX3_digitsOf_22 rfl ?_
        refine na_shl r dX3_digitsOf_23 (by omega) (bf_sh1 (by omega)) ?_
        refine na_or r dX3_digitsOf_24  ?_
        refine bf_istore_n r.1 (L2 := [some (.ref (6 + 3 * k)), some (.int (nI x)), some (.int (nI ((bf_bm (fun d => decide (pB P k d = x)) j) ||| (1 * 2 ^ j)))), some (.int (nI j))]) dX3_digitsOf_25 rfl ?_
        refine na_inc r (v := j + 1) (L2 := [some (.ref (6 + 3 * k)), some (.int (nI x)), some (.int (nI ((bf_bm (fun d => decide (pB P k d = x)) j) ||| (1 * 2 ^ j)))), some (.int (nI (j + 1)))]) dX3_digitsOf_26 rfl (nI_add _ 1) rfl ?_
        refine bf_goto r.1 (tgt := 4) dX3_digitsOf_29 (by decide) ?_
        have hi := ih c6
        rw [bf_bm_t (by simp [c7])] at hi
        exact hi
  exact loop 0 (by omega) 
theorem c_X3_unlikeSets {d : Nat} (hd : 2 ≤ d) {D : bf_D} {P : bf_Pn} (hv : vP P) (hc : cP D P) {k : Nat} (hk : k < pN P) : bf_Cf d mX3_unlikeSets [.ref (6 + 3 * k)] D (some (.int (nI (pU P k)))) D := by
  refine bf_Cf_of 1 hd mo_X3_unlikeSets (Nat.le_of_ble_eq_true rfl) (fun e he J r => ?_)
  show J 0 [some (.ref (6 + 3 * k)), none, none, none] [] (bf_MD D)
  have hn4 := hv.1
  have hx4 := pX_le hv
  have hx0 := pX_pos P
  refine bf_iconst r.1 (v := nI 0) dX3_unlikeSets_0 rfl ?_
  refine bf_istore_n r.1 (L2 := [some (.ref (6 + 3 * k)), some (.int (nI 0)), none, none]) dX3_unlikeSets_1 rfl ?_
  refine bf_iconst r.1 (v := nI 0) dX3_unlikeSets_2 rfl ?_
  refine bf_istore_n r.1 (L2 := [some (.ref (6 + 3 * k)), some (.int (nI 0)), some (.int (nI 0)), none]) dX3_unlikeSets_3 rfl ?_
  have loop : ∀ j : Nat, j ≤ 10 → J 4 [some (.ref (6 + 3 * k)), some (.int (nI (bf_ct (fun d => decide (pM P k (pB P k d) &&& (1 * 2 ^ d - 1) = 0)) j))), some (.int (nI j)), none] [] (bf_MD D) := by
    refine bf_down (fun j hle ih => ?_)
    refine bf_iload_n r.1 dX3_unlikeSets_4 rfl ?_
    refine bf_bipush r.1 (v := nI 10) dX3_unlikeSets_5 rfl ?_
    refine nc_ge r (tgt := 45) dX3_unlikeSets_7 (by decide) (by omega) (by decide) (fun c8 => ?_) (fun c8 => ?_)
    · refine bf_iload_n r.1 dX3_unlikeSets_45 rfl ?_
      have ej : j = 10 := by omega
      subst ej
      exact rt_i r dX3_unlikeSets_46 rfl rfl rfl rfl
    · have h2j : 1 ≤ 1 * 2 ^ j := by rw [Nat.one_mul]; exact Nat.one_le_two_pow
      refine bf_iconst r.1 (v := nI 1) dX3_unlikeSets_10 rfl ?_
      refine bf_iload_n r.1 dX3_unlikeSets_11 rfl ?_
      refine na_shl r dX3_unlikeSets_12 (by omega) (bf_sh1 (by omega)) ?_
      refine bf_iconst r.1 (v := nI 1) dX3_unlikeSets_13 rfl ?_
      refine na_sub r dX3_unlikeSets_14 (by omega) ?_
      refine bf_istore_n r.1 (L2 := [some (.ref (6 + 3 * k)), some (.int (nI (bf_ct (fun d => decide (pM P k (pB P k d) &&& (1 * 2 ^ d - 1) = 0)) j))), some (.int (nI j)), some (.int (nI ((1 * 2 ^ j) - 1)))]) dX3_unlikeSets_15 rfl ?_
      refine bf_iload_n r.1 dX3_unlikeSets_16 rfl ?_
      refine bf_aload_n r.1 dX3_unlikeSets_17 rfl ?_
      refine bf_aload_n r.1 dX3_unlikeSets_18 rfl ?_
      refine ig_ref r (b := (7 + 3 * k)) dX3_unlikeSets_19 fl_X3_9 (ad_c6 (Nat.lt_of_lt_of_le hk hn4)) (ad_l6 (Nat.lt_of_lt_of_le hk hn4)) (ad_r6_1 (Nat.lt_of_lt_of_le hk hn4)) ?_
      refine bf_iload_n r.1 dX3_unlikeSets_22 rfl ?_
      refine ia_ld r (n := 10) (v := nI (pB P k j)) dX3_unlikeSets_23 (ad_k7 (Nat.lt_of_lt_of_le hk hn4)) (ad_l7 (Nat.lt_of_lt_of_le hk hn4)) (by omega) (cP_b (P := P) hc hk (by omega)) ?_
      refine cl_v r (y2 := mX3_digitsOf) dX3_unlikeSets_24 li_X3_49 mv_X3_digitsOf (ad_c6 (Nat.lt_of_lt_of_le hk hn4)) (ad_l6 (Nat.lt_of_lt_of_le hk hn4)) [.int (nI (pB P k j))] [.int (nI (bf_ct (fun d => decide (pM P k (pB P k d) &&& (1 * 2 ^ d - 1) = 0)) j))] rfl (Nat.le_of_ble_eq_true rfl) rfl (c_X3_digitsOf (by omega) hv hc hk (bf_lt31 (pB_lt hv hk j) (by decide))) ?_
      show J 27 [some (.ref (6 + 3 * k)), some (.int (nI (bf_ct (fun d => decide (pM P k (pB P k d) &&& (1 * 2 ^ d - 1) = 0)) j))), some (.int (nI j)), some (.int (nI ((1 * 2 ^ j) - 1)))] [.int (nI (pM P k (pB P k j))), .int (nI (bf_ct (fun d => decide (pM P k (pB P k d) &&& (1 * 2 ^ d - 1) = 0)) j))] (bf_MD D)
      refine bf_iload_n r.1 dX3_unlikeSets_27 rfl ?_
      refine na_and r dX3_unlikeSets_28  ?_
      refine nz_ne r (tgt := 36) dX3_unlikeSets_29 (by decide) (bf_lt31 (Nat.lt_of_le_of_lt Nat.and_le_left (pM_lt _ _ _)) (by decide)) (fun c9 => ?_) (fun c9 => ?_)
      · refine bf_iconst r.1 (v := nI 0) dX3_unlikeSets_36 rfl ?_
        refine na_add r dX3_unlikeSets_37  ?_
        refine bf_istore_n r.1 (L2 := [some (.ref (6 + 3 * k)), some (.int (nI (bf_ct (fun d => decide (pM P k (pB P k d) &&& (1 * 2 ^ d - 1) = 0)) j + 0))), some (.int (nI j)), some (.int (nI ((1 * 2 ^ j) - 1)))]) dX3_unlikeSets_38 rfl ?_
        refine na_inc r (v := j + 1) (L2 := [some (.ref (6 + 3 * k)), some (.int (nI (bf_ct (fun d => decide (pM P k (pB P k d) &&& (1 * 2 ^ d - 1) = 0)) j + 0))), some (.int (nI (j + 1))), some (.int (nI ((1 * 2 ^ j) - 1)))]) dX3_unlikeSets_39 rfl (nI_add _ 1) rfl ?_
        refine bf_goto r.1 (tgt := 4) dX3_unlikeSets_42 (by decide) ?_
        have hi := ih c8
        rw [bf_ct_f (by simpa using c9)] at hi
        refine bf_fgt r.1 (i := 3) (L2 := [some (.ref (6 + 3 * k)), some (.int (nI (bf_ct (fun d => decide (pM P k (pB P k d) &&& (1 * 2 ^ d - 1) = 0)) j + 0))), some (.int (nI (j + 1))), none]) rfl ?_
        exact hi
      · refine bf_iconst r.1 (v := nI 1) dX3_unlikeSets_32 rfl ?_
        refine bf_goto r.1 (tgt := 37) dX3_unlikeSets_33 (by decide) ?_
        refine na_add r dX3_unlikeSets_37  ?_
        refine bf_istore_n r.1 (L2 := [some (.ref (6 + 3 * k)), some (.int (nI (bf_ct (fun d => decide (pM P k (pB P k d) &&& (1 * 2 ^ d - 1) = 0)) j + 1))), some (.int (nI j)), some (.int (nI ((1 * 2 ^ j) - 1)))]) dX3_unlikeSets_38 rfl ?_
        refine na_inc r (v := j + 1) (L2 := [some (.ref (6 + 3 * k)), some (.int (nI (bf_ct (fun d => decide (pM P k (pB P k d) &&& (1 * 2 ^ d - 1) = 0)) j + 1))), some (.int (nI (j + 1))), some (.int (nI ((1 * 2 ^ j) - 1)))]) dX3_unlikeSets_39 rfl (nI_add _ 1) rfl ?_
        refine bf_goto r.1 (tgt := 4) dX3_unlikeSets_42 (by decide) ?_
        have hi := ih c8
        rw [bf_ct_t (by simpa using c9)] at hi
        refine bf_fgt r.1 (i := 3) (L2 := [some (.ref (6 + 3 * k)), some (.int (nI (bf_ct (fun d => decide (pM P k (pB P k d) &&& (1 * 2 ^ d - 1) = 0)) j + 1))), some (.int (nI (j + 1))), none]) rfl ?_
        exact hi
  exact loop 0 (by omega) 
theorem c_X3_loneDigits {d : Nat} (hd : 2 ≤ d) {D : bf_D} {P : bf_Pn} (hv : vP P) (hc : cP D P) {k : Nat} (hk : k < pN P) : bf_Cf d mX3_loneDigits [.ref (6 + 3 * k)] D (some (.int (nI (pE P k)))) D := by
  refine bf_Cf_of 1 hd mo_X3_loneDigits (Nat.le_of_ble_eq_true rfl) (fun e he J r => ?_)
  show J 0 [some (.ref (6 + 3 * k)), none, none] [] (bf_MD D)
  have hn4 := hv.1
  have hx4 := pX_le hv
  have hx0 := pX_pos P
  refine bf_iconst r.1 (v := nI 0) dX3_loneDigits_0 rfl ?_
  refine bf_istore_n r.1 (L2 := [some (.ref (6 + 3 * k)), some (.int (nI 0)), none]) dX3_loneDigits_1 rfl ?_
  refine bf_iconst r.1 (v := nI 0) dX3_loneDigits_2 rfl ?_
  refine bf_istore_n r.1 (L2 := [some (.ref (6 + 3 * k)), some (.int (nI 0)), some (.int (nI 0))]) dX3_loneDigits_3 rfl ?_
  have loop : ∀ j : Nat, j ≤ 10 → J 4 [some (.ref (6 + 3 * k)), some (.int (nI (bf_ct (fun d => decide (pM P k (pB P k d) = 1 * 2 ^ d)) j))), some (.int (nI j))] [] (bf_MD D) := by
    refine bf_down (fun j hle ih => ?_)
    refine bf_iload_n r.1 dX3_loneDigits_4 rfl ?_
    refine bf_bipush r.1 (v := nI 10) dX3_loneDigits_5 rfl ?_
    refine nc_ge r (tgt := 40) dX3_loneDigits_7 (by decide) (by omega) (by decide) (fun c10 => ?_) (fun c10 => ?_)
    · refine bf_iload_n r.1 dX3_loneDigits_40 rfl ?_
      have ej : j = 10 := by omega
      subst ej
      exact rt_i r dX3_loneDigits_41 rfl rfl rfl rfl
    · have h2j : 1 * 2 ^ j < 2 ^ 31 := by rw [Nat.one_mul]; exact Nat.pow_lt_pow_right (by decide) (by omega)
      refine bf_iload_n r.1 dX3_loneDigits_10 rfl ?_
      refine bf_aload_n r.1 dX3_loneDigits_11 rfl ?_
      refine bf_aload_n r.1 dX3_loneDigits_12 rfl ?_
      refine ig_ref r (b := (7 + 3 * k)) dX3_loneDigits_13 fl_X3_9 (ad_c6 (Nat.lt_of_lt_of_le hk hn4)) (ad_l6 (Nat.lt_of_lt_of_le hk hn4)) (ad_r6_1 (Nat.lt_of_lt_of_le hk hn4)) ?_
      refine bf_iload_n r.1 dX3_loneDigits_16 rfl ?_
      refine ia_ld r (n := 10) (v := nI (pB P k j)) dX3_loneDigits_17 (ad_k7 (Nat.lt_of_lt_of_le hk hn4)) (ad_l7 (Nat.lt_of_lt_of_le hk hn4)) (by omega) (cP_b (P := P) hc hk (by omega)) ?_
      refine cl_v r (y2 := mX3_digitsOf) dX3_loneDigits_18 li_X3_49 mv_X3_digitsOf (ad_c6 (Nat.lt_of_lt_of_le hk hn4)) (ad_l6 (Nat.lt_of_lt_of_le hk hn4)) [.int (nI (pB P k j))] [.int (nI (bf_ct (fun d => decide (pM P k (pB P k d) = 1 * 2 ^ d)) j))] rfl (Nat.le_of_ble_eq_true rfl) rfl (c_X3_digitsOf (by omega) hv hc hk (bf_lt31 (pB_lt hv hk j) (by decide))) ?_
      show J 21 [some (.ref (6 + 3 * k)), some (.int (nI (bf_ct (fun d => decide (pM P k (pB P k d) = 1 * 2 ^ d)) j))), some (.int (nI j))] [.int (nI (pM P k (pB P k j))), .int (nI (bf_ct (fun d => decide (pM P k (pB P k d) = 1 * 2 ^ d)) j))] (bf_MD D)
      refine bf_iconst r.1 (v := nI 1) dX3_loneDigits_21 rfl ?_
      refine bf_iload_n r.1 dX3_loneDigits_22 rfl ?_
      refine na_shl r dX3_loneDigits_23 (by omega) (bf_sh1 (by omega)) ?_
      refine nc_ne r (tgt := 31) dX3_loneDigits_24 (by decide) (bf_lt31 (pM_lt _ _ _) (by decide)) h2j (fun c11 => ?_) (fun c11 => ?_)
      · refine bf_iconst r.1 (v := nI 0) dX3_loneDigits_31 rfl ?_
        refine na_add r dX3_loneDigits_32  ?_
        refine bf_istore_n r.1 (L2 := [some (.ref (6 + 3 * k)), some (.int (nI (bf_ct (fun d => decide (pM P k (pB P k d) = 1 * 2 ^ d)) j + 0))), some (.int (nI j))]) dX3_loneDigits_33 rfl ?_
        refine na_inc r (v := j + 1) (L2 := [some (.ref (6 + 3 * k)), some (.int (nI (bf_ct (fun d => decide (pM P k (pB P k d) = 1 * 2 ^ d)) j + 0))), some (.int (nI (j + 1)))]) dX3_loneDigits_34 rfl (nI_add _ 1) rfl ?_
        refine bf_goto r.1 (tgt := 4) dX3_loneDigits_37 (by decide) ?_
        have hi := ih c10
        rw [bf_ct_f (by simpa using c11)] at hi
        exact hi
      · refine bf_iconst r.1 (v := nI 1) dX3_loneDigits_27 rfl ?_
        refine bf_goto r.1 (tgt := 32) dX3_loneDigits_28 (by decide) ?_
        refine na_add r dX3_loneDigits_32  ?_
        refine bf_istore_n r.1 (L2 := [some (.ref (6 + 3 * k)), some (.int (nI (bf_ct (fun d => decide (pM P k (pB P k d) = 1 * 2 ^ d)) j + 1))), some (.int (nI j))]) dX3_loneDigits_33 rfl ?_
        refine na_inc r (v := j + 1) (L2 := [some (.ref (6 + 3 * k)), some (.int (nI (bf_ct (fun d => decide (pM P k (pB P k d) = 1 * 2 ^ d)) j + 1))), some (.int (nI (j + 1)))]) dX3_loneDigits_34 rfl (nI_add _ 1) rfl ?_
        refine bf_goto r.1 (tgt := 4) dX3_loneDigits_37 (by decide) ?_
        have hi := ih c10
        rw [bf_ct_t (by simpa using c11)] at hi
        exact hi
  exact loop 0 (by omega) 
theorem c_X2_isNone {d : Nat} (hd : 1 ≤ d) {D : bf_D} {P : bf_Pn} (hv : vP P) (hc : cP D P) : bf_Cf d mX2_isNone [.ref 2] D (some (.int (if pN P = 0 then 1 else 0))) D := by
  refine bf_Cf_of 0 hd mo_X2_isNone (Nat.le_of_ble_eq_true rfl) (fun e he J r => ?_)
  show J 0 [some (.ref 2)] [] (bf_MD D)
  have hn4 := hv.1
  have hx4 := pX_le hv
  have hx0 := pX_pos P
  refine bf_aload_n r.1 dX2_isNone_0 rfl ?_
  refine ig_int r (v := nI (pN P)) dX2_isNone_1 fl_X2_32 rfl (by decide) rfl (cP_n (P := P) hc) ?_
  refine nz_ne r (tgt := 11) dX2_isNone_4 (by decide) (by omega) (fun c12 => ?_) (fun c12 => ?_)
  · refine bf_iconst r.1 (v := nI 0) dX2_isNone_11 rfl ?_
    exact rt_i r dX2_isNone_12 rfl (by decide) (if_neg c12).symm rfl
  · refine bf_iconst r.1 (v := nI 1) dX2_isNone_7 rfl ?_
    refine bf_goto r.1 (tgt := 12) dX2_isNone_8 (by decide) ?_
    exact rt_i r dX2_isNone_12 rfl (by decide) (if_pos c12).symm rfl
theorem bf_lastlt {v : Int32} {x : Nat} (h1 : 1 ≤ x) (h2 : x < 2 ^ 31) : v ≤ nI (x - 1) ↔ v < nI x := by
  rw [Int32.le_iff_toInt_le, Int32.lt_iff_toInt_lt, nI_toInt h2, nI_toInt (by omega)]
  omega
theorem c_X2_isNumber {d : Nat} (hd : 1 ≤ d) {D : bf_D} {P : bf_Pn} (hv : vP P) (hc : cP D P) (v : Int32) : bf_Cf d mX2_isNumber [.ref 2, .int (v)] D (some (.int (if 0 ≤ v ∧ v < nI (pX P) then 1 else 0))) D := by
  refine bf_Cf_of 0 hd mo_X2_isNumber (Nat.le_of_ble_eq_true rfl) (fun e he J r => ?_)
  show J 0 [some (.ref 2), some (.int (v))] [] (bf_MD D)
  have hn4 := hv.1
  have hx4 := pX_le hv
  have hx0 := pX_pos P
  have hpl := bf_lastlt (v := v) (show 1 ≤ pX P by omega) (show pX P < 2 ^ 31 by omega)
  refine bf_iconst r.1 (v := nI 0) dX2_isNumber_0 rfl ?_
  refine bf_iload_n r.1 dX2_isNumber_1 rfl ?_
  refine bf_icmp_gt r.1 (tgt := 17) dX2_isNumber_2 (by decide) (fun c13 => ?_) (fun c13 => ?_)
  · refine bf_iconst r.1 (v := nI 0) dX2_isNumber_17 rfl ?_
    exact rt_i r dX2_isNumber_18 rfl (by decide) (if_neg (fun h => Int32.not_lt.mpr h.1 c13)).symm rfl
  · refine bf_iload_n r.1 dX2_isNumber_5 rfl ?_
    refine bf_aload_n r.1 dX2_isNumber_6 rfl ?_
    refine ig_int r (v := nI (pX P - 1)) dX2_isNumber_7 fl_X2_42 rfl (by decide) rfl (cP_x (P := P) hc) ?_
    refine bf_icmp_gt r.1 (tgt := 17) dX2_isNumber_10 (by decide) (fun c14 => ?_) (fun c14 => ?_)
    · refine bf_iconst r.1 (v := nI 0) dX2_isNumber_17 rfl ?_
      exact rt_i r dX2_isNumber_18 rfl (by decide) (if_neg (fun h => c14 |> fun q => absurd (hpl.mpr h.2) (Int32.not_le.mpr q))).symm rfl
    · refine bf_iconst r.1 (v := nI 1) dX2_isNumber_13 rfl ?_
      refine bf_goto r.1 (tgt := 18) dX2_isNumber_14 (by decide) ?_
      exact rt_i r dX2_isNumber_18 rfl (by decide) (if_pos ⟨Int32.not_lt.mp c13, hpl.mp (Int32.not_lt.mp c14)⟩).symm rfl
theorem c_X2_isNumberN {d : Nat} (hd : 1 ≤ d) {D : bf_D} {P : bf_Pn} (hv : vP P) (hc : cP D P) {v : Nat} (h : v < 2 ^ 31) : bf_Cf d mX2_isNumber [.ref 2, .int (nI v)] D (some (.int (if v < pX P then 1 else 0))) D := by
  have hx4 := pX_le hv
  rw [← bf_ifc (bf_wi_iff h (show pX P < 2 ^ 31 by omega))]
  exact c_X2_isNumber hd hv hc _
theorem c_X2_digitOf {d : Nat} (hd : 1 ≤ d) {D : bf_D} {P : bf_Pn} (hv : vP P) (hc : cP D P) {u k : Nat} (hu : u < 2 ^ 31) (hk : k < pN P) : bf_Cf d mX2_digitOf [.ref 2, .int (nI u), .int (nI k)] D (some (.int (nI (pG P u k)))) D := by
  refine bf_Cf_of 0 hd mo_X2_digitOf (Nat.le_of_ble_eq_true rfl) (fun e he J r => ?_)
  show J 0 [some (.ref 2), some (.int (nI u)), some (.int (nI k)), none, none] [] (bf_MD D)
  have hn4 := hv.1
  have hx4 := pX_le hv
  have hx0 := pX_pos P
  refine bf_iload_n r.1 dX2_digitOf_0 rfl ?_
  refine bf_istore_n r.1 (L2 := [some (.ref 2), some (.int (nI u)), some (.int (nI k)), some (.int (nI u)), none]) dX2_digitOf_1 rfl ?_
  refine bf_aload_n r.1 dX2_digitOf_2 rfl ?_
  refine ig_int r (v := nI (pN P)) dX2_digitOf_3 fl_X2_32 rfl (by decide) rfl (cP_n (P := P) hc) ?_
  refine bf_iconst r.1 (v := nI 1) dX2_digitOf_6 rfl ?_
  refine na_sub r dX2_digitOf_7 (by omega) ?_
  refine bf_istore r.1 (L2 := [some (.ref 2), some (.int (nI u)), some (.int (nI k)), some (.int (nI u)), some (.int (nI (pN P - 1)))]) dX2_digitOf_8 rfl ?_
  have loop : ∀ j : Nat, j ≤ (pN P - 1 - k) → J 10 [some (.ref 2), some (.int (nI u)), some (.int (nI k)), some (.int (nI (u / 10 ^ j))), some (.int (nI (pN P - 1 - j)))] [] (bf_MD D) := by
    refine bf_down (fun j hle ih => ?_)
    have hq : u / 10 ^ j < 2 ^ 31 := Nat.lt_of_le_of_lt (Nat.div_le_self _ _) hu
    refine bf_iload r.1 dX2_digitOf_10 rfl ?_
    refine bf_iload_n r.1 dX2_digitOf_12 rfl ?_
    refine nc_le r (tgt := 27) dX2_digitOf_13 (by decide) (by omega) (by omega) (fun c15 => ?_) (fun c15 => ?_)
    · refine bf_iload_n r.1 dX2_digitOf_27 rfl ?_
      refine bf_bipush r.1 (v := nI 10) dX2_digitOf_28 rfl ?_
      refine na_rem r dX2_digitOf_30 hq (by decide) (by decide) ?_
      have ej : j = pN P - 1 - k := by omega
      subst ej
      exact rt_i r dX2_digitOf_31 rfl rfl rfl rfl
    · refine bf_iload_n r.1 dX2_digitOf_16 rfl ?_
      refine bf_bipush r.1 (v := nI 10) dX2_digitOf_17 rfl ?_
      refine na_div r dX2_digitOf_19 hq (by decide) (by decide) ?_
      refine bf_istore_n r.1 (L2 := [some (.ref 2), some (.int (nI u)), some (.int (nI k)), some (.int (nI ((u / 10 ^ j) / 10))), some (.int (nI (pN P - 1 - j)))]) dX2_digitOf_20 rfl ?_
      refine na_inc r (v := pN P - 1 - (j + 1)) (L2 := [some (.ref 2), some (.int (nI u)), some (.int (nI k)), some (.int (nI ((u / 10 ^ j) / 10))), some (.int (nI (pN P - 1 - (j + 1))))]) dX2_digitOf_21 rfl (bf_dec (by omega)) rfl ?_
      refine bf_goto r.1 (tgt := 10) dX2_digitOf_24 (by decide) ?_
      have hi := ih (by omega)
      rw [show u / 10 ^ (j + 1) = u / 10 ^ j / 10 from by rw [Nat.pow_succ, Nat.div_div_eq_div_mul]] at hi
      exact hi
  have h0 := loop 0 (by omega) 
  rw [Nat.pow_zero, Nat.div_one] at h0
  exact h0
