/-! sheets: size (none: nothing), lane, cells -/
abbrev bf_Sh : Type := (Nat → Option Nat) × (Nat → Nat) × (Nat → Nat → Int32)
def sZ (S : bf_Sh) (k : Nat) : Option Nat := S.1 k
def sL (S : bf_Sh) (k : Nat) : Nat := S.2.1 k
def sC (S : bf_Sh) (k i : Nat) : Int32 := S.2.2 k i
def bf_sz : Option Nat → Int32
  | some n => nI n
  | none => -1
def vS (S : bf_Sh) : Prop := ∀ k, k < 4 → sL S k < 3 ∧ ∀ n, sZ S k = some n → n ≤ 60
def cS (D : bf_D) (S : bf_Sh) : Prop := ∀ k, k < 4 → D (29 + 2 * k) 1 = bf_sz (sZ S k) ∧ D (29 + 2 * k) 2 = nI (sL S k) ∧ ∀ n, sZ S k = some n → ∀ i, i < n → D (30 + 2 * k) i = sC S k i
def mS (D : bf_D) (S : bf_Sh) : Prop := ∀ k, k < 4 → D 53 k = bf_sz (sZ S k) ∧ D 54 k = nI (sL S k) ∧ ∀ n, sZ S k = some n → ∀ i, i < n → D 55 (60 * k + i) = sC S k i
theorem cS_z {D : bf_D} {S : bf_Sh} {k : Nat} (h : cS D S) (hk : k < 4) : D (29 + 2 * k) 1 = bf_sz (sZ S k) := (h k hk).1
theorem cS_n {D : bf_D} {S : bf_Sh} {k n : Nat} (h : cS D S) (hk : k < 4) (hz : sZ S k = some n) : D (29 + 2 * k) 1 = nI n := by rw [(h k hk).1, hz]; rfl
theorem cS_l {D : bf_D} {S : bf_Sh} {k : Nat} (h : cS D S) (hk : k < 4) : D (29 + 2 * k) 2 = nI (sL S k) := (h k hk).2.1
theorem cS_c {D : bf_D} {S : bf_Sh} {k n i : Nat} (h : cS D S) (hk : k < 4) (hz : sZ S k = some n) (hi : i < n) : D (30 + 2 * k) i = sC S k i := (h k hk).2.2 n hz i hi
theorem bf_nm1 {n : Nat} (h : n < 2 ^ 31) : ¬ nI n = -1 := by
  intro e
  have h1 := nI_toInt h
  rw [e] at h1
  have : (-1 : Int32).toInt = -1 := by decide
  omega
theorem bf_sz_m1 {z : Option Nat} (h : ∀ n, z = some n → n ≤ 60) : bf_sz z = -1 ↔ z = none := by
  cases z with
  | none => simp [bf_sz]
  | some n =>
    have := h n rfl
    simp only [bf_sz]
    constructor
    · intro e; exact absurd e (bf_nm1 (by omega))
    · intro e; cases e
/-- may n cells from i on be taken of so many -/
def bf_hc (i m : Int32) (n : Nat) : Prop := 0 ≤ i.toInt ∧ 0 ≤ m.toInt ∧ i.toInt + m.toInt ≤ n
theorem c_X5_isNothing {d : Nat} (hd : 1 ≤ d) {D : bf_D} {S : bf_Sh} (vs : vS S) (cs : cS D S) {k : Nat} (hk : k < 4) : bf_Cf d mX5_isNothing [.ref (29 + 2 * k)] D (some (.int (if sZ S k = none then 1 else 0))) D := by
  refine bf_Cf_of 0 hd mo_X5_isNothing (Nat.le_of_ble_eq_true rfl) (fun e he J r => ?_)
  show J 0 [some (.ref (29 + 2 * k))] [] (bf_MD D)
  have h60 := (vs k hk).2
  refine bf_aload_n r.1 dX5_isNothing_0 rfl ?_
  refine ig_int r (v := bf_sz (sZ S k)) dX5_isNothing_1 fl_X5_15 (ad_c29 hk) (ad_l29 hk) (ad_i29 hk 1 (by decide)) (cS_z cs hk) ?_
  refine bf_iconst r.1 (v := -1) dX5_isNothing_4 rfl ?_
  refine bf_icmp_ne r.1 (tgt := 12) dX5_isNothing_5 (by decide) (fun c70 => ?_) (fun c70 => ?_)
  · refine bf_iconst r.1 (v := nI 0) dX5_isNothing_12 rfl ?_
    exact rt_i r dX5_isNothing_13 rfl (by decide) (if_neg (fun e => c70 ((bf_sz_m1 h60).mpr e))).symm rfl
  · refine bf_iconst r.1 (v := nI 1) dX5_isNothing_8 rfl ?_
    refine bf_goto r.1 (tgt := 13) dX5_isNothing_9 (by decide) ?_
    exact rt_i r dX5_isNothing_13 rfl (by decide) (if_pos ((bf_sz_m1 h60).mp c70)).symm rfl
theorem bf_subI {m i : Int32} {n : Nat} (hn : n ≤ 60) (h0 : 0 ≤ i) (h1 : i ≤ nI n) : (m ≤ nI n - i) ↔ i.toInt + m.toInt ≤ n := by
  obtain ⟨j, hj, rfl⟩ := nI_of (x := i) (Int32.not_lt.mpr h0)
  have hjn := (nI_leI hj (show n < 2 ^ 31 by omega)).mp h1
  rw [pk_sub hjn, Int32.le_iff_toInt_le, nI_toInt (by omega), nI_toInt hj]
  omega
theorem bf_le0 (i : Int32) : 0 ≤ i ↔ 0 ≤ i.toInt := by rw [Int32.le_iff_toInt_le]; rfl
theorem bf_lt0 (i : Int32) : i < 0 ↔ i.toInt < 0 := by rw [Int32.lt_iff_toInt_lt]; rfl
theorem bf_leN {i : Int32} {n : Nat} (hn : n < 2 ^ 31) : i ≤ nI n ↔ i.toInt ≤ n := by rw [Int32.le_iff_toInt_le, nI_toInt hn]
theorem bf_ltN {i : Int32} {n : Nat} (hn : n < 2 ^ 31) : i < nI n ↔ i.toInt < n := by rw [Int32.lt_iff_toInt_lt, nI_toInt hn]
theorem bf_Nlt {i : Int32} {n : Nat} (hn : n < 2 ^ 31) : nI n < i ↔ n < i.toInt := by rw [Int32.lt_iff_toInt_lt, nI_toInt hn]
theorem bf_Nle {i : Int32} {n : Nat} (hn : n < 2 ^ 31) : nI n ≤ i ↔ n ≤ i.toInt := by rw [Int32.le_iff_toInt_le, nI_toInt hn]
theorem c_X5_hasCells {d : Nat} (hd : 1 ≤ d) {D : bf_D} {S : bf_Sh} (vs : vS S) (cs : cS D S) {k : Nat} (hk : k < 4) {n : Nat} (hz : sZ S k = some n) (i m : Int32) : bf_Cf d mX5_hasCells [.ref (29 + 2 * k), .int (i), .int (m)] D (some (.int (if (0 ≤ i.toInt ∧ 0 ≤ m.toInt ∧ i.toInt + m.toInt ≤ n) then 1 else 0))) D := by
  refine bf_Cf_of 0 hd mo_X5_hasCells (Nat.le_of_ble_eq_true rfl) (fun e he J r => ?_)
  show J 0 [some (.ref (29 + 2 * k)), some (.int (i)), some (.int (m))] [] (bf_MD D)
  have h60 := (vs k hk).2 n hz
  refine bf_iconst r.1 (v := nI 0) dX5_hasCells_0 rfl ?_
  refine bf_iload_n r.1 dX5_hasCells_1 rfl ?_
  refine bf_icmp_gt r.1 (tgt := 32) dX5_hasCells_2 (by decide) (fun c71 => ?_) (fun c71 => ?_)
  · refine bf_iconst r.1 (v := nI 0) dX5_hasCells_32 rfl ?_
    exact rt_i r dX5_hasCells_33 rfl (by decide) (if_neg (fun h => by have h9 := (bf_lt0 i).mp c71; omega)).symm rfl
  · refine bf_iconst r.1 (v := nI 0) dX5_hasCells_5 rfl ?_
    refine bf_iload_n r.1 dX5_hasCells_6 rfl ?_
    refine bf_icmp_gt r.1 (tgt := 32) dX5_hasCells_7 (by decide) (fun c72 => ?_) (fun c72 => ?_)
    · refine bf_iconst r.1 (v := nI 0) dX5_hasCells_32 rfl ?_
      exact rt_i r dX5_hasCells_33 rfl (by decide) (if_neg (fun h => by have h9 := (bf_lt0 m).mp c72; omega)).symm rfl
    · refine bf_iload_n r.1 dX5_hasCells_10 rfl ?_
      refine bf_aload_n r.1 dX5_hasCells_11 rfl ?_
      refine ig_int r (v := nI n) dX5_hasCells_12 fl_X5_15 (ad_c29 hk) (ad_l29 hk) (ad_i29 hk 1 (by decide)) (cS_n cs hk hz) ?_
      refine bf_icmp_gt r.1 (tgt := 32) dX5_hasCells_15 (by decide) (fun c73 => ?_) (fun c73 => ?_)
      · refine bf_iconst r.1 (v := nI 0) dX5_hasCells_32 rfl ?_
        exact rt_i r dX5_hasCells_33 rfl (by decide) (if_neg (fun h => by have h9 := (bf_Nlt (show n < 2 ^ 31 by omega)).mp c73; omega)).symm rfl
      · refine bf_iload_n r.1 dX5_hasCells_18 rfl ?_
        refine bf_aload_n r.1 dX5_hasCells_19 rfl ?_
        refine ig_int r (v := nI n) dX5_hasCells_20 fl_X5_15 (ad_c29 hk) (ad_l29 hk) (ad_i29 hk 1 (by decide)) (cS_n cs hk hz) ?_
        refine bf_iload_n r.1 dX5_hasCells_23 rfl ?_
        refine bf_isub r.1 dX5_hasCells_24 ?_
        refine bf_icmp_gt r.1 (tgt := 32) dX5_hasCells_25 (by decide) (fun c74 => ?_) (fun c74 => ?_)
        · refine bf_iconst r.1 (v := nI 0) dX5_hasCells_32 rfl ?_
          exact rt_i r dX5_hasCells_33 rfl (by decide) (if_neg (fun h => absurd ((bf_subI h60 (Int32.not_lt.mp c71) (Int32.not_lt.mp c73)).mpr h.2.2) (Int32.not_le.mpr c74))).symm rfl
        · refine bf_iconst r.1 (v := nI 1) dX5_hasCells_28 rfl ?_
          refine bf_goto r.1 (tgt := 33) dX5_hasCells_29 (by decide) ?_
          exact rt_i r dX5_hasCells_33 rfl (by decide) (if_pos ⟨(bf_le0 i).mp (Int32.not_lt.mp c71), (bf_le0 m).mp (Int32.not_lt.mp c72), (bf_subI h60 (Int32.not_lt.mp c71) (Int32.not_lt.mp c73)).mp (Int32.not_lt.mp c74)⟩).symm rfl
/-- what taking cells fails with; 0: with nothing -/
def bf_foc (z : Option Nat) (ln : Nat) (al i m : Int32) : Nat := match z with
  | none => 1
  | some n => if nI ln = al then (if m.toInt < 0 then 4 else if 0 ≤ i.toInt ∧ 0 ≤ m.toInt ∧ i.toInt + m.toInt ≤ n then 0 else 3) else 2
theorem bf_foc_le (z : Option Nat) (ln : Nat) (al i m : Int32) : bf_foc z ln al i m ≤ 4 := by
  unfold bf_foc
  split
  · decide
  · split
    · split
      · decide
      · split <;> decide
    · decide
theorem bf_foc_0 {z : Option Nat} {ln : Nat} {al i m : Int32} (h : bf_foc z ln al i m = 0) : ∃ n, z = some n ∧ nI ln = al ∧ 0 ≤ i.toInt ∧ 0 ≤ m.toInt ∧ i.toInt + m.toInt ≤ n := by
  cases z with
  | none => simp [bf_foc] at h
  | some n =>
    refine ⟨n, rfl, ?_⟩
    simp only [bf_foc] at h
    split at h
    · rename_i h1
      refine ⟨h1, ?_⟩
      split at h
      · omega
      · split at h
        · assumption
        · omega
    · omega
theorem c_X5_faultOfCells {d : Nat} (hd : 2 ≤ d) {D : bf_D} {S : bf_Sh} (vs : vS S) (cs : cS D S) {k : Nat} (hk : k < 4) (al i m : Int32) : bf_Cf d mX5_faultOfCells [.ref (29 + 2 * k), .int (al), .int (i), .int (m)] D (some (.int (nI (bf_foc (sZ S k) (sL S k) al i m)))) D := by
  refine bf_Cf_of 1 hd mo_X5_faultOfCells (Nat.le_of_ble_eq_true rfl) (fun e he J r => ?_)
  show J 0 [some (.ref (29 + 2 * k)), some (.int (al)), some (.int (i)), some (.int (m))] [] (bf_MD D)
  have h60 := (vs k hk).2
  refine bf_aload_n r.1 dX5_faultOfCells_0 rfl ?_
  refine cl_v r (y2 := mX5_isNothing) dX5_faultOfCells_1 li_X5_22 mv_X5_isNothing (ad_c29 hk) (ad_l29 hk) [] [] rfl (Nat.le_of_ble_eq_true rfl) rfl (c_X5_isNothing (by omega) vs cs hk) ?_
  show J 4 [some (.ref (29 + 2 * k)), some (.int (al)), some (.int (i)), some (.int (m))] [.int (if sZ S k = none then 1 else 0)] (bf_MD D)
  refine nb_eq r (tgt := 9) dX5_faultOfCells_4 (by decide) (fun c75 => ?_) (fun c75 => ?_)
  · obtain ⟨n, hz⟩ : ∃ n, sZ S k = some n := Option.ne_none_iff_exists'.mp c75
    have hn60 := h60 n hz
    refine bf_aload_n r.1 dX5_faultOfCells_9 rfl ?_
    refine ig_int r (v := nI (sL S k)) dX5_faultOfCells_10 fl_X5_19 (ad_c29 hk) (ad_l29 hk) (ad_i29 hk 2 (by decide)) (cS_l cs hk) ?_
    refine bf_iload_n r.1 dX5_faultOfCells_13 rfl ?_
    refine bf_icmp_eq r.1 (tgt := 19) dX5_faultOfCells_14 (by decide) (fun c76 => ?_) (fun c76 => ?_)
    · refine bf_iload_n r.1 dX5_faultOfCells_19 rfl ?_
      refine bf_if_ge r.1 (tgt := 25) dX5_faultOfCells_20 (by decide) (fun c77 => ?_) (fun c77 => ?_)
      · refine bf_aload_n r.1 dX5_faultOfCells_25 rfl ?_
        refine bf_iload_n r.1 dX5_faultOfCells_26 rfl ?_
        refine bf_iload_n r.1 dX5_faultOfCells_27 rfl ?_
        refine cl_v r (y2 := mX5_hasCells) dX5_faultOfCells_28 li_X5_26 mv_X5_hasCells (ad_c29 hk) (ad_l29 hk) [.int (i), .int (m)] [] rfl (Nat.le_of_ble_eq_true rfl) rfl (c_X5_hasCells (by omega) vs cs hk hz i m) ?_
        show J 31 [some (.ref (29 + 2 * k)), some (.int (al)), some (.int (i)), some (.int (m))] [.int (if (0 ≤ (i).toInt ∧ 0 ≤ (m).toInt ∧ (i).toInt + (m).toInt ≤ n) then 1 else 0)] (bf_MD D)
        refine nb_eq r (tgt := 38) dX5_faultOfCells_31 (by decide) (fun c78 => ?_) (fun c78 => ?_)
        · refine bf_iconst r.1 (v := nI 3) dX5_faultOfCells_38 rfl ?_
          exact rt_i r dX5_faultOfCells_39 rfl rfl (by rw [hz]; simp only [bf_foc]; rw [if_pos c76, if_neg (by have h9 := (bf_le0 m).mp c77; omega), if_neg c78]) rfl
        · refine bf_iconst r.1 (v := nI 0) dX5_faultOfCells_34 rfl ?_
          refine bf_goto r.1 (tgt := 39) dX5_faultOfCells_35 (by decide) ?_
          exact rt_i r dX5_faultOfCells_39 rfl rfl (by rw [hz]; simp only [bf_foc]; rw [if_pos c76, if_neg (by have h9 := (bf_le0 m).mp c77; omega), if_pos c78]) rfl
      · refine bf_iconst r.1 (v := nI 4) dX5_faultOfCells_23 rfl ?_
        exact rt_i r dX5_faultOfCells_24 rfl rfl (by rw [hz]; simp only [bf_foc]; rw [if_pos c76, if_pos (by have h9 := mt (bf_le0 m).mpr c77; omega)]) rfl
    · refine bf_iconst r.1 (v := nI 2) dX5_faultOfCells_17 rfl ?_
      exact rt_i r dX5_faultOfCells_18 rfl rfl (by rw [hz]; simp only [bf_foc]; rw [if_neg c76]) rfl
  · refine bf_iconst r.1 (v := nI 1) dX5_faultOfCells_7 rfl ?_
    exact rt_i r dX5_faultOfCells_8 rfl rfl (by rw [c75]; rfl) rfl
theorem c_X5_read {d : Nat} (hd : 2 ≤ d) {D : bf_D} {S : bf_Sh} (vs : vS S) (cs : cS D S) {k : Nat} (hk : k < 4) {n i : Nat} (hz : sZ S k = some n) (hi : i < n) : bf_Cf d mX5_read [.ref (29 + 2 * k), .int (nI i)] D (some (.int (sC S k i))) D := by
  refine bf_Cf_of 1 hd mo_X5_read (Nat.le_of_ble_eq_true rfl) (fun e he J r => ?_)
  show J 0 [some (.ref (29 + 2 * k)), some (.int (nI i))] [] (bf_MD D)
  have h60 := (vs k hk).2 n hz
  refine bf_iload_n r.1 dX5_read_0 rfl ?_
  refine bf_aload_n r.1 dX5_read_1 rfl ?_
  refine ig_int r (v := nI n) dX5_read_2 fl_X5_15 (ad_c29 hk) (ad_l29 hk) (ad_i29 hk 1 (by decide)) (cS_n cs hk hz) ?_
  refine cl_s r (y2 := mX8_isWithin) dX5_read_5 li_X5_30 mv_X8_isWithin [.int (nI i), .int (nI n)] [] rfl (Nat.le_of_ble_eq_true rfl) rfl (c_X8_isWithinN (by omega) D (by omega) (by omega)) ?_
  show J 8 [some (.ref (29 + 2 * k)), some (.int (nI i))] [.int (if i < n then 1 else 0)] (bf_MD D)
  refine nb_eq r (tgt := 20) dX5_read_8 (by decide) (fun c79 => ?_) (fun c79 => ?_)
  · exact absurd hi c79
  · refine bf_aload_n r.1 dX5_read_11 rfl ?_
    refine ig_ref r (b := (30 + 2 * k)) dX5_read_12 fl_X5_9 (ad_c29 hk) (ad_l29 hk) (ad_r29_0 hk) ?_
    refine bf_iload_n r.1 dX5_read_15 rfl ?_
    refine ia_ld r (n := 60) (v := sC S k i) dX5_read_16 (ad_k30 hk) (ad_l30 hk) (by omega) (cS_c cs hk hz hi) ?_
    refine bf_goto r.1 (tgt := 21) dX5_read_17 (by decide) ?_
    exact rt_i r dX5_read_21 rfl rfl rfl rfl
def bf_cut (ln : Nat) (v : Int32) : Int32 := if ln = 0 then v.toInt8.toInt32 else if ln = 1 then v.toInt16.toInt32 else v
theorem c_X5_write {d : Nat} (hd : 2 ≤ d) {D : bf_D} {S : bf_Sh} (vs : vS S) (cs : cS D S) {k : Nat} (hk : k < 4) {n i : Nat} (hz : sZ S k = some n) (hi : i < n) (v : Int32) : bf_Cf d mX5_write [.ref (29 + 2 * k), .int (nI i), .int (v)] D none (bf_u D (30 + 2 * k) i (bf_cut (sL S k) v)) := by
  refine bf_Cf_of 1 hd mo_X5_write (Nat.le_of_ble_eq_true rfl) (fun e he J r => ?_)
  show J 0 [some (.ref (29 + 2 * k)), some (.int (nI i)), some (.int (v))] [] (bf_MD D)
  have h60 := (vs k hk).2 n hz
  have hl3 := (vs k hk).1
  refine bf_iload_n r.1 dX5_write_0 rfl ?_
  refine bf_aload_n r.1 dX5_write_1 rfl ?_
  refine ig_int r (v := nI n) dX5_write_2 fl_X5_15 (ad_c29 hk) (ad_l29 hk) (ad_i29 hk 1 (by decide)) (cS_n cs hk hz) ?_
  refine cl_s r (y2 := mX8_isWithin) dX5_write_5 li_X5_30 mv_X8_isWithin [.int (nI i), .int (nI n)] [] rfl (Nat.le_of_ble_eq_true rfl) rfl (c_X8_isWithinN (by omega) D (by omega) (by omega)) ?_
  show J 8 [some (.ref (29 + 2 * k)), some (.int (nI i)), some (.int (v))] [.int (if i < n then 1 else 0)] (bf_MD D)
  refine nb_eq r (tgt := 43) dX5_write_8 (by decide) (fun c80 => ?_) (fun c80 => ?_)
  · exact absurd hi c80
  · refine bf_aload_n r.1 dX5_write_11 rfl ?_
    refine ig_ref r (b := (30 + 2 * k)) dX5_write_12 fl_X5_9 (ad_c29 hk) (ad_l29 hk) (ad_r29_0 hk) ?_
    refine bf_iload_n r.1 dX5_write_15 rfl ?_
    refine bf_aload_n r.1 dX5_write_16 rfl ?_
    refine ig_int r (v := nI (sL S k)) dX5_write_17 fl_X5_19 (ad_c29 hk) (ad_l29 hk) (ad_i29 hk 2 (by decide)) (cS_l cs hk) ?_
    refine nz_ne r (tgt := 28) dX5_write_20 (by decide) (by omega) (fun c81 => ?_) (fun c81 => ?_)
    · refine bf_aload_n r.1 dX5_write_28 rfl ?_
      refine ig_int r (v := nI (sL S k)) dX5_write_29 fl_X5_19 (ad_c29 hk) (ad_l29 hk) (ad_i29 hk 2 (by decide)) (cS_l cs hk) ?_
      refine bf_iconst r.1 (v := nI 1) dX5_write_32 rfl ?_
      refine nc_ne r (tgt := 41) dX5_write_33 (by decide) (by omega) (by decide) (fun c82 => ?_) (fun c82 => ?_)
      · refine bf_iload_n r.1 dX5_write_41 rfl ?_
        refine ia_st r (n := 60) dX5_write_42 (ad_k30 hk) (ad_l30 hk) (by omega) ?_
        exact rt_v r dX5_write_43 rfl (by unfold bf_cut; rw [if_neg c81, if_neg c82])
      · refine bf_iload_n r.1 dX5_write_36 rfl ?_
        refine bf_i2s r.1 dX5_write_37 ?_
        refine bf_goto r.1 (tgt := 42) dX5_write_38 (by decide) ?_
        refine ia_st r (n := 60) dX5_write_42 (ad_k30 hk) (ad_l30 hk) (by omega) ?_
        exact rt_v r dX5_write_43 rfl (by unfold bf_cut; rw [if_neg c81, if_pos c82])
    · refine bf_iload_n r.1 dX5_write_23 rfl ?_
      refine bf_i2b r.1 dX5_write_24 ?_
      refine bf_goto r.1 (tgt := 42) dX5_write_25 (by decide) ?_
      refine ia_st r (n := 60) dX5_write_42 (ad_k30 hk) (ad_l30 hk) (by omega) ?_
      exact rt_v r dX5_write_43 rfl (by unfold bf_cut; rw [if_pos c81])
def bf_sD (D : bf_D) (k ln n : Nat) : bf_D := bf_fd (bf_u (bf_u D (29 + 2 * k) 2 (nI ln)) (29 + 2 * k) 1 (nI n)) (30 + 2 * k) (fun _ => nI 0) 60
theorem c_X5_renew {d : Nat} (hd : 1 ≤ d) (D : bf_D) {k : Nat} (hk : k < 4) (ln n : Nat) : bf_Cf d mX5_renew [.ref (29 + 2 * k), .int (nI ln), .int (nI n)] D none (bf_sD D k ln n) := by
  refine bf_Cf_of 0 hd mo_X5_renew (Nat.le_of_ble_eq_true rfl) (fun e he J r => ?_)
  show J 0 [some (.ref (29 + 2 * k)), some (.int (nI ln)), some (.int (nI n)), none] [] (bf_MD D)
  refine bf_aload_n r.1 dX5_renew_0 rfl ?_
  refine bf_iload_n r.1 dX5_renew_1 rfl ?_
  refine ip_int r dX5_renew_2 fp_X5_19 (ad_c29 hk) (ad_l29 hk) (ad_i29 hk 2 (by decide)) ?_
  refine bf_aload_n r.1 dX5_renew_5 rfl ?_
  refine bf_iload_n r.1 dX5_renew_6 rfl ?_
  refine ip_int r dX5_renew_7 fp_X5_15 (ad_c29 hk) (ad_l29 hk) (ad_i29 hk 1 (by decide)) ?_
  refine bf_iconst r.1 (v := nI 0) dX5_renew_10 rfl ?_
  refine bf_istore_n r.1 (L2 := [some (.ref (29 + 2 * k)), some (.int (nI ln)), some (.int (nI n)), some (.int (nI 0))]) dX5_renew_11 rfl ?_
  have loop : ∀ j : Nat, j ≤ 60 → J 12 [some (.ref (29 + 2 * k)), some (.int (nI ln)), some (.int (nI n)), some (.int (nI j))] [] (bf_MD (bf_fd (bf_u (bf_u D (29 + 2 * k) 2 (nI ln)) (29 + 2 * k) 1 (nI n)) (30 + 2 * k) (fun _ => nI 0) j)) := by
    refine bf_down (fun j hle ih => ?_)
    refine bf_iload_n r.1 dX5_renew_12 rfl ?_
    refine bf_bipush r.1 (v := nI 60) dX5_renew_13 rfl ?_
    refine nc_ge r (tgt := 31) dX5_renew_15 (by decide) (by omega) (by decide) (fun c83 => ?_) (fun c83 => ?_)
    · have ej : j = 60 := by omega
      subst ej
      exact rt_v r dX5_renew_31 rfl rfl
    · refine bf_aload_n r.1 dX5_renew_18 rfl ?_
      refine ig_ref r (b := (30 + 2 * k)) dX5_renew_19 fl_X5_9 (ad_c29 hk) (ad_l29 hk) (ad_r29_0 hk) ?_
      refine bf_iload_n r.1 dX5_renew_22 rfl ?_
      refine bf_iconst r.1 (v := nI 0) dX5_renew_23 rfl ?_
      refine ia_st r (n := 60) dX5_renew_24 (ad_k30 hk) (ad_l30 hk) (by omega) ?_
      refine na_inc r (v := j + 1) (L2 := [some (.ref (29 + 2 * k)), some (.int (nI ln)), some (.int (nI n)), some (.int (nI (j + 1)))]) dX5_renew_25 rfl (nI_add _ 1) rfl ?_
      refine bf_goto r.1 (tgt := 12) dX5_renew_28 (by decide) ?_
      exact ih c83
  exact loop 0 (by omega) 
theorem c_X5_dropRow {d : Nat} (hd : 2 ≤ d) {D : bf_D} {S : bf_Sh} (vs : vS S) (cs : cS D S) {k : Nat} (hk : k < 4) : bf_Cf d mX5_dropRow [.ref (29 + 2 * k)] D (some (.int (if sZ S k = none then 0 else 1))) (bf_u D (29 + 2 * k) 1 (-1)) := by
  refine bf_Cf_of 1 hd mo_X5_dropRow (Nat.le_of_ble_eq_true rfl) (fun e he J r => ?_)
  show J 0 [some (.ref (29 + 2 * k)), none] [] (bf_MD D)
  refine bf_aload_n r.1 dX5_dropRow_0 rfl ?_
  refine cl_v r (y2 := mX5_isNothing) dX5_dropRow_1 li_X5_22 mv_X5_isNothing (ad_c29 hk) (ad_l29 hk) [] [] rfl (Nat.le_of_ble_eq_true rfl) rfl (c_X5_isNothing (by omega) vs cs hk) ?_
  show J 4 [some (.ref (29 + 2 * k)), none] [.int (if sZ S k = none then 1 else 0)] (bf_MD D)
  refine nb_ne r (tgt := 11) dX5_dropRow_4 (by decide) (fun c84 => ?_) (fun c84 => ?_)
  · refine bf_iconst r.1 (v := nI 0) dX5_dropRow_11 rfl ?_
    refine bf_istore_n r.1 (L2 := [some (.ref (29 + 2 * k)), some (.int (nI 0))]) dX5_dropRow_12 rfl ?_
    refine bf_aload_n r.1 dX5_dropRow_13 rfl ?_
    refine bf_iconst r.1 (v := -1) dX5_dropRow_14 rfl ?_
    refine ip_int r dX5_dropRow_15 fp_X5_15 (ad_c29 hk) (ad_l29 hk) (ad_i29 hk 1 (by decide)) ?_
    refine bf_iload_n r.1 dX5_dropRow_18 rfl ?_
    exact rt_i r dX5_dropRow_19 rfl (by decide) (if_pos c84).symm rfl
  · refine bf_iconst r.1 (v := nI 1) dX5_dropRow_7 rfl ?_
    refine bf_goto r.1 (tgt := 12) dX5_dropRow_8 (by decide) ?_
    refine bf_istore_n r.1 (L2 := [some (.ref (29 + 2 * k)), some (.int (nI 1))]) dX5_dropRow_12 rfl ?_
    refine bf_aload_n r.1 dX5_dropRow_13 rfl ?_
    refine bf_iconst r.1 (v := -1) dX5_dropRow_14 rfl ?_
    refine ip_int r dX5_dropRow_15 fp_X5_15 (ad_c29 hk) (ad_l29 hk) (ad_i29 hk 1 (by decide)) ?_
    refine bf_iload_n r.1 dX5_dropRow_18 rfl ?_
    exact rt_i r dX5_dropRow_19 rfl (by decide) (if_neg c84).symm rfl
theorem c_X5_takeCells {d : Nat} (hd : 2 ≤ d) {D : bf_D} {S : bf_Sh} (vs : vS S) (cs : cS D S) {k o : Nat} (hk : k < 4) (ho : o < 4) {n n2 i j m : Nat} (hz : sZ S k = some n) (hz2 : sZ S o = some n2) (h1 : i + m ≤ n) (h2 : j + m ≤ n2) : bf_Cf d mX5_takeCells [.ref (29 + 2 * o), .ref (29 + 2 * k), .int (nI i), .int (nI j), .int (nI m)] D none (bf_cpD D (30 + 2 * k) (30 + 2 * o) i j m) := by
  refine bf_Cf_of 1 hd mo_X5_takeCells (Nat.le_of_ble_eq_true rfl) (fun e he J r => ?_)
  show J 0 [some (.ref (29 + 2 * o)), some (.ref (29 + 2 * k)), some (.int (nI i)), some (.int (nI j)), some (.int (nI m))] [] (bf_MD D)
  have h60 := (vs k hk).2 n hz
  have h62 := (vs o ho).2 n2 hz2
  refine bf_aload_n r.1 dX5_takeCells_0 rfl ?_
  refine bf_iload_n r.1 dX5_takeCells_1 rfl ?_
  refine bf_iload r.1 dX5_takeCells_2 rfl ?_
  refine cl_v r (y2 := mX5_hasCells) dX5_takeCells_4 li_X5_26 mv_X5_hasCells (ad_c29 hk) (ad_l29 hk) [.int (nI i), .int (nI m)] [] rfl (Nat.le_of_ble_eq_true rfl) rfl (c_X5_hasCells (by omega) vs cs hk hz (nI i) (nI m)) ?_
  show J 7 [some (.ref (29 + 2 * o)), some (.ref (29 + 2 * k)), some (.int (nI i)), some (.int (nI j)), some (.int (nI m))] [.int (if (0 ≤ (nI i).toInt ∧ 0 ≤ (nI m).toInt ∧ (nI i).toInt + (nI m).toInt ≤ n) then 1 else 0)] (bf_MD D)
  refine nb_eq r (tgt := 35) dX5_takeCells_7 (by decide) (fun c85 => ?_) (fun c85 => ?_)
  · exact absurd (by rw [nI_toInt (show i < 2 ^ 31 by omega), nI_toInt (show m < 2 ^ 31 by omega)]; omega) c85
  · refine bf_aload_n r.1 dX5_takeCells_10 rfl ?_
    refine bf_iload_n r.1 dX5_takeCells_11 rfl ?_
    refine bf_iload r.1 dX5_takeCells_12 rfl ?_
    refine cl_v r (y2 := mX5_hasCells) dX5_takeCells_14 li_X5_26 mv_X5_hasCells (ad_c29 ho) (ad_l29 ho) [.int (nI j), .int (nI m)] [] rfl (Nat.le_of_ble_eq_true rfl) rfl (c_X5_hasCells (by omega) vs cs ho hz2 (nI j) (nI m)) ?_
    show J 17 [some (.ref (29 + 2 * o)), some (.ref (29 + 2 * k)), some (.int (nI i)), some (.int (nI j)), some (.int (nI m))] [.int (if (0 ≤ (nI j).toInt ∧ 0 ≤ (nI m).toInt ∧ (nI j).toInt + (nI m).toInt ≤ n2) then 1 else 0)] (bf_MD D)
    refine nb_eq r (tgt := 35) dX5_takeCells_17 (by decide) (fun c86 => ?_) (fun c86 => ?_)
    · exact absurd (by rw [nI_toInt (show j < 2 ^ 31 by omega), nI_toInt (show m < 2 ^ 31 by omega)]; omega) c86
    · refine bf_aload_n r.1 dX5_takeCells_20 rfl ?_
      refine ig_ref r (b := (30 + 2 * k)) dX5_takeCells_21 fl_X5_9 (ad_c29 hk) (ad_l29 hk) (ad_r29_0 hk) ?_
      refine bf_iload_n r.1 dX5_takeCells_24 rfl ?_
      refine bf_aload_n r.1 dX5_takeCells_25 rfl ?_
      refine ig_ref r (b := (30 + 2 * o)) dX5_takeCells_26 fl_X5_9 (ad_c29 ho) (ad_l29 ho) (ad_r29_0 ho) ?_
      refine bf_iload_n r.1 dX5_takeCells_29 rfl ?_
      refine bf_iload r.1 dX5_takeCells_30 rfl ?_
      refine cl_cpy r (n0 := 60) (n1 := 60) dX5_takeCells_32 lw_X5_33 (ad_k30 hk) (ad_k30 ho) (ad_l30 hk) (ad_l30 ho) (by omega) (by omega) (Nat.le_of_ble_eq_true rfl) ?_
      exact rt_v r dX5_takeCells_35 rfl rfl
