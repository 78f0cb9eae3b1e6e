/-! the reference: cells -/
theorem bf_neg64 (m : Int32) : m.toInt64 < lN 0 ↔ m.toInt < 0 := by
  rw [Int64.lt_iff_toInt_lt, bf_toL, lN_toInt (by decide)]; omega
theorem bf_sum64 (i m : Int32) : (i.toInt64 + m.toInt64).toInt = i.toInt + m.toInt := by
  have h1 := Int32.le_toInt i
  have h2 := Int32.toInt_lt i
  have h3 := Int32.le_toInt m
  have h4 := Int32.toInt_lt m
  rw [Int64.toInt_add, bf_toL, bf_toL, Int.bmod_eq_of_le (by omega) (by omega)]
theorem bf_lN32 {x : Nat} (h : x < 2 ^ 31) : (nI x).toInt64 = lN x := by
  apply Int64.toInt_inj.mp
  rw [bf_toL, nI_toInt h, lN_toInt h]
theorem c_X9_isBeyond {d : Nat} (hd : 1 ≤ d) (D : bf_D) (i m : Int32) {z : Nat} (hz : z ≤ 60) : bf_Cf d mX9_isBeyond [.int (i), .long (m.toInt64), .int (nI z)] D (some (.int (if ¬ (0 ≤ i.toInt ∧ 0 ≤ m.toInt ∧ i.toInt + m.toInt ≤ z) then 1 else 0))) D := by
  refine bf_Cf_of 0 hd mo_X9_isBeyond (Nat.le_of_ble_eq_true rfl) (fun e he J r => ?_)
  show J 0 [some (.int (i)), some (.long (m.toInt64)), none, some (.int (nI z))] [] (bf_MD D)
  refine bf_iload_n r.1 dX9_isBeyond_0 rfl ?_
  refine bf_if_lt r.1 (tgt := 20) dX9_isBeyond_1 (by decide) (fun c397 => ?_) (fun c397 => ?_)
  · refine bf_iconst r.1 (v := nI 1) dX9_isBeyond_20 rfl ?_
    refine bf_goto r.1 (tgt := 25) dX9_isBeyond_21 (by decide) ?_
    exact rt_i r dX9_isBeyond_25 rfl (by decide) (if_pos (fun q => by have h9 := (bf_lt0 i).mp c397; omega)).symm rfl
  · refine bf_lload_n r.1 dX9_isBeyond_4 rfl ?_
    refine bf_lconst r.1 (v := lN 0) dX9_isBeyond_5 rfl ?_
    refine bf_lcmp r.1 dX9_isBeyond_6 ?_
    refine bf_if_lt r.1 (tgt := 20) dX9_isBeyond_7 (by decide) (fun c398 => ?_) (fun c398 => ?_)
    · refine bf_iconst r.1 (v := nI 1) dX9_isBeyond_20 rfl ?_
      refine bf_goto r.1 (tgt := 25) dX9_isBeyond_21 (by decide) ?_
      exact rt_i r dX9_isBeyond_25 rfl (by decide) (if_pos (fun q => by have h9 := (bf_neg64 m).mp ((lg_cmp_lt _ _).mp c398); omega)).symm rfl
    · refine bf_iload_n r.1 dX9_isBeyond_10 rfl ?_
      refine bf_i2l r.1 dX9_isBeyond_11 ?_
      refine bf_lload_n r.1 dX9_isBeyond_12 rfl ?_
      refine bf_ladd r.1 dX9_isBeyond_13  ?_
      refine bf_iload_n r.1 dX9_isBeyond_14 rfl ?_
      refine na_i2l r dX9_isBeyond_15 (by omega) ?_
      refine bf_lcmp r.1 dX9_isBeyond_16 ?_
      refine bf_if_le r.1 (tgt := 24) dX9_isBeyond_17 (by decide) (fun c399 => ?_) (fun c399 => ?_)
      · refine bf_iconst r.1 (v := nI 0) dX9_isBeyond_24 rfl ?_
        exact rt_i r dX9_isBeyond_25 rfl (by decide) (if_neg (fun q => q ⟨(by have h9 : ¬ i.toInt < 0 := fun e => c397 ((bf_lt0 i).mpr e); omega), (by have h9 : ¬ m.toInt < 0 := fun e => c398 ((lg_cmp_lt _ _).mpr ((bf_neg64 m).mpr e)); omega), (by have h9 := (lg_cmp_le _ _).mp c399; rw [Int64.le_iff_toInt_le, bf_sum64, lN_toInt (by omega)] at h9; exact h9)⟩)).symm rfl
      · refine bf_iconst r.1 (v := nI 1) dX9_isBeyond_20 rfl ?_
        refine bf_goto r.1 (tgt := 25) dX9_isBeyond_21 (by decide) ?_
        exact rt_i r dX9_isBeyond_25 rfl (by decide) (if_pos (fun q => c399 ((lg_cmp_le _ _).mpr (by rw [Int64.le_iff_toInt_le, bf_sum64, lN_toInt (by omega)]; exact q.2.2)))).symm rfl
theorem c_X9_cellsBarred {d : Nat} (hd : 3 ≤ d) {D : bf_D} {S : bf_Sh} (vs : vS S) (ms : mS D S) {k : Nat} (hk : k < 4) (al i m : Int32) : bf_Cf d mX9_cellsBarred [.ref 37, .int (nI k), .int (al), .int (i), .long (m.toInt64)] D (some (.int (if bf_foc (sZ S k) (sL S k) al i m = 0 then nI 0 else -10 - nI (bf_foc (sZ S k) (sL S k) al i m)))) (if bf_foc (sZ S k) (sL S k) al i m = 0 then D else bf_u D 37 0 (nI (bf_foc (sZ S k) (sL S k) al i m))) := by
  refine bf_Cf_of 2 hd mo_X9_cellsBarred (Nat.le_of_ble_eq_true rfl) (fun e he J r => ?_)
  show J 0 [some (.ref 37), some (.int (nI k)), some (.int (al)), some (.int (i)), some (.long (m.toInt64)), none] [] (bf_MD D)
  have z60 := (vs k hk).2
  have l3 := (vs k hk).1
  refine bf_aload_n r.1 dX9_cellsBarred_0 rfl ?_
  refine ig_ref r (b := 53) dX9_cellsBarred_1 fl_X9_55 rfl (by decide) rfl ?_
  refine bf_iload_n r.1 dX9_cellsBarred_4 rfl ?_
  refine ia_ld r (n := 4) (v := bf_sz (sZ S k)) dX9_cellsBarred_5 rfl (by decide) (by omega) ((ms k hk).1) ?_
  refine bf_if_lt r.1 (tgt := 25) dX9_cellsBarred_6 (by decide) (fun c400 => ?_) (fun c400 => ?_)
  · have hz : sZ S k = none := (bf_sz_lt z60).mp c400
    refine bf_aload_n r.1 dX9_cellsBarred_25 rfl ?_
    refine ig_ref r (b := 53) dX9_cellsBarred_26 fl_X9_55 rfl (by decide) rfl ?_
    refine bf_iload_n r.1 dX9_cellsBarred_29 rfl ?_
    refine ia_ld r (n := 4) (v := bf_sz (sZ S k)) dX9_cellsBarred_30 rfl (by decide) (by omega) ((ms k hk).1) ?_
    refine bf_if_ge r.1 (tgt := 40) dX9_cellsBarred_31 (by decide) (fun c401 => ?_) (fun c401 => ?_)
    · exact absurd c400 (Int32.not_lt.mpr c401)
    · refine bf_aload_n r.1 dX9_cellsBarred_34 rfl ?_
      refine bf_iconst r.1 (v := nI 1) dX9_cellsBarred_35 rfl ?_
      refine cl_v r (y2 := mX9_failed) dX9_cellsBarred_36 li_X9_105 mv_X9_failed rfl (by decide) [.int (nI 1)] [] rfl (Nat.le_of_ble_eq_true rfl) rfl (c_X9_failed (by omega) D _) ?_
      show J 39 [some (.ref 37), some (.int (nI k)), some (.int (al)), some (.int (i)), some (.long (m.toInt64)), none] [.int (-10 - nI 1)] (bf_MD (bf_u D 37 0 (nI 1)))
      have hf : bf_foc (sZ S k) (sL S k) al i m = 1 := by simp only [bf_foc, hz]
      exact rt_i r dX9_cellsBarred_39 rfl rfl (by rw [hf, if_neg (by decide)]) (by rw [hf, if_neg (by decide)])
  · obtain ⟨n, hz⟩ := Option.ne_none_iff_exists'.mp (fun q => c400 ((bf_sz_lt z60).mpr q))
    have n60 := z60 n hz
    refine bf_aload_n r.1 dX9_cellsBarred_9 rfl ?_
    refine ig_ref r (b := 54) dX9_cellsBarred_10 fl_X9_58 rfl (by decide) rfl ?_
    refine bf_iload_n r.1 dX9_cellsBarred_13 rfl ?_
    refine ia_ld r (n := 4) (v := nI (sL S k)) dX9_cellsBarred_14 rfl (by decide) (by omega) ((ms k hk).2.1) ?_
    refine bf_iload_n r.1 dX9_cellsBarred_15 rfl ?_
    refine bf_icmp_eq r.1 (tgt := 25) dX9_cellsBarred_16 (by decide) (fun c402 => ?_) (fun c402 => ?_)
    · refine bf_aload_n r.1 dX9_cellsBarred_25 rfl ?_
      refine ig_ref r (b := 53) dX9_cellsBarred_26 fl_X9_55 rfl (by decide) rfl ?_
      refine bf_iload_n r.1 dX9_cellsBarred_29 rfl ?_
      refine ia_ld r (n := 4) (v := nI n) dX9_cellsBarred_30 rfl (by decide) (by omega) ((ms k hk).1.trans (by rw [hz]; rfl)) ?_
      refine nz_ge r (tgt := 40) dX9_cellsBarred_31 (by decide) (by omega) (fun c403 => ?_) (fun c403 => ?_)
      · refine bf_lload r.1 dX9_cellsBarred_40 rfl ?_
        refine bf_lconst r.1 (v := lN 0) dX9_cellsBarred_42 rfl ?_
        refine bf_lcmp r.1 dX9_cellsBarred_43 ?_
        refine bf_if_ge r.1 (tgt := 53) dX9_cellsBarred_44 (by decide) (fun c404 => ?_) (fun c404 => ?_)
        · refine bf_iload_n r.1 dX9_cellsBarred_53 rfl ?_
          refine bf_lload r.1 dX9_cellsBarred_54 rfl ?_
          refine bf_aload_n r.1 dX9_cellsBarred_56 rfl ?_
          refine ig_ref r (b := 53) dX9_cellsBarred_57 fl_X9_55 rfl (by decide) rfl ?_
          refine bf_iload_n r.1 dX9_cellsBarred_60 rfl ?_
          refine ia_ld r (n := 4) (v := nI n) dX9_cellsBarred_61 rfl (by decide) (by omega) ((ms k hk).1.trans (by rw [hz]; rfl)) ?_
          refine cl_s r (y2 := mX9_isBeyond) dX9_cellsBarred_62 li_X9_109 mv_X9_isBeyond [.int (i), .long (m.toInt64), .int (nI n)] [] rfl (Nat.le_of_ble_eq_true rfl) rfl (c_X9_isBeyond (by omega) D i m (by omega)) ?_
          show J 65 [some (.ref 37), some (.int (nI k)), some (.int (al)), some (.int (i)), some (.long (m.toInt64)), none] [.int (if ¬ (0 ≤ (i).toInt ∧ 0 ≤ m.toInt ∧ (i).toInt + m.toInt ≤ n) then 1 else 0)] (bf_MD D)
          refine nb_eq r (tgt := 76) dX9_cellsBarred_65 (by decide) (fun c405 => ?_) (fun c405 => ?_)
          · refine bf_iconst r.1 (v := nI 0) dX9_cellsBarred_76 rfl ?_
            have hf : bf_foc (sZ S k) (sL S k) al i m = 0 := by simp only [bf_foc, hz, if_pos c402, if_neg (fun e => Int32.not_lt.mpr c404 ((lg_cmp_lt _ _).mpr ((bf_neg64 m).mpr e))), if_pos (Decidable.not_not.mp c405)]
            exact rt_i r dX9_cellsBarred_77 rfl rfl (by rw [hf, if_pos rfl]) (by rw [hf, if_pos rfl])
          · refine bf_aload_n r.1 dX9_cellsBarred_68 rfl ?_
            refine bf_iconst r.1 (v := nI 3) dX9_cellsBarred_69 rfl ?_
            refine cl_v r (y2 := mX9_failed) dX9_cellsBarred_70 li_X9_105 mv_X9_failed rfl (by decide) [.int (nI 3)] [] rfl (Nat.le_of_ble_eq_true rfl) rfl (c_X9_failed (by omega) D _) ?_
            show J 73 [some (.ref 37), some (.int (nI k)), some (.int (al)), some (.int (i)), some (.long (m.toInt64)), none] [.int (-10 - nI 3)] (bf_MD (bf_u D 37 0 (nI 3)))
            refine bf_goto r.1 (tgt := 77) dX9_cellsBarred_73 (by decide) ?_
            have hf : bf_foc (sZ S k) (sL S k) al i m = 3 := by simp only [bf_foc, hz, if_pos c402, if_neg (fun e => Int32.not_lt.mpr c404 ((lg_cmp_lt _ _).mpr ((bf_neg64 m).mpr e))), if_neg c405]
            exact rt_i r dX9_cellsBarred_77 rfl rfl (by rw [hf, if_neg (by decide)]) (by rw [hf, if_neg (by decide)])
        · refine bf_aload_n r.1 dX9_cellsBarred_47 rfl ?_
          refine bf_iconst r.1 (v := nI 4) dX9_cellsBarred_48 rfl ?_
          refine cl_v r (y2 := mX9_failed) dX9_cellsBarred_49 li_X9_105 mv_X9_failed rfl (by decide) [.int (nI 4)] [] rfl (Nat.le_of_ble_eq_true rfl) rfl (c_X9_failed (by omega) D _) ?_
          show J 52 [some (.ref 37), some (.int (nI k)), some (.int (al)), some (.int (i)), some (.long (m.toInt64)), none] [.int (-10 - nI 4)] (bf_MD (bf_u D 37 0 (nI 4)))
          have hf : bf_foc (sZ S k) (sL S k) al i m = 4 := by simp only [bf_foc, hz, if_pos c402, if_pos ((bf_neg64 m).mp ((lg_cmp_lt _ _).mp (Int32.not_le.mp c404)))]
          exact rt_i r dX9_cellsBarred_52 rfl rfl (by rw [hf, if_neg (by decide)]) (by rw [hf, if_neg (by decide)])
      · exact absurd c403 (by omega)
    · refine bf_aload_n r.1 dX9_cellsBarred_19 rfl ?_
      refine bf_iconst r.1 (v := nI 2) dX9_cellsBarred_20 rfl ?_
      refine cl_v r (y2 := mX9_failed) dX9_cellsBarred_21 li_X9_105 mv_X9_failed rfl (by decide) [.int (nI 2)] [] rfl (Nat.le_of_ble_eq_true rfl) rfl (c_X9_failed (by omega) D _) ?_
      show J 24 [some (.ref 37), some (.int (nI k)), some (.int (al)), some (.int (i)), some (.long (m.toInt64)), none] [.int (-10 - nI 2)] (bf_MD (bf_u D 37 0 (nI 2)))
      have hf : bf_foc (sZ S k) (sL S k) al i m = 2 := by simp only [bf_foc, hz, if_neg c402]
      exact rt_i r dX9_cellsBarred_24 rfl rfl (by rw [hf, if_neg (by decide)]) (by rw [hf, if_neg (by decide)])
def bf_nc (S : bf_Sh) (k : Nat) (i : Int32) : Nat := bf_on (sZ S k) 1 fun n => bf_on (bf_rg i n) 3 fun _ => 0
theorem bf_nc_le (S : bf_Sh) (k : Nat) (i : Int32) : bf_nc S k i ≤ 3 := by
  unfold bf_nc
  cases sZ S k with
  | none => rw [on_n]; decide
  | some n =>
    rw [on_s]
    cases bf_rg i n with
    | none => rw [on_n]; decide
    | some j => rw [on_s]; decide
theorem c_X9_noCell {d : Nat} (hd : 3 ≤ d) {D : bf_D} {S : bf_Sh} (vs : vS S) (ms : mS D S) {k : Nat} (hk : k < 4) (i : Int32) : bf_Cf d mX9_noCell [.ref 37, .int (nI k), .int (i)] D (some (.int (nI (bf_nc S k i)))) D := by
  refine bf_Cf_of 2 hd mo_X9_noCell (Nat.le_of_ble_eq_true rfl) (fun e he J r => ?_)
  show J 0 [some (.ref 37), some (.int (nI k)), some (.int (i))] [] (bf_MD D)
  have z60 := (vs k hk).2
  refine bf_aload_n r.1 dX9_noCell_0 rfl ?_
  refine ig_ref r (b := 53) dX9_noCell_1 fl_X9_55 rfl (by decide) rfl ?_
  refine bf_iload_n r.1 dX9_noCell_4 rfl ?_
  refine ia_ld r (n := 4) (v := bf_sz (sZ S k)) dX9_noCell_5 rfl (by decide) (by omega) ((ms k hk).1) ?_
  refine bf_if_ge r.1 (tgt := 13) dX9_noCell_6 (by decide) (fun c406 => ?_) (fun c406 => ?_)
  · obtain ⟨n, hz⟩ := Option.ne_none_iff_exists'.mp (fun q => Int32.not_lt.mpr c406 ((bf_sz_lt z60).mpr q))
    have n60 := z60 n hz
    refine bf_iload_n r.1 dX9_noCell_13 rfl ?_
    refine bf_i2l r.1 dX9_noCell_14 ?_
    refine bf_lconst r.1 (v := lN 0) dX9_noCell_15 rfl ?_
    refine bf_aload_n r.1 dX9_noCell_16 rfl ?_
    refine ig_ref r (b := 53) dX9_noCell_17 fl_X9_55 rfl (by decide) rfl ?_
    refine bf_iload_n r.1 dX9_noCell_20 rfl ?_
    refine ia_ld r (n := 4) (v := nI n) dX9_noCell_21 rfl (by decide) (by omega) ((ms k hk).1.trans (by rw [hz]; rfl)) ?_
    refine na_i2l r dX9_noCell_22 (by omega) ?_
    refine bf_lconst r.1 (v := lN 1) dX9_noCell_23 rfl ?_
    refine bf_lsub r.1 dX9_noCell_24  ?_
    refine cl_s r (y2 := mX9_in) dX9_noCell_25 li_X9_80 mv_X9_in [.long (i.toInt64), .long (lN 0), .long ((lN n) - (lN 1))] [] rfl (Nat.le_of_ble_eq_true rfl) rfl (c_X9_in32m (by omega) D i (n := n) (by omega)) ?_
    show J 28 [some (.ref 37), some (.int (nI k)), some (.int (i))] [.int (if 0 ≤ i ∧ i < nI n then 1 else 0)] (bf_MD D)
    refine nb_eq r (tgt := 35) dX9_noCell_28 (by decide) (fun c407 => ?_) (fun c407 => ?_)
    · have wi := rg_n c407
      refine bf_iconst r.1 (v := nI 3) dX9_noCell_35 rfl ?_
      exact rt_i r dX9_noCell_36 rfl rfl (by unfold bf_nc; rw [hz, on_s, wi, on_n]) rfl
    · obtain ⟨i0, hi0, rfl⟩ := rg_in (by omega) c407
      have wi := rg_s hi0 (by omega)
      refine bf_iconst r.1 (v := nI 0) dX9_noCell_31 rfl ?_
      refine bf_goto r.1 (tgt := 36) dX9_noCell_32 (by decide) ?_
      exact rt_i r dX9_noCell_36 rfl rfl (by unfold bf_nc; rw [hz, on_s, wi, on_s]) rfl
  · have hz : sZ S k = none := (bf_sz_lt z60).mp (Int32.not_le.mp c406)
    refine bf_iconst r.1 (v := nI 1) dX9_noCell_9 rfl ?_
    refine bf_goto r.1 (tgt := 36) dX9_noCell_10 (by decide) ?_
    exact rt_i r dX9_noCell_36 rfl rfl (by unfold bf_nc; rw [hz, on_n]) rfl
theorem e_X9_sheet {d : Nat} (hd : 10 ≤ d) {D : bf_D} {P : bf_Pn} {S : bf_Sh} {Q : bf_Rd} {F : Nat} {T : Int32} (va : vA (P, S, Q, F, T)) (ma : mA D (P, S, Q, F, T)) (k l n : Int32) : bf_Ce d mX9_sheet [.ref 37, .int (k), .int (l), .int (n)] D (fun r D' => r = some (.int (ox_sheet P S Q F T k l n).1) ∧ mA D' (ox_sheet P S Q F T k l n).2 ∧ bf_fr 37 57 D D') := by
  refine bf_Ce_of 9 hd mo_X9_sheet (Nat.le_of_ble_eq_true rfl) (fun e he J r => ?_)
  show J 0 [some (.ref 37), some (.int (k)), some (.int (l)), some (.int (n)), none] [] (bf_MD D)
  obtain ⟨hv, vs, vr, hF⟩ := id va
  obtain ⟨hm, ms, mr, c5, c6⟩ := id ma
  have hn4 := hv.1
  have hx4 := pX_le hv
  have hx0 := pX_pos P
  refine bf_iload_n r.1 dX9_sheet_0 rfl ?_
  refine cl_s r (y2 := mX9_noSheet) dX9_sheet_1 li_X9_113 mv_X9_noSheet [.int (k)] [] rfl (Nat.le_of_ble_eq_true rfl) rfl (c_X9_noSheet (by omega) D _) ?_
  show J 4 [some (.ref 37), some (.int (k)), some (.int (l)), some (.int (n)), none] [.int (if ¬ (0 ≤ k ∧ k < nI 4) then 1 else 0)] (bf_MD D)
  refine nb_eq r (tgt := 13) dX9_sheet_4 (by decide) (fun c408 => ?_) (fun c408 => ?_)
  · obtain ⟨k0, hk0, rfl⟩ := rg_in (by decide) (Decidable.not_not.mp c408)
    have wk := rg_s hk0 (by decide)
    have z60k := (vs k0 hk0).2
    refine bf_iload_n r.1 dX9_sheet_13 rfl ?_
    refine bf_i2l r.1 dX9_sheet_14 ?_
    refine bf_lconst r.1 (v := lN 0) dX9_sheet_15 rfl ?_
    refine bf_ldc2 r.1 dX9_sheet_16 lc_X9_120 ?_
    refine eq_l (v := lN 2) rfl ?_
    refine cl_s r (y2 := mX9_in) dX9_sheet_19 li_X9_80 mv_X9_in [.long (l.toInt64), .long (lN 0), .long (lN 2)] [] rfl (Nat.le_of_ble_eq_true rfl) rfl (c_X9_in32 (by omega) D l (h := 2) (m := 3) rfl (by decide)) ?_
    show J 22 [some (.ref 37), some (.int (nI k0)), some (.int (l)), some (.int (n)), none] [.int (if 0 ≤ l ∧ l < nI 3 then 1 else 0)] (bf_MD D)
    refine nb_eq r (tgt := 31) dX9_sheet_22 (by decide) (fun c409 => ?_) (fun c409 => ?_)
    · have wl := rg_n c409
      refine bf_aload_n r.1 dX9_sheet_31 rfl ?_
      refine bf_bipush r.1 (v := -2) dX9_sheet_32 rfl ?_
      refine cl_v r (y2 := mX9_refused) dX9_sheet_34 li_X9_117 mv_X9_refused rfl (by decide) [.int (-2)] [] rfl (Nat.le_of_ble_eq_true rfl) rfl (c_X9_refused (by omega) D _) ?_
      show J 37 [some (.ref 37), some (.int (nI k0)), some (.int (l)), some (.int (n)), none] [.int (-2)] (bf_MD (bf_u D 37 0 (nI 0)))
      have ho : ox_sheet P S Q F T (nI k0) l n = (-2, (P, S, Q, 0, T)) := by simp only [ox_sheet, wk, wl, on_n, on_s]
      exact re_i r dX9_sheet_37 rfl rfl ⟨by rw [ho], by rw [ho]; exact (mA_0 hn4 0 ma), (fr_u fr_0 (by decide) (by decide))⟩
    · obtain ⟨l0, hl0, rfl⟩ := rg_in (by decide) c409
      have wl := rg_s hl0 (by decide)
      refine bf_iload_n r.1 dX9_sheet_25 rfl ?_
      refine bf_bipush r.1 (v := nI 60) dX9_sheet_26 rfl ?_
      refine bf_icmp_le r.1 (tgt := 38) dX9_sheet_28 (by decide) (fun c410 => ?_) (fun c410 => ?_)
      · refine bf_iload_n r.1 dX9_sheet_38 rfl ?_
        refine bf_if_ge r.1 (tgt := 48) dX9_sheet_39 (by decide) (fun c411 => ?_) (fun c411 => ?_)
        · obtain ⟨n0, hn0, rfl⟩ := rg_le c411 c410 (by decide)
          have wn := rg_s hn0 (by decide)
          refine bf_aload_n r.1 dX9_sheet_48 rfl ?_
          refine ig_ref r (b := 53) dX9_sheet_49 fl_X9_55 rfl (by decide) rfl ?_
          refine bf_iload_n r.1 dX9_sheet_52 rfl ?_
          refine bf_iload_n r.1 dX9_sheet_53 rfl ?_
          refine ia_st r (n := 4) dX9_sheet_54 rfl (by decide) hk0 ?_
          refine bf_aload_n r.1 dX9_sheet_55 rfl ?_
          refine ig_ref r (b := 54) dX9_sheet_56 fl_X9_58 rfl (by decide) rfl ?_
          refine bf_iload_n r.1 dX9_sheet_59 rfl ?_
          refine bf_iload_n r.1 dX9_sheet_60 rfl ?_
          refine ia_st r (n := 4) dX9_sheet_61 rfl (by decide) hk0 ?_
          refine bf_iconst r.1 (v := nI 0) dX9_sheet_62 rfl ?_
          refine bf_istore r.1 (L2 := [some (.ref 37), some (.int (nI k0)), some (.int (nI l0)), some (.int (nI n0)), some (.int (nI 0))]) dX9_sheet_63 rfl ?_
          have lo : ∀ j : Nat, j ≤ n0 → ∀ D2 : bf_D, (∀ a t, (a ≠ 55 ∨ t < 60 * k0 ∨ 60 * k0 + j ≤ t) → D2 a t = (bf_u (bf_u D 53 k0 (nI n0)) 54 k0 (nI l0)) a t) → (∀ b, b < j → D2 55 (60 * k0 + b) = nI 0) → J 65 [some (.ref 37), some (.int (nI k0)), some (.int (nI l0)), some (.int (nI n0)), some (.int (nI j))] [] (bf_MD D2) := by
            refine bf_down (fun j hle ih => ?_)
            intro D2 hO hI
            refine bf_iload r.1 dX9_sheet_65 rfl ?_
            refine bf_iload_n r.1 dX9_sheet_67 rfl ?_
            refine nc_ge r (tgt := 90) dX9_sheet_68 (by decide) (by omega) (by omega) (fun c412 => ?_) (fun c412 => ?_)
            · have ej : j = n0 := by omega
              refine bf_aload_n r.1 dX9_sheet_90 rfl ?_
              refine bf_iconst r.1 (v := nI 1) dX9_sheet_91 rfl ?_
              refine cl_v r (y2 := mX9_refused) dX9_sheet_92 li_X9_117 mv_X9_refused rfl (by decide) [.int (nI 1)] [] rfl (Nat.le_of_ble_eq_true rfl) rfl (c_X9_refused (by omega) D2 _) ?_
              show J 95 [some (.ref 37), some (.int (nI k0)), some (.int (nI l0)), some (.int (nI n0)), some (.int (nI j))] [.int (nI 1)] (bf_MD (bf_u D2 37 0 (nI 0)))
              subst ej
              have ho : ox_sheet P S Q F T (nI k0) (nI l0) (nI j) = (nI 1, (P, sPut S k0 (some j) l0 (fun _ => nI 0), Q, 0, T)) := by simp only [ox_sheet, wk, wl, wn, on_n, on_s]
              exact re_i r dX9_sheet_95 rfl rfl ⟨by rw [ho], by rw [ho]; exact (mA_0 hn4 0 (mA_S hn4 ma (mS_put vs ms (fun a t q => (hO a t (by omega)).trans ((bf_un (by omega)).trans (bf_un (by omega)))) ((hO _ _ (by omega)).trans ((bf_un (by omega)).trans bf_us)) ((hO _ _ (by omega)).trans bf_us) (fun n hn i hi => by cases hn; exact hI i hi)) (fun a t q => (hO a t (by omega)).trans ((bf_un (by omega)).trans (bf_un (by omega)))))), (fr_u (fun a t q => (hO a t (by omega)).trans ((bf_un (by omega)).trans (bf_un (by omega)))) (by decide) (by decide))⟩
            · refine bf_aload_n r.1 dX9_sheet_71 rfl ?_
              refine ig_ref r (b := 55) dX9_sheet_72 fl_X9_61 rfl (by decide) rfl ?_
              refine bf_bipush r.1 (v := nI 60) dX9_sheet_75 rfl ?_
              refine bf_iload_n r.1 dX9_sheet_77 rfl ?_
              refine na_mul r dX9_sheet_78  ?_
              refine bf_iload r.1 dX9_sheet_79 rfl ?_
              refine na_add r dX9_sheet_81  ?_
              refine bf_iconst r.1 (v := nI 0) dX9_sheet_82 rfl ?_
              refine ia_st r (n := 240) dX9_sheet_83 rfl (by decide) (by omega) ?_
              refine na_inc r (v := j + 1) (L2 := [some (.ref 37), some (.int (nI k0)), some (.int (nI l0)), some (.int (nI n0)), some (.int (nI (j + 1)))]) dX9_sheet_84 rfl (nI_add _ 1) rfl ?_
              refine bf_goto r.1 (tgt := 65) dX9_sheet_87 (by decide) ?_
              refine ih (by omega) _ (fun a t q => (bf_un (by omega)).trans (hO a t (by omega))) (fun b hb => ?_)
              by_cases eb : b = j
              · subst eb; exact bf_us
              · rw [bf_un (by omega)]; exact hI b (by omega)
          exact lo 0 (by omega) _ (fun _ _ _ => rfl) (fun b hb => absurd hb (Nat.not_lt_zero _))
        · have wn : bf_rg n 61 = none := rg_lo c411
          refine bf_aload_n r.1 dX9_sheet_42 rfl ?_
          refine bf_iconst r.1 (v := nI 4) dX9_sheet_43 rfl ?_
          refine cl_v r (y2 := mX9_failed) dX9_sheet_44 li_X9_105 mv_X9_failed rfl (by decide) [.int (nI 4)] [] rfl (Nat.le_of_ble_eq_true rfl) rfl (c_X9_failed (by omega) D _) ?_
          show J 47 [some (.ref 37), some (.int (nI k0)), some (.int (nI l0)), some (.int (n)), none] [.int (-10 - nI 4)] (bf_MD (bf_u D 37 0 (nI 4)))
          have ho : ox_sheet P S Q F T (nI k0) (nI l0) n = (-10 - nI 4, (P, S, Q, 4, T)) := by simp only [ox_sheet, wk, wl, wn, if_pos (Int32.not_le.mp c411), on_n, on_s]
          exact re_i r dX9_sheet_47 rfl rfl ⟨by rw [ho], by rw [ho]; exact (mA_0 hn4 4 ma), (fr_u fr_0 (by decide) (by decide))⟩
      · have wn := rg_hi (m := 60) c410 (by decide)
        have hn0 : ¬ n < 0 := fun q => c410 (Int32.le_of_lt (Int32.lt_of_lt_of_le q (by decide)))
        refine bf_aload_n r.1 dX9_sheet_31 rfl ?_
        refine bf_bipush r.1 (v := -2) dX9_sheet_32 rfl ?_
        refine cl_v r (y2 := mX9_refused) dX9_sheet_34 li_X9_117 mv_X9_refused rfl (by decide) [.int (-2)] [] rfl (Nat.le_of_ble_eq_true rfl) rfl (c_X9_refused (by omega) D _) ?_
        show J 37 [some (.ref 37), some (.int (nI k0)), some (.int (nI l0)), some (.int (n)), none] [.int (-2)] (bf_MD (bf_u D 37 0 (nI 0)))
        have ho : ox_sheet P S Q F T (nI k0) (nI l0) n = (-2, (P, S, Q, 0, T)) := by simp only [ox_sheet, wk, wl, wn, if_neg hn0, on_n, on_s]
        exact re_i r dX9_sheet_37 rfl rfl ⟨by rw [ho], by rw [ho]; exact (mA_0 hn4 0 ma), (fr_u fr_0 (by decide) (by decide))⟩
  · have wk := rg_n c408
    refine bf_aload_n r.1 dX9_sheet_7 rfl ?_
    refine bf_iconst r.1 (v := -1) dX9_sheet_8 rfl ?_
    refine cl_v r (y2 := mX9_refused) dX9_sheet_9 li_X9_117 mv_X9_refused rfl (by decide) [.int (-1)] [] rfl (Nat.le_of_ble_eq_true rfl) rfl (c_X9_refused (by omega) D _) ?_
    show J 12 [some (.ref 37), some (.int (k)), some (.int (l)), some (.int (n)), none] [.int (-1)] (bf_MD (bf_u D 37 0 (nI 0)))
    have ho : ox_sheet P S Q F T k l n = (-1, (P, S, Q, 0, T)) := by simp only [ox_sheet, wk, on_n, on_s]
    exact re_i r dX9_sheet_12 rfl rfl ⟨by rw [ho], by rw [ho]; exact (mA_0 hn4 0 ma), (fr_u fr_0 (by decide) (by decide))⟩
