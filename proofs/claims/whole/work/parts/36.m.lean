/-! the reference: put, cell, copy -/
theorem bf_nc_0 {S : bf_Sh} {k : Nat} {i : Int32} (h60 : ∀ n, sZ S k = some n → n ≤ 60) (h : bf_nc S k i ≤ 0) : ∃ n i0, sZ S k = some n ∧ n ≤ 60 ∧ i0 < n ∧ i = nI i0 := by
  unfold bf_nc at h
  cases hz : sZ S k with
  | none => rw [hz, on_n] at h; omega
  | some n =>
    rw [hz, on_s] at h
    have hn := h60 n hz
    by_cases hr : 0 ≤ i ∧ i < nI n
    · obtain ⟨j, hj, e⟩ := rg_in (by omega) hr
      exact ⟨n, j, rfl, hn, hj, e⟩
    · rw [rg_n hr, on_n] at h; omega
section
variable {P : bf_Pn} {S : bf_Sh} {Q : bf_Rd} {F : Nat} {T : Int32}
theorem ox_put_f {kI i v : Int32} {k : Nat} (wk : bf_rg kI 4 = some k) (h : 0 < bf_nc S k i) : ox_put P S Q F T kI i v = (-10 - nI (bf_nc S k i), (P, S, Q, bf_nc S k i, T)) := by
  unfold ox_put
  rw [wk, on_s]
  unfold bf_nc at h ⊢
  cases hz : sZ S k with
  | none => simp only [on_n]
  | some n =>
    rw [hz, on_s] at h
    simp only [on_s]
    cases hr : bf_rg i n with
    | none => simp only [on_n]
    | some j => rw [hr, on_s] at h; omega
theorem ox_cell_f {kI i lI : Int32} {k l f : Nat} (wk : bf_rg kI 4 = some k) (wl : bf_rg lI 3 = some l) (h : bf_foc (sZ S k) (sL S k) (nI l) i (nI 1) = f) (h0 : ¬ f = 0) : ox_cell P S Q F T kI i lI = (bf_lost, (P, S, Q, f, T)) := by
  unfold ox_cell
  rw [wk, on_s, wl, on_s, h, if_neg h0]
theorem ox_cell_s {kI i lI : Int32} {k l i0 : Nat} (wk : bf_rg kI 4 = some k) (wl : bf_rg lI 3 = some l) (h : bf_foc (sZ S k) (sL S k) (nI l) i (nI 1) = 0) (hi : i.toNatClampNeg = i0) : ox_cell P S Q F T kI i lI = ((sC S k i0).toInt64, (P, S, Q, 0, T)) := by
  unfold ox_cell
  rw [wk, on_s, wl, on_s, h, if_pos rfl, hi]
end
theorem bf_foc_nc {S : bf_Sh} {k l : Nat} {i : Int32} (h60 : ∀ n, sZ S k = some n → n ≤ 60) (h : sZ S k = none ∨ nI (sL S k) = nI l) : bf_foc (sZ S k) (sL S k) (nI l) i (nI 1) = bf_nc S k i := by
  unfold bf_foc bf_nc
  cases hz : sZ S k with
  | none => rw [on_n]
  | some n =>
    have hl : nI (sL S k) = nI l := by
      rcases h with h | h
      · rw [hz] at h; cases h
      · exact h
    rw [on_s]
    simp only []
    rw [if_pos hl, if_neg (by rw [nI_toInt (by decide)]; omega)]
    by_cases hr : 0 ≤ i ∧ i < nI n
    · rw [if_pos ((hc1 (h60 n hz)).mpr hr)]
      obtain ⟨j, hj, rfl⟩ := rg_in (by have := h60 n hz; omega) hr
      rw [rg_s hj (by have := h60 n hz; omega), on_s]
    · rw [if_neg (fun q => hr ((hc1 (h60 n hz)).mp q)), rg_n hr, on_n]
theorem mS_pt {D : bf_D} {S : bf_Sh} {k n i : Nat} {v : Int32} (vs : vS S) (hk : k < 4) (hz : sZ S k = some n) (hi : i < 60) (ms : mS D S) : mS (bf_u D 55 (60 * k + i) v) (sPut S k (some n) (sL S k) (fun j => if j = i then v else sC S k j)) := by
  refine mS_put vs ms (fun a j q => bf_un (by omega)) ((bf_un (by omega)).trans ((ms k hk).1.trans (by rw [hz]))) ((bf_un (by omega)).trans (ms k hk).2.1) (fun m hm t ht => ?_)
  cases hm
  by_cases e : t = i
  · subst e; rw [bf_us, if_pos rfl]
  · rw [bf_un (by omega), if_neg e]; exact (ms k hk).2.2 n hz t ht
theorem mS_cp {D D' : bf_D} {S : bf_Sh} {k o z z2 i j m : Nat} (vs : vS S) (hk : k < 4) (ho : o < 4) (hz : sZ S k = some z) (hz2 : sZ S o = some z2) (h1 : i + m ≤ z) (h2 : j + m ≤ z2) (ms : mS D S) (e1 : ∀ a t, (a = 53 ∨ a = 54) ∨ a = 55 ∧ (t < 60 * o + j ∨ 60 * o + j + m ≤ t) → D' a t = D a t) (e2 : ∀ b, b < m → D' 55 (60 * o + j + b) = D 55 (60 * k + i + b)) : mS D' (sPut S o (some z2) (sL S o) (va_cpy (sC S k) (sC S o) i j m)) := by
  have z60 := (vs o ho).2 z2 hz2
  refine mS_put vs ms (fun a t q => e1 a t (by omega)) ((e1 _ _ (by omega)).trans ((ms o ho).1.trans (by rw [hz2]))) ((e1 _ _ (by omega)).trans (ms o ho).2.1) (fun q hq t ht => ?_)
  cases hq
  unfold va_cpy
  by_cases e : j ≤ t ∧ t < j + m
  · rw [if_pos e]
    have h9 := e2 (t - j) (by omega)
    rw [show 60 * o + j + (t - j) = 60 * o + t by omega, show 60 * k + i + (t - j) = 60 * k + (i + (t - j)) by omega] at h9
    rw [h9]
    exact (ms k hk).2.2 z hz _ (by omega)
  · rw [if_neg e, e1 _ _ (by omega)]
    exact (ms o ho).2.2 z2 hz2 t ht
theorem e_X9_put {d : Nat} (hd : 10 ≤ d) {D : bf_D} {P : bf_Pn} {S : bf_Sh} {Q : bf_Rd} {F : Nat} {T : Int32} (va : vA (P, S, Q, F, T)) (ma : mA D (P, S, Q, F, T)) (k i v : Int32) : bf_Ce d mX9_put [.ref 37, .int (k), .int (i), .int (v)] D (fun r D' => r = some (.int (ox_put P S Q F T k i v).1) ∧ mA D' (ox_put P S Q F T k i v).2 ∧ bf_fr 37 57 D D') := by
  refine bf_Ce_of 9 hd mo_X9_put (Nat.le_of_ble_eq_true rfl) (fun e he J r => ?_)
  show J 0 [some (.ref 37), some (.int (k)), some (.int (i)), some (.int (v))] [] (bf_MD D)
  obtain ⟨hv, vs, vr, hF⟩ := id va
  obtain ⟨hm, ms, mr, c5, c6⟩ := id ma
  have hn4 := hv.1
  have hx4 := pX_le hv
  have hx0 := pX_pos P
  refine bf_iload_n r.1 dX9_put_0 rfl ?_
  refine cl_s r (y2 := mX9_noSheet) dX9_put_1 li_X9_113 mv_X9_noSheet [.int (k)] [] rfl (Nat.le_of_ble_eq_true rfl) rfl (c_X9_noSheet (by omega) D _) ?_
  show J 4 [some (.ref 37), some (.int (k)), some (.int (i)), some (.int (v))] [.int (if ¬ (0 ≤ k ∧ k < nI 4) then 1 else 0)] (bf_MD D)
  refine nb_eq r (tgt := 13) dX9_put_4 (by decide) (fun c413 => ?_) (fun c413 => ?_)
  · obtain ⟨k0, hk0, rfl⟩ := rg_in (by decide) (Decidable.not_not.mp c413)
    have wk := rg_s hk0 (by decide)
    have z60k := (vs k0 hk0).2
    refine bf_aload_n r.1 dX9_put_13 rfl ?_
    refine bf_iload_n r.1 dX9_put_14 rfl ?_
    refine bf_iload_n r.1 dX9_put_15 rfl ?_
    refine cl_v r (y2 := mX9_noCell) dX9_put_16 li_X9_262 mv_X9_noCell rfl (by decide) [.int (nI k0), .int (i)] [] rfl (Nat.le_of_ble_eq_true rfl) rfl (c_X9_noCell (by omega) vs ms hk0 i) ?_
    show J 19 [some (.ref 37), some (.int (nI k0)), some (.int (i)), some (.int (v))] [.int (nI (bf_nc S k0 i))] (bf_MD D)
    refine nz_le r (tgt := 33) dX9_put_19 (by decide) (by have := bf_nc_le S k0 i; omega) (fun c414 => ?_) (fun c414 => ?_)
    · obtain ⟨n, i0, hz, n60, hi0, rfl⟩ := bf_nc_0 z60k c414
      have wi := rg_s hi0 (by omega)
      refine bf_aload_n r.1 dX9_put_33 rfl ?_
      refine ig_ref r (b := 55) dX9_put_34 fl_X9_61 rfl (by decide) rfl ?_
      refine bf_bipush r.1 (v := nI 60) dX9_put_37 rfl ?_
      refine bf_iload_n r.1 dX9_put_39 rfl ?_
      refine na_mul r dX9_put_40  ?_
      refine bf_iload_n r.1 dX9_put_41 rfl ?_
      refine na_add r dX9_put_42  ?_
      refine bf_aload_n r.1 dX9_put_43 rfl ?_
      refine ig_ref r (b := 54) dX9_put_44 fl_X9_58 rfl (by decide) rfl ?_
      refine bf_iload_n r.1 dX9_put_47 rfl ?_
      refine ia_ld r (n := 4) (v := nI (sL S k0)) dX9_put_48 rfl (by decide) hk0 ((ms k0 hk0).2.1) ?_
      refine nz_ne r (tgt := 57) dX9_put_49 (by decide) (by have := (vs k0 hk0).1; omega) (fun c415 => ?_) (fun c415 => ?_)
      · refine bf_aload_n r.1 dX9_put_57 rfl ?_
        refine ig_ref r (b := 54) dX9_put_58 fl_X9_58 rfl (by decide) rfl ?_
        refine bf_iload_n r.1 dX9_put_61 rfl ?_
        refine ia_ld r (n := 4) (v := nI (sL S k0)) dX9_put_62 rfl (by decide) hk0 ((ms k0 hk0).2.1) ?_
        refine bf_iconst r.1 (v := nI 1) dX9_put_63 rfl ?_
        refine nc_ne r (tgt := 72) dX9_put_64 (by decide) (by have := (vs k0 hk0).1; omega) (by decide) (fun c416 => ?_) (fun c416 => ?_)
        · refine bf_iload_n r.1 dX9_put_72 rfl ?_
          refine eq_i (v := bf_cut (sL S k0) v) (by unfold bf_cut; rw [if_neg c415, if_neg c416]) ?_
          refine ia_st r (n := 240) dX9_put_73 rfl (by decide) (by omega) ?_
          refine bf_aload_n r.1 dX9_put_74 rfl ?_
          refine bf_iconst r.1 (v := nI 1) dX9_put_75 rfl ?_
          refine cl_v r (y2 := mX9_refused) dX9_put_76 li_X9_117 mv_X9_refused rfl (by decide) [.int (nI 1)] [] rfl (Nat.le_of_ble_eq_true rfl) rfl (c_X9_refused (by omega) (bf_u D 55 (60 * k0 + i0) (bf_cut (sL S k0) v)) _) ?_
          show J 79 [some (.ref 37), some (.int (nI k0)), some (.int (nI i0)), some (.int (v))] [.int (nI 1)] (bf_MD (bf_u (bf_u D 55 (60 * k0 + i0) (bf_cut (sL S k0) v)) 37 0 (nI 0)))
          have ho : ox_put P S Q F T (nI k0) (nI i0) v = (nI 1, (P, sPut S k0 (some n) (sL S k0) (fun j => if j = i0 then bf_cut (sL S k0) v else sC S k0 j), Q, 0, T)) := by simp only [ox_put, wk, hz, wi, on_n, on_s]
          exact re_i r dX9_put_79 rfl rfl ⟨by rw [ho], by rw [ho]; exact (mA_0 hn4 0 (mA_S hn4 ma (mS_pt vs hk0 hz (by omega) ms) (fun a j q => bf_un (by omega)))), (fr_u (fr_u fr_0 (by decide) (by decide)) (by decide) (by decide))⟩
        · refine bf_iload_n r.1 dX9_put_67 rfl ?_
          refine bf_i2s r.1 dX9_put_68 ?_
          refine bf_goto r.1 (tgt := 73) dX9_put_69 (by decide) ?_
          refine eq_i (v := bf_cut (sL S k0) v) (by unfold bf_cut; rw [if_neg c415, if_pos c416]) ?_
          refine ia_st r (n := 240) dX9_put_73 rfl (by decide) (by omega) ?_
          refine bf_aload_n r.1 dX9_put_74 rfl ?_
          refine bf_iconst r.1 (v := nI 1) dX9_put_75 rfl ?_
          refine cl_v r (y2 := mX9_refused) dX9_put_76 li_X9_117 mv_X9_refused rfl (by decide) [.int (nI 1)] [] rfl (Nat.le_of_ble_eq_true rfl) rfl (c_X9_refused (by omega) (bf_u D 55 (60 * k0 + i0) (bf_cut (sL S k0) v)) _) ?_
          show J 79 [some (.ref 37), some (.int (nI k0)), some (.int (nI i0)), some (.int (v))] [.int (nI 1)] (bf_MD (bf_u (bf_u D 55 (60 * k0 + i0) (bf_cut (sL S k0) v)) 37 0 (nI 0)))
          have ho : ox_put P S Q F T (nI k0) (nI i0) v = (nI 1, (P, sPut S k0 (some n) (sL S k0) (fun j => if j = i0 then bf_cut (sL S k0) v else sC S k0 j), Q, 0, T)) := by simp only [ox_put, wk, hz, wi, on_n, on_s]
          exact re_i r dX9_put_79 rfl rfl ⟨by rw [ho], by rw [ho]; exact (mA_0 hn4 0 (mA_S hn4 ma (mS_pt vs hk0 hz (by omega) ms) (fun a j q => bf_un (by omega)))), (fr_u (fr_u fr_0 (by decide) (by decide)) (by decide) (by decide))⟩
      · refine bf_iload_n r.1 dX9_put_52 rfl ?_
        refine bf_i2b r.1 dX9_put_53 ?_
        refine bf_goto r.1 (tgt := 73) dX9_put_54 (by decide) ?_
        refine eq_i (v := bf_cut (sL S k0) v) (by unfold bf_cut; rw [if_pos c415]) ?_
        refine ia_st r (n := 240) dX9_put_73 rfl (by decide) (by omega) ?_
        refine bf_aload_n r.1 dX9_put_74 rfl ?_
        refine bf_iconst r.1 (v := nI 1) dX9_put_75 rfl ?_
        refine cl_v r (y2 := mX9_refused) dX9_put_76 li_X9_117 mv_X9_refused rfl (by decide) [.int (nI 1)] [] rfl (Nat.le_of_ble_eq_true rfl) rfl (c_X9_refused (by omega) (bf_u D 55 (60 * k0 + i0) (bf_cut (sL S k0) v)) _) ?_
        show J 79 [some (.ref 37), some (.int (nI k0)), some (.int (nI i0)), some (.int (v))] [.int (nI 1)] (bf_MD (bf_u (bf_u D 55 (60 * k0 + i0) (bf_cut (sL S k0) v)) 37 0 (nI 0)))
        have ho : ox_put P S Q F T (nI k0) (nI i0) v = (nI 1, (P, sPut S k0 (some n) (sL S k0) (fun j => if j = i0 then bf_cut (sL S k0) v else sC S k0 j), Q, 0, T)) := by simp only [ox_put, wk, hz, wi, on_n, on_s]
        exact re_i r dX9_put_79 rfl rfl ⟨by rw [ho], by rw [ho]; exact (mA_0 hn4 0 (mA_S hn4 ma (mS_pt vs hk0 hz (by omega) ms) (fun a j q => bf_un (by omega)))), (fr_u (fr_u fr_0 (by decide) (by decide)) (by decide) (by decide))⟩
    · refine bf_aload_n r.1 dX9_put_22 rfl ?_
      refine bf_aload_n r.1 dX9_put_23 rfl ?_
      refine bf_iload_n r.1 dX9_put_24 rfl ?_
      refine bf_iload_n r.1 dX9_put_25 rfl ?_
      refine cl_v r (y2 := mX9_noCell) dX9_put_26 li_X9_262 mv_X9_noCell rfl (by decide) [.int (nI k0), .int (i)] [.ref 37] rfl (Nat.le_of_ble_eq_true rfl) rfl (c_X9_noCell (by omega) vs ms hk0 i) ?_
      show J 29 [some (.ref 37), some (.int (nI k0)), some (.int (i)), some (.int (v))] [.int (nI (bf_nc S k0 i)), .ref 37] (bf_MD D)
      refine cl_v r (y2 := mX9_failed) dX9_put_29 li_X9_105 mv_X9_failed rfl (by decide) [.int (nI (bf_nc S k0 i))] [] rfl (Nat.le_of_ble_eq_true rfl) rfl (c_X9_failed (by omega) D _) ?_
      show J 32 [some (.ref 37), some (.int (nI k0)), some (.int (i)), some (.int (v))] [.int (-10 - nI (bf_nc S k0 i))] (bf_MD (bf_u D 37 0 (nI (bf_nc S k0 i))))
      have ho := ox_put_f (P := P) (Q := Q) (F := F) (T := T) (v := v) wk c414
      exact re_i r dX9_put_32 rfl rfl ⟨by rw [ho], by rw [ho]; exact (mA_0 hn4 _ ma), (fr_u fr_0 (by decide) (by decide))⟩
  · have wk := rg_n c413
    refine bf_aload_n r.1 dX9_put_7 rfl ?_
    refine bf_iconst r.1 (v := -1) dX9_put_8 rfl ?_
    refine cl_v r (y2 := mX9_refused) dX9_put_9 li_X9_117 mv_X9_refused rfl (by decide) [.int (-1)] [] rfl (Nat.le_of_ble_eq_true rfl) rfl (c_X9_refused (by omega) D _) ?_
    show J 12 [some (.ref 37), some (.int (k)), some (.int (i)), some (.int (v))] [.int (-1)] (bf_MD (bf_u D 37 0 (nI 0)))
    have ho : ox_put P S Q F T k i v = (-1, (P, S, Q, 0, T)) := by simp only [ox_put, wk, on_n, on_s]
    exact re_i r dX9_put_12 rfl rfl ⟨by rw [ho], by rw [ho]; exact (mA_0 hn4 0 ma), (fr_u fr_0 (by decide) (by decide))⟩
theorem e_X9_cell {d : Nat} (hd : 10 ≤ d) {D : bf_D} {P : bf_Pn} {S : bf_Sh} {Q : bf_Rd} {F : Nat} {T : Int32} (va : vA (P, S, Q, F, T)) (ma : mA D (P, S, Q, F, T)) (k i l : Int32) : bf_Ce d mX9_cell [.ref 37, .int (k), .int (i), .int (l)] D (fun r D' => r = some (.long (ox_cell P S Q F T k i l).1) ∧ mA D' (ox_cell P S Q F T k i l).2 ∧ bf_fr 37 57 D D') := by
  refine bf_Ce_of 9 hd mo_X9_cell (Nat.le_of_ble_eq_true rfl) (fun e he J r => ?_)
  show J 0 [some (.ref 37), some (.int (k)), some (.int (i)), some (.int (l))] [] (bf_MD D)
  obtain ⟨hv, vs, vr, hF⟩ := id va
  obtain ⟨hm, ms, mr, c5, c6⟩ := id ma
  have hn4 := hv.1
  have hx4 := pX_le hv
  have hx0 := pX_pos P
  refine bf_aload_n r.1 dX9_cell_0 rfl ?_
  refine bf_iconst r.1 (v := nI 0) dX9_cell_1 rfl ?_
  refine ip_int r dX9_cell_2 fp_X9_69 rfl (by decide) rfl ?_
  replace ma := mA_0 hn4 0 ma
  obtain ⟨hm, ms, mr, c5, c6⟩ := id ma
  refine bf_iload_n r.1 dX9_cell_5 rfl ?_
  refine cl_s r (y2 := mX9_noSheet) dX9_cell_6 li_X9_113 mv_X9_noSheet [.int (k)] [] rfl (Nat.le_of_ble_eq_true rfl) rfl (c_X9_noSheet (by omega) (bf_u D 37 0 (nI 0)) _) ?_
  show J 9 [some (.ref 37), some (.int (k)), some (.int (i)), some (.int (l))] [.int (if ¬ (0 ≤ k ∧ k < nI 4) then 1 else 0)] (bf_MD (bf_u D 37 0 (nI 0)))
  refine nb_ne r (tgt := 24) dX9_cell_9 (by decide) (fun c417 => ?_) (fun c417 => ?_)
  · have wk := rg_n c417
    refine cl_s r (y2 := mX9_lost) dX9_cell_24 li_X9_73 mv_X9_lost [] [] rfl (Nat.le_of_ble_eq_true rfl) rfl (c_X9_lost (by omega) (bf_u D 37 0 (nI 0))) ?_
    show J 27 [some (.ref 37), some (.int (k)), some (.int (i)), some (.int (l))] [.long (bf_lost)] (bf_MD (bf_u D 37 0 (nI 0)))
    have ho : ox_cell P S Q F T k i l = (bf_lost, (P, S, Q, 0, T)) := by simp only [ox_cell, wk, on_n, on_s]
    exact re_l r dX9_cell_27 rfl ⟨by rw [ho], by rw [ho]; exact ma, (fr_u fr_0 (by decide) (by decide))⟩
  · obtain ⟨k0, hk0, rfl⟩ := rg_in (by decide) (Decidable.not_not.mp c417)
    have wk := rg_s hk0 (by decide)
    have z60k := (vs k0 hk0).2
    refine bf_iload_n r.1 dX9_cell_12 rfl ?_
    refine bf_i2l r.1 dX9_cell_13 ?_
    refine bf_lconst r.1 (v := lN 0) dX9_cell_14 rfl ?_
    refine bf_ldc2 r.1 dX9_cell_15 lc_X9_120 ?_
    refine eq_l (v := lN 2) rfl ?_
    refine cl_s r (y2 := mX9_in) dX9_cell_18 li_X9_80 mv_X9_in [.long (l.toInt64), .long (lN 0), .long (lN 2)] [] rfl (Nat.le_of_ble_eq_true rfl) rfl (c_X9_in32 (by omega) (bf_u D 37 0 (nI 0)) l (h := 2) (m := 3) rfl (by decide)) ?_
    show J 21 [some (.ref 37), some (.int (nI k0)), some (.int (i)), some (.int (l))] [.int (if 0 ≤ l ∧ l < nI 3 then 1 else 0)] (bf_MD (bf_u D 37 0 (nI 0)))
    refine nb_ne r (tgt := 28) dX9_cell_21 (by decide) (fun c418 => ?_) (fun c418 => ?_)
    · obtain ⟨l0, hl0, rfl⟩ := rg_in (by decide) c418
      have wl := rg_s hl0 (by decide)
      refine bf_aload_n r.1 dX9_cell_28 rfl ?_
      refine ig_ref r (b := 53) dX9_cell_29 fl_X9_55 rfl (by decide) rfl ?_
      refine bf_iload_n r.1 dX9_cell_32 rfl ?_
      refine ia_ld r (n := 4) (v := bf_sz (sZ S k0)) dX9_cell_33 rfl (by decide) hk0 ((ms k0 hk0).1) ?_
      refine bf_if_lt r.1 (tgt := 53) dX9_cell_34 (by decide) (fun c419 => ?_) (fun c419 => ?_)
      · have hfo := bf_foc_nc (l := l0) (i := i) z60k (Or.inl ((bf_sz_lt z60k).mp c419))
        refine bf_aload_n r.1 dX9_cell_53 rfl ?_
        refine bf_iload_n r.1 dX9_cell_54 rfl ?_
        refine bf_iload_n r.1 dX9_cell_55 rfl ?_
        refine cl_v r (y2 := mX9_noCell) dX9_cell_56 li_X9_262 mv_X9_noCell rfl (by decide) [.int (nI k0), .int (i)] [] rfl (Nat.le_of_ble_eq_true rfl) rfl (c_X9_noCell (by omega) vs ms hk0 i) ?_
        show J 59 [some (.ref 37), some (.int (nI k0)), some (.int (i)), some (.int (nI l0))] [.int (nI (bf_nc S k0 i))] (bf_MD (bf_u D 37 0 (nI 0)))
        refine nz_le r (tgt := 75) dX9_cell_59 (by decide) (by have := bf_nc_le S k0 i; omega) (fun c420 => ?_) (fun c420 => ?_)
        · obtain ⟨n1, i0, hz1, n60, hi0, hi⟩ := bf_nc_0 z60k c420
          refine bf_aload_n r.1 dX9_cell_75 rfl ?_
          refine ig_ref r (b := 55) dX9_cell_76 fl_X9_61 rfl (by decide) rfl ?_
          refine bf_bipush r.1 (v := nI 60) dX9_cell_79 rfl ?_
          refine bf_iload_n r.1 dX9_cell_81 rfl ?_
          refine na_mul r dX9_cell_82  ?_
          refine bf_iload_n r.1 dX9_cell_83 rfl ?_
          refine eq_i (v := nI i0) hi ?_
          refine na_add r dX9_cell_84  ?_
          refine ia_ld r (n := 240) (v := sC S k0 i0) dX9_cell_85 rfl (by decide) (by omega) ((ms k0 hk0).2.2 n1 hz1 i0 hi0) ?_
          refine bf_i2l r.1 dX9_cell_86 ?_
          have ho := ox_cell_s (P := P) (Q := Q) (F := F) (T := T) (i0 := i0) wk wl (hfo.trans (Nat.le_zero.mp c420)) (by rw [hi]; exact nI_clamp (by omega))
          exact re_l r dX9_cell_87 rfl ⟨by rw [ho], by rw [ho]; exact ma, (fr_u fr_0 (by decide) (by decide))⟩
        · refine bf_aload_n r.1 dX9_cell_62 rfl ?_
          refine bf_aload_n r.1 dX9_cell_63 rfl ?_
          refine bf_iload_n r.1 dX9_cell_64 rfl ?_
          refine bf_iload_n r.1 dX9_cell_65 rfl ?_
          refine cl_v r (y2 := mX9_noCell) dX9_cell_66 li_X9_262 mv_X9_noCell rfl (by decide) [.int (nI k0), .int (i)] [.ref 37] rfl (Nat.le_of_ble_eq_true rfl) rfl (c_X9_noCell (by omega) vs ms hk0 i) ?_
          show J 69 [some (.ref 37), some (.int (nI k0)), some (.int (i)), some (.int (nI l0))] [.int (nI (bf_nc S k0 i)), .ref 37] (bf_MD (bf_u D 37 0 (nI 0)))
          refine cl_v r (y2 := mX9_failedLong) dX9_cell_69 li_X9_265 mv_X9_failedLong rfl (by decide) [.int (nI (bf_nc S k0 i))] [] rfl (Nat.le_of_ble_eq_true rfl) rfl (c_X9_failedLong (by omega) (bf_u D 37 0 (nI 0)) _) ?_
          show J 72 [some (.ref 37), some (.int (nI k0)), some (.int (i)), some (.int (nI l0))] [.long (bf_lost)] (bf_MD (bf_u (bf_u D 37 0 (nI 0)) 37 0 (nI (bf_nc S k0 i))))
          refine bf_goto r.1 (tgt := 87) dX9_cell_72 (by decide) ?_
          have ho := ox_cell_f (P := P) (Q := Q) (F := F) (T := T) wk wl hfo (show ¬ bf_nc S k0 i = 0 by omega)
          exact re_l r dX9_cell_87 rfl ⟨by rw [ho], by rw [ho]; exact (mA_0 hn4 _ ma), (fr_u (fr_u fr_0 (by decide) (by decide)) (by decide) (by decide))⟩
      · obtain ⟨n, hz⟩ := Option.ne_none_iff_exists'.mp (fun q => c419 ((bf_sz_lt z60k).mpr q))
        refine bf_aload_n r.1 dX9_cell_37 rfl ?_
        refine ig_ref r (b := 54) dX9_cell_38 fl_X9_58 rfl (by decide) rfl ?_
        refine bf_iload_n r.1 dX9_cell_41 rfl ?_
        refine ia_ld r (n := 4) (v := nI (sL S k0)) dX9_cell_42 rfl (by decide) hk0 ((ms k0 hk0).2.1) ?_
        refine bf_iload_n r.1 dX9_cell_43 rfl ?_
        refine nc_eq r (tgt := 53) dX9_cell_44 (by decide) (by have := (vs k0 hk0).1; omega) (by omega) (fun c421 => ?_) (fun c421 => ?_)
        · have hfo := bf_foc_nc (l := l0) (i := i) z60k (Or.inr (congrArg nI c421))
          refine bf_aload_n r.1 dX9_cell_53 rfl ?_
          refine bf_iload_n r.1 dX9_cell_54 rfl ?_
          refine bf_iload_n r.1 dX9_cell_55 rfl ?_
          refine cl_v r (y2 := mX9_noCell) dX9_cell_56 li_X9_262 mv_X9_noCell rfl (by decide) [.int (nI k0), .int (i)] [] rfl (Nat.le_of_ble_eq_true rfl) rfl (c_X9_noCell (by omega) vs ms hk0 i) ?_
          show J 59 [some (.ref 37), some (.int (nI k0)), some (.int (i)), some (.int (nI l0))] [.int (nI (bf_nc S k0 i))] (bf_MD (bf_u D 37 0 (nI 0)))
          refine nz_le r (tgt := 75) dX9_cell_59 (by decide) (by have := bf_nc_le S k0 i; omega) (fun c422 => ?_) (fun c422 => ?_)
          · obtain ⟨n1, i0, hz1, n60, hi0, hi⟩ := bf_nc_0 z60k c422
            refine bf_aload_n r.1 dX9_cell_75 rfl ?_
            refine ig_ref r (b := 55) dX9_cell_76 fl_X9_61 rfl (by decide) rfl ?_
            refine bf_bipush r.1 (v := nI 60) dX9_cell_79 rfl ?_
            refine bf_iload_n r.1 dX9_cell_81 rfl ?_
            refine na_mul r dX9_cell_82  ?_
            refine bf_iload_n r.1 dX9_cell_83 rfl ?_
            refine eq_i (v := nI i0) hi ?_
            refine na_add r dX9_cell_84  ?_
            refine ia_ld r (n := 240) (v := sC S k0 i0) dX9_cell_85 rfl (by decide) (by omega) ((ms k0 hk0).2.2 n1 hz1 i0 hi0) ?_
            refine bf_i2l r.1 dX9_cell_86 ?_
            have ho := ox_cell_s (P := P) (Q := Q) (F := F) (T := T) (i0 := i0) wk wl (hfo.trans (Nat.le_zero.mp c422)) (by rw [hi]; exact nI_clamp (by omega))
            exact re_l r dX9_cell_87 rfl ⟨by rw [ho], by rw [ho]; exact ma, (fr_u fr_0 (by decide) (by decide))⟩
          · refine bf_aload_n r.1 dX9_cell_62 rfl ?_
            refine bf_aload_n r.1 dX9_cell_63 rfl ?_
            refine bf_iload_n r.1 dX9_cell_64 rfl ?_
            refine bf_iload_n r.1 dX9_cell_65 rfl ?_
            refine cl_v r (y2 := mX9_noCell) dX9_cell_66 li_X9_262 mv_X9_noCell rfl (by decide) [.int (nI k0), .int (i)] [.ref 37] rfl (Nat.le_of_ble_eq_true rfl) rfl (c_X9_noCell (by omega) vs ms hk0 i) ?_
            show J 69 [some (.ref 37), some (.int (nI k0)), some (.int (i)), some (.int (nI l0))] [.int (nI (bf_nc S k0 i)), .ref 37] (bf_MD (bf_u D 37 0 (nI 0)))
            refine cl_v r (y2 := mX9_failedLong) dX9_cell_69 li_X9_265 mv_X9_failedLong rfl (by decide) [.int (nI (bf_nc S k0 i))] [] rfl (Nat.le_of_ble_eq_true rfl) rfl (c_X9_failedLong (by omega) (bf_u D 37 0 (nI 0)) _) ?_
            show J 72 [some (.ref 37), some (.int (nI k0)), some (.int (i)), some (.int (nI l0))] [.long (bf_lost)] (bf_MD (bf_u (bf_u D 37 0 (nI 0)) 37 0 (nI (bf_nc S k0 i))))
            refine bf_goto r.1 (tgt := 87) dX9_cell_72 (by decide) ?_
            have ho := ox_cell_f (P := P) (Q := Q) (F := F) (T := T) wk wl hfo (show ¬ bf_nc S k0 i = 0 by omega)
            exact re_l r dX9_cell_87 rfl ⟨by rw [ho], by rw [ho]; exact (mA_0 hn4 _ ma), (fr_u (fr_u fr_0 (by decide) (by decide)) (by decide) (by decide))⟩
        · have hfo : bf_foc (sZ S k0) (sL S k0) (nI l0) i (nI 1) = 2 := by rw [hz]; simp only [bf_foc]; rw [if_neg (fun q => c421 ((nI_eq (by have := (vs k0 hk0).1; omega) (by omega)).mp q))]
          refine bf_aload_n r.1 dX9_cell_47 rfl ?_
          refine bf_iconst r.1 (v := nI 2) dX9_cell_48 rfl ?_
          refine cl_v r (y2 := mX9_failedLong) dX9_cell_49 li_X9_265 mv_X9_failedLong rfl (by decide) [.int (nI 2)] [] rfl (Nat.le_of_ble_eq_true rfl) rfl (c_X9_failedLong (by omega) (bf_u D 37 0 (nI 0)) _) ?_
          show J 52 [some (.ref 37), some (.int (nI k0)), some (.int (i)), some (.int (nI l0))] [.long (bf_lost)] (bf_MD (bf_u (bf_u D 37 0 (nI 0)) 37 0 (nI 2)))
          have ho := ox_cell_f (P := P) (Q := Q) (F := F) (T := T) wk wl hfo (show ¬ (2 : Nat) = 0 by decide)
          exact re_l r dX9_cell_52 rfl ⟨by rw [ho], by rw [ho]; exact (mA_0 hn4 _ ma), (fr_u (fr_u fr_0 (by decide) (by decide)) (by decide) (by decide))⟩
    · have wl := rg_n c418
      refine cl_s r (y2 := mX9_lost) dX9_cell_24 li_X9_73 mv_X9_lost [] [] rfl (Nat.le_of_ble_eq_true rfl) rfl (c_X9_lost (by omega) (bf_u D 37 0 (nI 0))) ?_
      show J 27 [some (.ref 37), some (.int (nI k0)), some (.int (i)), some (.int (l))] [.long (bf_lost)] (bf_MD (bf_u D 37 0 (nI 0)))
      have ho : ox_cell P S Q F T (nI k0) i l = (bf_lost, (P, S, Q, 0, T)) := by simp only [ox_cell, wk, wl, on_n, on_s]
      exact re_l r dX9_cell_27 rfl ⟨by rw [ho], by rw [ho]; exact ma, (fr_u fr_0 (by decide) (by decide))⟩
theorem e_X9_copy {d : Nat} (hd : 10 ≤ d) {D : bf_D} {P : bf_Pn} {S : bf_Sh} {Q : bf_Rd} {F : Nat} {T : Int32} (va : vA (P, S, Q, F, T)) (ma : mA D (P, S, Q, F, T)) (k i o j n : Int32) : bf_Ce d mX9_copy [.ref 37, .int (k), .int (i), .int (o), .int (j), .int (n)] D (fun r D' => r = some (.int (ox_copy P S Q F T k i o j n).1) ∧ mA D' (ox_copy P S Q F T k i o j n).2 ∧ bf_fr 37 57 D D') := by
  refine bf_Ce_of 9 hd mo_X9_copy (Nat.le_of_ble_eq_true rfl) (fun e he J r => ?_)
  show J 0 [some (.ref 37), some (.int (k)), some (.int (i)), some (.int (o)), some (.int (j)), some (.int (n)), none] [] (bf_MD D)
  obtain ⟨hv, vs, vr, hF⟩ := id va
  obtain ⟨hm, ms, mr, c5, c6⟩ := id ma
  have hn4 := hv.1
  have hx4 := pX_le hv
  have hx0 := pX_pos P
  refine bf_iload_n r.1 dX9_copy_0 rfl ?_
  refine cl_s r (y2 := mX9_noSheet) dX9_copy_1 li_X9_113 mv_X9_noSheet [.int (k)] [] rfl (Nat.le_of_ble_eq_true rfl) rfl (c_X9_noSheet (by omega) D _) ?_
  show J 4 [some (.ref 37), some (.int (k)), some (.int (i)), some (.int (o)), some (.int (j)), some (.int (n)), none] [.int (if ¬ (0 ≤ k ∧ k < nI 4) then 1 else 0)] (bf_MD D)
  refine nb_ne r (tgt := 14) dX9_copy_4 (by decide) (fun c423 => ?_) (fun c423 => ?_)
  · have wk := rg_n c423
    refine bf_aload_n r.1 dX9_copy_14 rfl ?_
    refine bf_iconst r.1 (v := -1) dX9_copy_15 rfl ?_
    refine cl_v r (y2 := mX9_refused) dX9_copy_16 li_X9_117 mv_X9_refused rfl (by decide) [.int (-1)] [] rfl (Nat.le_of_ble_eq_true rfl) rfl (c_X9_refused (by omega) D _) ?_
    show J 19 [some (.ref 37), some (.int (k)), some (.int (i)), some (.int (o)), some (.int (j)), some (.int (n)), none] [.int (-1)] (bf_MD (bf_u D 37 0 (nI 0)))
    have ho : ox_copy P S Q F T k i o j n = (-1, (P, S, Q, 0, T)) := by simp only [ox_copy, wk, on_n, on_s]
    exact re_i r dX9_copy_19 rfl rfl ⟨by rw [ho], by rw [ho]; exact (mA_0 hn4 0 ma), (fr_u fr_0 (by decide) (by decide))⟩
  · obtain ⟨k0, hk0, rfl⟩ := rg_in (by decide) (Decidable.not_not.mp c423)
    have wk := rg_s hk0 (by decide)
    have z60k := (vs k0 hk0).2
    refine bf_iload_n r.1 dX9_copy_7 rfl ?_
    refine cl_s r (y2 := mX9_noSheet) dX9_copy_8 li_X9_113 mv_X9_noSheet [.int (o)] [] rfl (Nat.le_of_ble_eq_true rfl) rfl (c_X9_noSheet (by omega) D _) ?_
    show J 11 [some (.ref 37), some (.int (nI k0)), some (.int (i)), some (.int (o)), some (.int (j)), some (.int (n)), none] [.int (if ¬ (0 ≤ o ∧ o < nI 4) then 1 else 0)] (bf_MD D)
    refine nb_eq r (tgt := 20) dX9_copy_11 (by decide) (fun c424 => ?_) (fun c424 => ?_)
    · obtain ⟨o0, ho0, rfl⟩ := rg_in (by decide) (Decidable.not_not.mp c424)
      have wo := rg_s ho0 (by decide)
      have z60o := (vs o0 ho0).2
      refine bf_aload_n r.1 dX9_copy_20 rfl ?_
      refine ig_ref r (b := 53) dX9_copy_21 fl_X9_55 rfl (by decide) rfl ?_
      refine bf_iload_n r.1 dX9_copy_24 rfl ?_
      refine ia_ld r (n := 4) (v := bf_sz (sZ S k0)) dX9_copy_25 rfl (by decide) hk0 ((ms k0 hk0).1) ?_
      refine bf_if_lt r.1 (tgt := 38) dX9_copy_26 (by decide) (fun c425 => ?_) (fun c425 => ?_)
      · have hz0 := (bf_sz_lt z60k).mp c425
        refine bf_aload_n r.1 dX9_copy_38 rfl ?_
        refine bf_iconst r.1 (v := nI 1) dX9_copy_39 rfl ?_
        refine cl_v r (y2 := mX9_failed) dX9_copy_40 li_X9_105 mv_X9_failed rfl (by decide) [.int (nI 1)] [] rfl (Nat.le_of_ble_eq_true rfl) rfl (c_X9_failed (by omega) D _) ?_
        show J 43 [some (.ref 37), some (.int (nI k0)), some (.int (i)), some (.int (nI o0)), some (.int (j)), some (.int (n)), none] [.int (-10 - nI 1)] (bf_MD (bf_u D 37 0 (nI 1)))
        have ho : ox_copy P S Q F T (nI k0) i (nI o0) j n = (-10 - nI 1, (P, S, Q, 1, T)) := by simp only [ox_copy, wk, wo, hz0, on_n, on_s]
        exact re_i r dX9_copy_43 rfl rfl ⟨by rw [ho], by rw [ho]; exact (mA_0 hn4 1 ma), (fr_u fr_0 (by decide) (by decide))⟩
      · obtain ⟨z, hz⟩ := Option.ne_none_iff_exists'.mp (fun q => c425 ((bf_sz_lt z60k).mpr q))
        have z60 := z60k z hz
        refine bf_aload_n r.1 dX9_copy_29 rfl ?_
        refine ig_ref r (b := 53) dX9_copy_30 fl_X9_55 rfl (by decide) rfl ?_
        refine bf_iload_n r.1 dX9_copy_33 rfl ?_
        refine ia_ld r (n := 4) (v := bf_sz (sZ S o0)) dX9_copy_34 rfl (by decide) ho0 ((ms o0 ho0).1) ?_
        refine bf_if_ge r.1 (tgt := 44) dX9_copy_35 (by decide) (fun c426 => ?_) (fun c426 => ?_)
        · obtain ⟨z2, hz2⟩ := Option.ne_none_iff_exists'.mp (fun q => Int32.not_lt.mpr c426 ((bf_sz_lt z60o).mpr q))
          have z260 := z60o z2 hz2
          refine bf_aload_n r.1 dX9_copy_44 rfl ?_
          refine ig_ref r (b := 54) dX9_copy_45 fl_X9_58 rfl (by decide) rfl ?_
          refine bf_iload_n r.1 dX9_copy_48 rfl ?_
          refine ia_ld r (n := 4) (v := nI (sL S k0)) dX9_copy_49 rfl (by decide) hk0 ((ms k0 hk0).2.1) ?_
          refine bf_aload_n r.1 dX9_copy_50 rfl ?_
          refine ig_ref r (b := 54) dX9_copy_51 fl_X9_58 rfl (by decide) rfl ?_
          refine bf_iload_n r.1 dX9_copy_54 rfl ?_
          refine ia_ld r (n := 4) (v := nI (sL S o0)) dX9_copy_55 rfl (by decide) ho0 ((ms o0 ho0).2.1) ?_
          refine nc_eq r (tgt := 65) dX9_copy_56 (by decide) (by have := (vs k0 hk0).1; omega) (by have := (vs o0 ho0).1; omega) (fun c427 => ?_) (fun c427 => ?_)
          · refine bf_iload_n r.1 dX9_copy_65 rfl ?_
            refine bf_iload r.1 dX9_copy_66 rfl ?_
            refine bf_i2l r.1 dX9_copy_68 ?_
            refine bf_aload_n r.1 dX9_copy_69 rfl ?_
            refine ig_ref r (b := 53) dX9_copy_70 fl_X9_55 rfl (by decide) rfl ?_
            refine bf_iload_n r.1 dX9_copy_73 rfl ?_
            refine ia_ld r (n := 4) (v := nI z) dX9_copy_74 rfl (by decide) hk0 ((ms k0 hk0).1.trans (by rw [hz]; rfl)) ?_
            refine cl_s r (y2 := mX9_isBeyond) dX9_copy_75 li_X9_109 mv_X9_isBeyond [.int (i), .long (n.toInt64), .int (nI z)] [] rfl (Nat.le_of_ble_eq_true rfl) rfl (c_X9_isBeyond (by omega) D i n (by omega)) ?_
            show J 78 [some (.ref 37), some (.int (nI k0)), some (.int (i)), some (.int (nI o0)), some (.int (j)), some (.int (n)), none] [.int (if ¬ (0 ≤ (i).toInt ∧ 0 ≤ n.toInt ∧ (i).toInt + n.toInt ≤ z) then 1 else 0)] (bf_MD D)
            refine nb_ne r (tgt := 98) dX9_copy_78 (by decide) (fun c428 => ?_) (fun c428 => ?_)
            · refine bf_aload_n r.1 dX9_copy_98 rfl ?_
              refine bf_iconst r.1 (v := nI 3) dX9_copy_99 rfl ?_
              refine cl_v r (y2 := mX9_failed) dX9_copy_100 li_X9_105 mv_X9_failed rfl (by decide) [.int (nI 3)] [] rfl (Nat.le_of_ble_eq_true rfl) rfl (c_X9_failed (by omega) D _) ?_
              show J 103 [some (.ref 37), some (.int (nI k0)), some (.int (i)), some (.int (nI o0)), some (.int (j)), some (.int (n)), none] [.int (-10 - nI 3)] (bf_MD (bf_u D 37 0 (nI 3)))
              have ho : ox_copy P S Q F T (nI k0) i (nI o0) j n = (-10 - nI 3, (P, S, Q, 3, T)) := by simp only [ox_copy, wk, wo, hz, hz2, if_pos c427, if_neg c428, on_n, on_s]
              exact re_i r dX9_copy_103 rfl rfl ⟨by rw [ho], by rw [ho]; exact (mA_0 hn4 3 ma), (fr_u fr_0 (by decide) (by decide))⟩
            · have hb1 := Decidable.not_not.mp c428
              refine bf_iload r.1 dX9_copy_81 rfl ?_
              refine bf_iload r.1 dX9_copy_83 rfl ?_
              refine bf_i2l r.1 dX9_copy_85 ?_
              refine bf_aload_n r.1 dX9_copy_86 rfl ?_
              refine ig_ref r (b := 53) dX9_copy_87 fl_X9_55 rfl (by decide) rfl ?_
              refine bf_iload_n r.1 dX9_copy_90 rfl ?_
              refine ia_ld r (n := 4) (v := nI z2) dX9_copy_91 rfl (by decide) ho0 ((ms o0 ho0).1.trans (by rw [hz2]; rfl)) ?_
              refine cl_s r (y2 := mX9_isBeyond) dX9_copy_92 li_X9_109 mv_X9_isBeyond [.int (j), .long (n.toInt64), .int (nI z2)] [] rfl (Nat.le_of_ble_eq_true rfl) rfl (c_X9_isBeyond (by omega) D j n (by omega)) ?_
              show J 95 [some (.ref 37), some (.int (nI k0)), some (.int (i)), some (.int (nI o0)), some (.int (j)), some (.int (n)), none] [.int (if ¬ (0 ≤ (j).toInt ∧ 0 ≤ n.toInt ∧ (j).toInt + n.toInt ≤ z2) then 1 else 0)] (bf_MD D)
              refine nb_eq r (tgt := 104) dX9_copy_95 (by decide) (fun c429 => ?_) (fun c429 => ?_)
              · have hb2 := Decidable.not_not.mp c429
                obtain ⟨i0, hi31, rfl⟩ := nI_of (x := i) (Int32.not_lt.mpr ((bf_le0 i).mpr hb1.1))
                have ti := nI_toInt hi31
                have ci := nI_clamp hi31
                obtain ⟨j0, hj31, rfl⟩ := nI_of (x := j) (Int32.not_lt.mpr ((bf_le0 j).mpr hb2.1))
                have tj := nI_toInt hj31
                have cj := nI_clamp hj31
                obtain ⟨n0, hn31, rfl⟩ := nI_of (x := n) (Int32.not_lt.mpr ((bf_le0 n).mpr hb2.2.1))
                have tn := nI_toInt hn31
                have cn := nI_clamp hn31
                have q1 : i0 + n0 ≤ z := by have := hb1.2.2; omega
                have q2 : j0 + n0 ≤ z2 := by have := hb2.2.2; omega
                refine bf_iconst r.1 (v := nI 0) dX9_copy_104 rfl ?_
                refine bf_istore r.1 (L2 := [some (.ref 37), some (.int (nI k0)), some (.int (nI i0)), some (.int (nI o0)), some (.int (nI j0)), some (.int (nI n0)), some (.int (nI 0))]) dX9_copy_105 rfl ?_
                have lo : ∀ t : Nat, t ≤ n0 → ∀ D2 : bf_D, (∀ a q, a ≠ 56 → D2 a q = D a q) → (∀ b, b < t → D2 56 b = D 55 (60 * k0 + i0 + b)) → J 107 [some (.ref 37), some (.int (nI k0)), some (.int (nI i0)), some (.int (nI o0)), some (.int (nI j0)), some (.int (nI n0)), some (.int (nI t))] [] (bf_MD D2) := by
                  refine bf_down (fun t hle ih => ?_)
                  intro D2 hO hI
                  refine bf_iload r.1 dX9_copy_107 rfl ?_
                  refine bf_iload r.1 dX9_copy_109 rfl ?_
                  refine nc_ge r (tgt := 141) dX9_copy_111 (by decide) (by omega) hn31 (fun c430 => ?_) (fun c430 => ?_)
                  · have et : t = n0 := by omega
                    refine bf_iconst r.1 (v := nI 0) dX9_copy_141 rfl ?_
                    refine bf_istore r.1 (L2 := [some (.ref 37), some (.int (nI k0)), some (.int (nI i0)), some (.int (nI o0)), some (.int (nI j0)), some (.int (nI n0)), some (.int (nI 0))]) dX9_copy_142 rfl ?_
                    have lo2 : ∀ s : Nat, s ≤ n0 → ∀ D3 : bf_D, (∀ a q, (a ≠ 55 ∨ q < 60 * o0 + j0 ∨ 60 * o0 + j0 + s ≤ q) → D3 a q = D2 a q) → (∀ b, b < s → D3 55 (60 * o0 + j0 + b) = D2 56 b) → J 144 [some (.ref 37), some (.int (nI k0)), some (.int (nI i0)), some (.int (nI o0)), some (.int (nI j0)), some (.int (nI n0)), some (.int (nI s))] [] (bf_MD D3) := by
                      refine bf_down (fun s hle2 ih => ?_)
                      intro D3 hO3 hI3
                      refine bf_iload r.1 dX9_copy_144 rfl ?_
                      refine bf_iload r.1 dX9_copy_146 rfl ?_
                      refine nc_ge r (tgt := 179) dX9_copy_148 (by decide) (by omega) hn31 (fun c431 => ?_) (fun c431 => ?_)
                      · have es : s = n0 := by omega
                        refine bf_aload_n r.1 dX9_copy_179 rfl ?_
                        refine bf_iload r.1 dX9_copy_180 rfl ?_
                        refine cl_v r (y2 := mX9_refused) dX9_copy_182 li_X9_117 mv_X9_refused rfl (by decide) [.int (nI n0)] [] rfl (Nat.le_of_ble_eq_true rfl) rfl (c_X9_refused (by omega) D3 _) ?_
                        show J 185 [some (.ref 37), some (.int (nI k0)), some (.int (nI i0)), some (.int (nI o0)), some (.int (nI j0)), some (.int (nI n0)), some (.int (nI s))] [.int (nI n0)] (bf_MD (bf_u D3 37 0 (nI 0)))
                        subst et
                        have et2 : s = t := es
                        subst et2
                        have ho : ox_copy P S Q F T (nI k0) (nI i0) (nI o0) (nI j0) (nI s) = (nI s, (P, sPut S o0 (some z2) (sL S o0) (va_cpy (sC S k0) (sC S o0) i0 j0 s), Q, 0, T)) := by simp only [ox_copy, wk, wo, hz, hz2, if_pos c427, if_pos hb1, if_pos hb2, ci, cj, cn, on_n, on_s]
                        exact re_i r dX9_copy_185 rfl rfl ⟨by rw [ho], by rw [ho]; exact (mA_0 hn4 0 (mA_S hn4 ma (mS_cp vs hk0 ho0 hz hz2 q1 q2 ms (fun a q h => (hO3 a q (by omega)).trans (hO a q (by omega))) (fun b hb => (hI3 b hb).trans (hI b hb))) (fun a q h => (hO3 a q (by omega)).trans (hO a q (by omega))))), (fr_u (fun a q h => (hO3 a q (by omega)).trans (hO a q (by omega))) (by decide) (by decide))⟩
                      · refine bf_aload_n r.1 dX9_copy_151 rfl ?_
                        refine ig_ref r (b := 55) dX9_copy_152 fl_X9_61 rfl (by decide) rfl ?_
                        refine bf_bipush r.1 (v := nI 60) dX9_copy_155 rfl ?_
                        refine bf_iload_n r.1 dX9_copy_157 rfl ?_
                        refine na_mul r dX9_copy_158  ?_
                        refine bf_iload r.1 dX9_copy_159 rfl ?_
                        refine na_add r dX9_copy_161  ?_
                        refine bf_iload r.1 dX9_copy_162 rfl ?_
                        refine na_add r dX9_copy_164  ?_
                        refine bf_aload_n r.1 dX9_copy_165 rfl ?_
                        refine ig_ref r (b := 56) dX9_copy_166 fl_X9_64 rfl (by decide) rfl ?_
                        refine bf_iload r.1 dX9_copy_169 rfl ?_
                        refine ia_ld r (n := 60) (v := D3 56 s) dX9_copy_171 rfl (by decide) (by omega) rfl ?_
                        refine ia_st r (n := 240) dX9_copy_172 rfl (by decide) (by omega) ?_
                        refine na_inc r (v := s + 1) (L2 := [some (.ref 37), some (.int (nI k0)), some (.int (nI i0)), some (.int (nI o0)), some (.int (nI j0)), some (.int (nI n0)), some (.int (nI (s + 1)))]) dX9_copy_173 rfl (nI_add _ 1) rfl ?_
                        refine bf_goto r.1 (tgt := 144) dX9_copy_176 (by decide) ?_
                        refine ih (by omega) _ (fun a q h => (bf_un (by omega)).trans (hO3 a q (by omega))) (fun b hb => ?_)
                        by_cases eb : b = s
                        · subst eb; rw [bf_us]; exact hO3 _ _ (by omega)
                        · rw [bf_un (by omega)]; exact hI3 b (by omega)
                    exact lo2 0 (Nat.zero_le _) D2 (fun _ _ _ => rfl) (fun b hb => absurd hb (Nat.not_lt_zero _))
                  · refine bf_aload_n r.1 dX9_copy_114 rfl ?_
                    refine ig_ref r (b := 56) dX9_copy_115 fl_X9_64 rfl (by decide) rfl ?_
                    refine bf_iload r.1 dX9_copy_118 rfl ?_
                    refine bf_aload_n r.1 dX9_copy_120 rfl ?_
                    refine ig_ref r (b := 55) dX9_copy_121 fl_X9_61 rfl (by decide) rfl ?_
                    refine bf_bipush r.1 (v := nI 60) dX9_copy_124 rfl ?_
                    refine bf_iload_n r.1 dX9_copy_126 rfl ?_
                    refine na_mul r dX9_copy_127  ?_
                    refine bf_iload_n r.1 dX9_copy_128 rfl ?_
                    refine na_add r dX9_copy_129  ?_
                    refine bf_iload r.1 dX9_copy_130 rfl ?_
                    refine na_add r dX9_copy_132  ?_
                    refine ia_ld r (n := 240) (v := D2 55 (60 * k0 + i0 + t)) dX9_copy_133 rfl (by decide) (by omega) rfl ?_
                    refine ia_st r (n := 60) dX9_copy_134 rfl (by decide) (by omega) ?_
                    refine na_inc r (v := t + 1) (L2 := [some (.ref 37), some (.int (nI k0)), some (.int (nI i0)), some (.int (nI o0)), some (.int (nI j0)), some (.int (nI n0)), some (.int (nI (t + 1)))]) dX9_copy_135 rfl (nI_add _ 1) rfl ?_
                    refine bf_goto r.1 (tgt := 107) dX9_copy_138 (by decide) ?_
                    refine ih (by omega) _ (fun a q h => (bf_un (Or.inl h)).trans (hO a q h)) (fun b hb => ?_)
                    by_cases eb : b = t
                    · subst eb; rw [bf_us]; exact hO _ _ (by decide)
                    · rw [bf_un (by omega)]; exact hI b (by omega)
                exact lo 0 (Nat.zero_le _) D (fun _ _ _ => rfl) (fun b hb => absurd hb (Nat.not_lt_zero _))
              · refine bf_aload_n r.1 dX9_copy_98 rfl ?_
                refine bf_iconst r.1 (v := nI 3) dX9_copy_99 rfl ?_
                refine cl_v r (y2 := mX9_failed) dX9_copy_100 li_X9_105 mv_X9_failed rfl (by decide) [.int (nI 3)] [] rfl (Nat.le_of_ble_eq_true rfl) rfl (c_X9_failed (by omega) D _) ?_
                show J 103 [some (.ref 37), some (.int (nI k0)), some (.int (i)), some (.int (nI o0)), some (.int (j)), some (.int (n)), none] [.int (-10 - nI 3)] (bf_MD (bf_u D 37 0 (nI 3)))
                have ho : ox_copy P S Q F T (nI k0) i (nI o0) j n = (-10 - nI 3, (P, S, Q, 3, T)) := by simp only [ox_copy, wk, wo, hz, hz2, if_pos c427, if_pos hb1, if_neg c429, on_n, on_s]
                exact re_i r dX9_copy_103 rfl rfl ⟨by rw [ho], by rw [ho]; exact (mA_0 hn4 3 ma), (fr_u fr_0 (by decide) (by decide))⟩
          · refine bf_aload_n r.1 dX9_copy_59 rfl ?_
            refine bf_iconst r.1 (v := nI 2) dX9_copy_60 rfl ?_
            refine cl_v r (y2 := mX9_failed) dX9_copy_61 li_X9_105 mv_X9_failed rfl (by decide) [.int (nI 2)] [] rfl (Nat.le_of_ble_eq_true rfl) rfl (c_X9_failed (by omega) D _) ?_
            show J 64 [some (.ref 37), some (.int (nI k0)), some (.int (i)), some (.int (nI o0)), some (.int (j)), some (.int (n)), none] [.int (-10 - nI 2)] (bf_MD (bf_u D 37 0 (nI 2)))
            have ho : ox_copy P S Q F T (nI k0) i (nI o0) j n = (-10 - nI 2, (P, S, Q, 2, T)) := by simp only [ox_copy, wk, wo, hz, hz2, if_neg c427, on_n, on_s]
            exact re_i r dX9_copy_64 rfl rfl ⟨by rw [ho], by rw [ho]; exact (mA_0 hn4 2 ma), (fr_u fr_0 (by decide) (by decide))⟩
        · have hz0 := (bf_sz_lt z60o).mp (Int32.not_le.mp c426)
          refine bf_aload_n r.1 dX9_copy_38 rfl ?_
          refine bf_iconst r.1 (v := nI 1) dX9_copy_39 rfl ?_
          refine cl_v r (y2 := mX9_failed) dX9_copy_40 li_X9_105 mv_X9_failed rfl (by decide) [.int (nI 1)] [] rfl (Nat.le_of_ble_eq_true rfl) rfl (c_X9_failed (by omega) D _) ?_
          show J 43 [some (.ref 37), some (.int (nI k0)), some (.int (i)), some (.int (nI o0)), some (.int (j)), some (.int (n)), none] [.int (-10 - nI 1)] (bf_MD (bf_u D 37 0 (nI 1)))
          have ho : ox_copy P S Q F T (nI k0) i (nI o0) j n = (-10 - nI 1, (P, S, Q, 1, T)) := by simp only [ox_copy, wk, wo, hz, hz0, on_n, on_s]
          exact re_i r dX9_copy_43 rfl rfl ⟨by rw [ho], by rw [ho]; exact (mA_0 hn4 1 ma), (fr_u fr_0 (by decide) (by decide))⟩
    · have wo := rg_n c424
      refine bf_aload_n r.1 dX9_copy_14 rfl ?_
      refine bf_iconst r.1 (v := -1) dX9_copy_15 rfl ?_
      refine cl_v r (y2 := mX9_refused) dX9_copy_16 li_X9_117 mv_X9_refused rfl (by decide) [.int (-1)] [] rfl (Nat.le_of_ble_eq_true rfl) rfl (c_X9_refused (by omega) D _) ?_
      show J 19 [some (.ref 37), some (.int (nI k0)), some (.int (i)), some (.int (o)), some (.int (j)), some (.int (n)), none] [.int (-1)] (bf_MD (bf_u D 37 0 (nI 0)))
      have ho : ox_copy P S Q F T (nI k0) i o j n = (-1, (P, S, Q, 0, T)) := by simp only [ox_copy, wk, wo, on_n, on_s]
      exact re_i r dX9_copy_19 rfl rfl ⟨by rw [ho], by rw [ho]; exact (mA_0 hn4 0 ma), (fr_u fr_0 (by decide) (by decide))⟩
