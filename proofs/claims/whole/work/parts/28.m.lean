theorem rg_le {n : Int32} {m : Nat} (h0 : 0 ≤ n) (h : n ≤ nI m) (hm : m < 2 ^ 31) : ∃ j, j < m + 1 ∧ n = nI j := by
  obtain ⟨j, hj, rfl⟩ := nI_of (Int32.not_lt.mpr h0)
  exact ⟨j, Nat.lt_succ_of_le ((nI_leI hj hm).mp h), rfl⟩
theorem rg_hi {n : Int32} {m : Nat} (h : ¬ n ≤ nI m) (hm : m + 1 < 2 ^ 31) : bf_rg n (m + 1) = none := by
  refine rg_n (fun q => h ?_)
  obtain ⟨j, hj, rfl⟩ := rg_in hm q
  exact (nI_leI (by omega) (by omega)).mpr (by omega)
theorem rg_lo {n : Int32} {m : Nat} (h : ¬ 0 ≤ n) : bf_rg n m = none := rg_n (fun q => h q.1)
theorem rg_lt {n : Int32} {m : Nat} (h : n < 0) : bf_rg n m = none := rg_n (fun q => Int32.not_lt.mpr q.1 h)
theorem hc1 {i : Int32} {n : Nat} (hn : n ≤ 60) : (0 ≤ i.toInt ∧ 0 ≤ (nI 1).toInt ∧ i.toInt + (nI 1).toInt ≤ n) ↔ (0 ≤ i ∧ i < nI n) := by
  rw [bf_le0, bf_ltN (by omega), nI_toInt (by decide)]
  omega
theorem cR_bk {D : bf_D} {Q : bf_Rd} {m : Nat} (hm : m ≤ rN Q) (h : cR D Q) : cR (bf_u D 18 3 (nI m)) (m, Q.2) := ⟨bf_us, fun i hi => by
  have h9 : i < m := hi
  have h2 := h.2 i (by omega)
  exact ⟨(bf_un (by omega)).trans h2.1, (bf_un (by omega)).trans h2.2.1, (bf_un (by omega)).trans h2.2.2⟩⟩
theorem fr_sD {D : bf_D} {k l n : Nat} (hk : k < 4) : bf_fr 29 37 D (bf_sD D k l n) := bf_fr_fd (fr_u (fr_u fr_0 (by omega) (by omega)) (by omega) (by omega)) (by omega)
theorem cS_sD {D : bf_D} {S : bf_Sh} {k l n : Nat} (hn : n ≤ 60) (h : cS D S) : cS (bf_sD D k l n) (sPut S k (some n) l (fun _ => nI 0)) := by
  refine cS_put h (fun a j _ h1 h2 => (bf_fd_out (Or.inl h2)).trans ((bf_un (Or.inl h1)).trans (bf_un (Or.inl h1)))) ?_ ?_ (fun m hm i hi => ?_)
  · exact (bf_fd_out (Or.inl (by omega))).trans bf_us
  · exact (bf_fd_out (Or.inl (by omega))).trans ((bf_un (by omega)).trans bf_us)
  · cases hm; exact bf_fd_in (by omega)
theorem cS_ls {D : bf_D} {S : bf_Sh} {k : Nat} (hk : k < 4) (h : cS D S) : cS (bf_u D (29 + 2 * k) 1 (-1)) (sPut S k none (sL S k) (sC S k)) := by
  refine cS_put h (fun a j _ h1 h2 => bf_un (Or.inl h1)) bf_us ((bf_un (by omega)).trans (h k hk).2.1) (fun m hm i hi => by cases hm)
theorem cS_pt {D : bf_D} {S : bf_Sh} {k n i : Nat} {v : Int32} (hk : k < 4) (hz : sZ S k = some n) (h : cS D S) : cS (bf_u D (30 + 2 * k) i v) (sPut S k (some n) (sL S k) (fun j => if j = i then v else sC S k j)) := by
  refine cS_put h (fun a j _ h1 h2 => bf_un (Or.inl h2)) ((bf_un (by omega)).trans (cS_n h hk hz)) ((bf_un (by omega)).trans (h k hk).2.1) (fun m hm t ht => ?_)
  cases hm
  by_cases e : t = i
  · subst e; rw [bf_us, if_pos rfl]
  · rw [if_neg e, bf_un (by omega)]; exact cS_c h hk hz ht
theorem cS_cp {D : bf_D} {S : bf_Sh} {k o z z2 i j m : Nat} (hk : k < 4) (ho : o < 4) (hz : sZ S k = some z) (hz2 : sZ S o = some z2) (h1 : i + m ≤ z) (h : cS D S) : cS (bf_cpD D (30 + 2 * k) (30 + 2 * o) i j m) (sPut S o (some z2) (sL S o) (va_cpy (sC S k) (sC S o) i j m)) := by
  refine cS_put h (fun a j _ h1 h2 => if_neg h2) ((if_neg (by omega)).trans (cS_n h ho hz2)) ((if_neg (by omega)).trans (h o ho).2.1) (fun q hq t ht => ?_)
  cases hq
  unfold bf_cpD va_cpy
  rw [if_pos rfl]
  by_cases e : j ≤ t ∧ t < j + m
  · rw [if_pos e, if_pos e]; exact cS_c h hk hz (by omega)
  · rw [if_neg e, if_neg e]; exact cS_c h ho hz2 ht
theorem fr_cp {D : bf_D} {a o i j m : Nat} (ho : o < 4) : bf_fr 29 37 D (bf_cpD D a (30 + 2 * o) i j m) := fun b t hb => if_neg (by omega)
theorem fr_29 {D D1 D2 : bf_D} (h : bf_fr 0 37 D D1) (h2 : bf_fr 29 37 D1 D2) : bf_fr 0 37 D D2 := fr_t h (fr_w h2 (by decide) (by decide))
theorem e_X8_reading {d : Nat} (hd : 10 ≤ d) {D : bf_D} {P : bf_Pn} {S : bf_Sh} {Q : bf_Rd} {F : Nat} {T : Int32} (va : vA (P, S, Q, F, T)) (ca : cA D (P, S, Q, F, T)) (k x s : Int32) : bf_Ce d mX8_reading [.ref 0, .int (k), .int (x), .int (s)] D (fun r D' => r = some (.int (ox_reading P S Q F T k x s).1) ∧ cA D' (ox_reading P S Q F T k x s).2 ∧ bf_fr 0 37 D D') := by
  refine bf_Ce_of 9 hd mo_X8_reading (Nat.le_of_ble_eq_true rfl) (fun e he J r => ?_)
  show J 0 [some (.ref 0), some (.int (k)), some (.int (x)), some (.int (s))] [] (bf_MD D)
  obtain ⟨hv, vs, vr, hF⟩ := id va
  obtain ⟨hc, cs, cr, c5, c6⟩ := id ca
  have hn4 := hv.1
  have hx4 := pX_le hv
  have hx0 := pX_pos P
  refine bf_aload_n r.1 dX8_reading_0 rfl ?_
  refine bf_iload_n r.1 dX8_reading_1 rfl ?_
  refine cl_v r (y2 := mX8_isPlace) dX8_reading_2 li_X8_76 mv_X8_isPlace rfl (by decide) [.int (k)] [] rfl (Nat.le_of_ble_eq_true rfl) rfl (c_X8_isPlace (by omega) hv hc _) ?_
  show J 5 [some (.ref 0), some (.int (k)), some (.int (x)), some (.int (s))] [.int (if 0 ≤ k ∧ k < nI (pN P) then 1 else 0)] (bf_MD D)
  refine nb_ne r (tgt := 10) dX8_reading_5 (by decide) (fun c215 => ?_) (fun c215 => ?_)
  · obtain ⟨k0, hk0, rfl⟩ := rg_in (by omega) c215
    have wk := rg_s hk0 (by omega)
    refine bf_iload_n r.1 dX8_reading_10 rfl ?_
    refine bf_bipush r.1 (v := nI 10) dX8_reading_11 rfl ?_
    refine cl_s r (y2 := mX8_isWithin) dX8_reading_13 li_X8_50 mv_X8_isWithin [.int (x), .int (nI 10)] [] rfl (Nat.le_of_ble_eq_true rfl) rfl (c_X8_isWithin (by omega) D _ _) ?_
    show J 16 [some (.ref 0), some (.int (nI k0)), some (.int (x)), some (.int (s))] [.int (if 0 ≤ x ∧ x < nI 10 then 1 else 0)] (bf_MD D)
    refine nb_eq r (tgt := 29) dX8_reading_16 (by decide) (fun c216 => ?_) (fun c216 => ?_)
    · have wx := rg_n c216
      refine bf_bipush r.1 (v := -2) dX8_reading_29 rfl ?_
      have ho : ox_reading P S Q F T (nI k0) x s = (-2, (P, S, Q, F, T)) := by simp only [ox_reading, wk, wx, on_n, on_s]
      exact re_i r dX8_reading_31 rfl rfl ⟨by rw [ho], by rw [ho]; exact ca, fr_0⟩
    · obtain ⟨x0, hx0, rfl⟩ := rg_in (by decide) c216
      have wx := rg_s hx0 (by decide)
      refine bf_iload_n r.1 dX8_reading_19 rfl ?_
      refine bf_sipush r.1 (v := nI 128) dX8_reading_20 rfl ?_
      refine cl_s r (y2 := mX8_isWithin) dX8_reading_23 li_X8_50 mv_X8_isWithin [.int (s), .int (nI 128)] [] rfl (Nat.le_of_ble_eq_true rfl) rfl (c_X8_isWithin (by omega) D _ _) ?_
      show J 26 [some (.ref 0), some (.int (nI k0)), some (.int (nI x0)), some (.int (s))] [.int (if 0 ≤ s ∧ s < nI 128 then 1 else 0)] (bf_MD D)
      refine nb_ne r (tgt := 32) dX8_reading_26 (by decide) (fun c217 => ?_) (fun c217 => ?_)
      · obtain ⟨s0, hs0, rfl⟩ := rg_in (by decide) c217
        have ws := rg_s hs0 (by decide)
        by_cases h8 : rN Q = 8
        · refine bf_aload_n r.1 dX8_reading_32 rfl ?_
          refine ig_ref r (b := 18) dX8_reading_33 fl_X8_27 rfl (by decide) rfl ?_
          refine bf_iload_n r.1 dX8_reading_36 rfl ?_
          refine bf_iload_n r.1 dX8_reading_37 rfl ?_
          refine bf_iload_n r.1 dX8_reading_38 rfl ?_
          refine cl_v r (y2 := mX4_add) dX8_reading_39 li_X8_188 mv_X4_add rfl (by decide) [.int (nI k0), .int (nI x0), .int (nI s0)] [] rfl (Nat.le_of_ble_eq_true rfl) rfl (c_X4_addF (by omega) cr h8 (k := k0) (x := x0) (s := s0)) ?_
          show J 42 [some (.ref 0), some (.int (nI k0)), some (.int (nI x0)), some (.int (nI s0))] [.int (-4)] (bf_MD D)
          have ho : ox_reading P S Q F T (nI k0) (nI x0) (nI s0) = (-4, (P, S, Q, F, T)) := by simp only [ox_reading, wk, wx, ws, if_pos h8, on_n, on_s]
          exact re_i r dX8_reading_42 rfl rfl ⟨by rw [ho], by rw [ho]; exact ca, fr_0⟩
        · refine bf_aload_n r.1 dX8_reading_32 rfl ?_
          refine ig_ref r (b := 18) dX8_reading_33 fl_X8_27 rfl (by decide) rfl ?_
          refine bf_iload_n r.1 dX8_reading_36 rfl ?_
          refine bf_iload_n r.1 dX8_reading_37 rfl ?_
          refine bf_iload_n r.1 dX8_reading_38 rfl ?_
          refine cl_v r (y2 := mX4_add) dX8_reading_39 li_X8_188 mv_X4_add rfl (by decide) [.int (nI k0), .int (nI x0), .int (nI s0)] [] rfl (Nat.le_of_ble_eq_true rfl) rfl (c_X4_add (by omega) cr (by have := vr.1; omega) (k := k0) (x := x0) (s := s0)) ?_
          show J 42 [some (.ref 0), some (.int (nI k0)), some (.int (nI x0)), some (.int (nI s0))] [.int (nI (rN Q))] (bf_MD (bf_aD D (rN Q) k0 x0 s0))
          have ho : ox_reading P S Q F T (nI k0) (nI x0) (nI s0) = (nI (rN Q), (P, S, rAdd Q k0 x0 s0, F, T)) := by simp only [ox_reading, wk, wx, ws, if_neg h8, on_n, on_s]
          exact re_i r dX8_reading_42 rfl rfl ⟨by rw [ho], by rw [ho]; exact (cA_R hn4 ca (cR_add cr) fr_add), (fr_w fr_add (by decide) (by decide))⟩
      · have ws := rg_n c217
        refine bf_bipush r.1 (v := -2) dX8_reading_29 rfl ?_
        have ho : ox_reading P S Q F T (nI k0) (nI x0) s = (-2, (P, S, Q, F, T)) := by simp only [ox_reading, wk, wx, ws, on_n, on_s]
        exact re_i r dX8_reading_31 rfl rfl ⟨by rw [ho], by rw [ho]; exact ca, fr_0⟩
  · have wk := rg_n c215
    refine bf_iconst r.1 (v := -1) dX8_reading_8 rfl ?_
    have ho : ox_reading P S Q F T k x s = (-1, (P, S, Q, F, T)) := by simp only [ox_reading, wk, on_n, on_s]
    exact re_i r dX8_reading_9 rfl rfl ⟨by rw [ho], by rw [ho]; exact ca, fr_0⟩
theorem e_X8_back {d : Nat} (hd : 10 ≤ d) {D : bf_D} {P : bf_Pn} {S : bf_Sh} {Q : bf_Rd} {F : Nat} {T : Int32} (va : vA (P, S, Q, F, T)) (ca : cA D (P, S, Q, F, T)) (k : Int32) : bf_Ce d mX8_back [.ref 0, .int (k)] D (fun r D' => r = some (.int (ox_back P S Q F T k).1) ∧ cA D' (ox_back P S Q F T k).2 ∧ bf_fr 0 37 D D') := by
  refine bf_Ce_of 9 hd mo_X8_back (Nat.le_of_ble_eq_true rfl) (fun e he J r => ?_)
  show J 0 [some (.ref 0), some (.int (k))] [] (bf_MD D)
  obtain ⟨hv, vs, vr, hF⟩ := id va
  obtain ⟨hc, cs, cr, c5, c6⟩ := id ca
  have hn4 := hv.1
  have hx4 := pX_le hv
  have hx0 := pX_pos P
  refine bf_iload_n r.1 dX8_back_0 rfl ?_
  refine bf_if_lt r.1 (tgt := 15) dX8_back_1 (by decide) (fun c218 => ?_) (fun c218 => ?_)
  · have wk : bf_rg k (rN Q + 1) = none := rg_lt c218
    refine bf_bipush r.1 (v := -2) dX8_back_15 rfl ?_
    have ho : ox_back P S Q F T k = (-2, (P, S, Q, F, T)) := by simp only [ox_back, wk, on_n, on_s]
    exact re_i r dX8_back_17 rfl rfl ⟨by rw [ho], by rw [ho]; exact ca, fr_0⟩
  · refine bf_iload_n r.1 dX8_back_4 rfl ?_
    refine bf_aload_n r.1 dX8_back_5 rfl ?_
    refine ig_ref r (b := 18) dX8_back_6 fl_X8_27 rfl (by decide) rfl ?_
    refine ig_int r (v := nI (rN Q)) dX8_back_9 fl_X8_72 rfl (by decide) rfl cr.1 ?_
    refine bf_icmp_le r.1 (tgt := 18) dX8_back_12 (by decide) (fun c219 => ?_) (fun c219 => ?_)
    · obtain ⟨k0, hk0, rfl⟩ := rg_le (Int32.not_lt.mp c218) c219 (by have := vr.1; omega)
      have wk := rg_s hk0 (by have := vr.1; omega)
      refine bf_aload_n r.1 dX8_back_18 rfl ?_
      refine ig_ref r (b := 18) dX8_back_19 fl_X8_27 rfl (by decide) rfl ?_
      refine bf_dup r.1 dX8_back_22 rfl ?_
      refine ig_int r (v := nI (rN Q)) dX8_back_23 fl_X8_72 rfl (by decide) rfl cr.1 ?_
      refine bf_iload_n r.1 dX8_back_26 rfl ?_
      refine na_sub r dX8_back_27 (by omega) ?_
      refine ip_int r dX8_back_28 fp_X8_72 rfl (by decide) rfl ?_
      refine bf_aload_n r.1 dX8_back_31 rfl ?_
      refine ig_ref r (b := 18) dX8_back_32 fl_X8_27 rfl (by decide) rfl ?_
      refine ig_int r (v := nI (rN Q - k0)) dX8_back_35 fl_X8_72 rfl (by decide) rfl bf_us ?_
      have ho : ox_back P S Q F T (nI k0) = (nI (rN Q - k0), (P, S, (rN Q - k0, Q.2), F, T)) := by simp only [ox_back, wk, on_n, on_s]
      exact re_i r dX8_back_38 rfl rfl ⟨by rw [ho], by rw [ho]; exact (cA_R hn4 ca (cR_bk (by omega) cr) (fr_u fr_0 (by decide) (by decide))), (fr_u fr_0 (by decide) (by decide))⟩
    · have wk := rg_hi (m := rN Q) c219 (by have := vr.1; omega)
      refine bf_bipush r.1 (v := -2) dX8_back_15 rfl ?_
      have ho : ox_back P S Q F T k = (-2, (P, S, Q, F, T)) := by simp only [ox_back, wk, on_n, on_s]
      exact re_i r dX8_back_17 rfl rfl ⟨by rw [ho], by rw [ho]; exact ca, fr_0⟩
theorem e_X8_sheet {d : Nat} (hd : 10 ≤ d) {D : bf_D} {P : bf_Pn} {S : bf_Sh} {Q : bf_Rd} {F : Nat} {T : Int32} (va : vA (P, S, Q, F, T)) (ca : cA D (P, S, Q, F, T)) (k l n : Int32) : bf_Ce d mX8_sheet [.ref 0, .int (k), .int (l), .int (n)] D (fun r D' => r = some (.int (ox_sheet P S Q F T k l n).1) ∧ cA D' (ox_sheet P S Q F T k l n).2 ∧ bf_fr 0 37 D D') := by
  refine bf_Ce_of 9 hd mo_X8_sheet (Nat.le_of_ble_eq_true rfl) (fun e he J r => ?_)
  show J 0 [some (.ref 0), some (.int (k)), some (.int (l)), some (.int (n))] [] (bf_MD D)
  obtain ⟨hv, vs, vr, hF⟩ := id va
  obtain ⟨hc, cs, cr, c5, c6⟩ := id ca
  have hn4 := hv.1
  have hx4 := pX_le hv
  have hx0 := pX_pos P
  refine bf_aload_n r.1 dX8_sheet_0 rfl ?_
  refine bf_iconst r.1 (v := nI 0) dX8_sheet_1 rfl ?_
  refine ip_int r dX8_sheet_2 fp_X8_46 rfl (by decide) rfl ?_
  replace ca := cA_5 hn4 0 ca
  obtain ⟨hc, cs, cr, c5, c6⟩ := id ca
  refine bf_iload_n r.1 dX8_sheet_5 rfl ?_
  refine bf_iconst r.1 (v := nI 4) dX8_sheet_6 rfl ?_
  refine cl_s r (y2 := mX8_isWithin) dX8_sheet_7 li_X8_50 mv_X8_isWithin [.int (k), .int (nI 4)] [] rfl (Nat.le_of_ble_eq_true rfl) rfl (c_X8_isWithin (by omega) (bf_u D 0 5 (nI 0)) _ _) ?_
  show J 10 [some (.ref 0), some (.int (k)), some (.int (l)), some (.int (n))] [.int (if 0 ≤ k ∧ k < nI 4 then 1 else 0)] (bf_MD (bf_u D 0 5 (nI 0)))
  refine nb_ne r (tgt := 15) dX8_sheet_10 (by decide) (fun c220 => ?_) (fun c220 => ?_)
  · obtain ⟨k0, hk0, rfl⟩ := rg_in (by decide) c220
    have wk := rg_s hk0 (by decide)
    refine bf_iload_n r.1 dX8_sheet_15 rfl ?_
    refine bf_iconst r.1 (v := nI 3) dX8_sheet_16 rfl ?_
    refine cl_s r (y2 := mX8_isWithin) dX8_sheet_17 li_X8_50 mv_X8_isWithin [.int (l), .int (nI 3)] [] rfl (Nat.le_of_ble_eq_true rfl) rfl (c_X8_isWithin (by omega) (bf_u D 0 5 (nI 0)) _ _) ?_
    show J 20 [some (.ref 0), some (.int (nI k0)), some (.int (l)), some (.int (n))] [.int (if 0 ≤ l ∧ l < nI 3 then 1 else 0)] (bf_MD (bf_u D 0 5 (nI 0)))
    refine nb_eq r (tgt := 29) dX8_sheet_20 (by decide) (fun c221 => ?_) (fun c221 => ?_)
    · have wl := rg_n c221
      refine bf_bipush r.1 (v := -2) dX8_sheet_29 rfl ?_
      have ho : ox_sheet P S Q F T (nI k0) l n = (-2, (P, S, Q, 0, T)) := by simp only [ox_sheet, wk, wl, on_n, on_s]
      exact re_i r dX8_sheet_31 rfl rfl ⟨by rw [ho], by rw [ho]; exact ca, (fr_u fr_0 (by decide) (by decide))⟩
    · obtain ⟨l0, hl0, rfl⟩ := rg_in (by decide) c221
      have wl := rg_s hl0 (by decide)
      refine bf_iload_n r.1 dX8_sheet_23 rfl ?_
      refine bf_bipush r.1 (v := nI 60) dX8_sheet_24 rfl ?_
      refine bf_icmp_le r.1 (tgt := 32) dX8_sheet_26 (by decide) (fun c222 => ?_) (fun c222 => ?_)
      · refine bf_iload_n r.1 dX8_sheet_32 rfl ?_
        refine bf_if_ge r.1 (tgt := 42) dX8_sheet_33 (by decide) (fun c223 => ?_) (fun c223 => ?_)
        · obtain ⟨n0, hn0, rfl⟩ := rg_le c223 c222 (by decide)
          have wn := rg_s hn0 (by decide)
          refine bf_aload_n r.1 dX8_sheet_42 rfl ?_
          refine ig_ref r (b := 1) dX8_sheet_43 fl_X8_13 rfl (by decide) rfl ?_
          refine bf_iload_n r.1 dX8_sheet_46 rfl ?_
          refine aa_ld r (n := 4) (b := 29 + 2 * k0) dX8_sheet_47 (by decide) rfl (by decide) hk0 (ad_a1 hk0) ?_
          refine bf_iload_n r.1 dX8_sheet_48 rfl ?_
          refine bf_iload_n r.1 dX8_sheet_49 rfl ?_
          refine cl_v r (y2 := mX5_renew) dX8_sheet_50 li_X8_207 mv_X5_renew (ad_c29 hk0) (ad_l29 hk0) [.int (nI l0), .int (nI n0)] [] rfl (Nat.le_of_ble_eq_true rfl) rfl (c_X5_renew (by omega) (bf_u D 0 5 (nI 0)) hk0 l0 n0) ?_
          show J 53 [some (.ref 0), some (.int (nI k0)), some (.int (nI l0)), some (.int (nI n0))] [] (bf_MD (bf_sD (bf_u D 0 5 (nI 0)) k0 l0 n0))
          refine bf_iconst r.1 (v := nI 1) dX8_sheet_53 rfl ?_
          have ho : ox_sheet P S Q F T (nI k0) (nI l0) (nI n0) = (nI 1, (P, sPut S k0 (some n0) l0 (fun _ => nI 0), Q, 0, T)) := by simp only [ox_sheet, wk, wl, wn, on_n, on_s]
          exact re_i r dX8_sheet_54 rfl rfl ⟨by rw [ho], by rw [ho]; exact (cA_S hn4 ca (cS_sD (by omega) cs) (fr_sD hk0)), (fr_29 (fr_u fr_0 (by decide) (by decide)) (fr_sD hk0))⟩
        · have wn : bf_rg n 61 = none := rg_lo c223
          refine bf_aload_n r.1 dX8_sheet_36 rfl ?_
          refine bf_iconst r.1 (v := nI 4) dX8_sheet_37 rfl ?_
          refine cl_v r (y2 := mX8_faulted) dX8_sheet_38 li_X8_58 mv_X8_faulted rfl (by decide) [.int (nI 4)] [] rfl (Nat.le_of_ble_eq_true rfl) rfl (c_X8_faulted (by omega) (bf_u D 0 5 (nI 0)) _) ?_
          show J 41 [some (.ref 0), some (.int (nI k0)), some (.int (nI l0)), some (.int (n))] [.int (-10 - nI 4)] (bf_MD (bf_u (bf_u D 0 5 (nI 0)) 0 5 (nI 4)))
          have ho : ox_sheet P S Q F T (nI k0) (nI l0) n = (-10 - nI 4, (P, S, Q, 4, T)) := by simp only [ox_sheet, wk, wl, wn, if_pos (Int32.not_le.mp c223), on_n, on_s]
          exact re_i r dX8_sheet_41 rfl rfl ⟨by rw [ho], by rw [ho]; exact (cA_5 hn4 4 ca), (fr_u (fr_u fr_0 (by decide) (by decide)) (by decide) (by decide))⟩
      · have wn := rg_hi (m := 60) c222 (by decide)
        have hn0 : ¬ n < 0 := fun q => c222 (Int32.le_of_lt (Int32.lt_of_lt_of_le q (by decide)))
        refine bf_bipush r.1 (v := -2) dX8_sheet_29 rfl ?_
        have ho : ox_sheet P S Q F T (nI k0) (nI l0) n = (-2, (P, S, Q, 0, T)) := by simp only [ox_sheet, wk, wl, wn, if_neg hn0, on_n, on_s]
        exact re_i r dX8_sheet_31 rfl rfl ⟨by rw [ho], by rw [ho]; exact ca, (fr_u fr_0 (by decide) (by decide))⟩
  · have wk := rg_n c220
    refine bf_iconst r.1 (v := -1) dX8_sheet_13 rfl ?_
    have ho : ox_sheet P S Q F T k l n = (-1, (P, S, Q, 0, T)) := by simp only [ox_sheet, wk, on_n, on_s]
    exact re_i r dX8_sheet_14 rfl rfl ⟨by rw [ho], by rw [ho]; exact ca, (fr_u fr_0 (by decide) (by decide))⟩
theorem e_X8_lose {d : Nat} (hd : 10 ≤ d) {D : bf_D} {P : bf_Pn} {S : bf_Sh} {Q : bf_Rd} {F : Nat} {T : Int32} (va : vA (P, S, Q, F, T)) (ca : cA D (P, S, Q, F, T)) (k : Int32) : bf_Ce d mX8_lose [.ref 0, .int (k)] D (fun r D' => r = some (.int (ox_lose P S Q F T k).1) ∧ cA D' (ox_lose P S Q F T k).2 ∧ bf_fr 0 37 D D') := by
  refine bf_Ce_of 9 hd mo_X8_lose (Nat.le_of_ble_eq_true rfl) (fun e he J r => ?_)
  show J 0 [some (.ref 0), some (.int (k))] [] (bf_MD D)
  obtain ⟨hv, vs, vr, hF⟩ := id va
  obtain ⟨hc, cs, cr, c5, c6⟩ := id ca
  have hn4 := hv.1
  have hx4 := pX_le hv
  have hx0 := pX_pos P
  refine bf_iload_n r.1 dX8_lose_0 rfl ?_
  refine bf_iconst r.1 (v := nI 4) dX8_lose_1 rfl ?_
  refine cl_s r (y2 := mX8_isWithin) dX8_lose_2 li_X8_50 mv_X8_isWithin [.int (k), .int (nI 4)] [] rfl (Nat.le_of_ble_eq_true rfl) rfl (c_X8_isWithin (by omega) D _ _) ?_
  show J 5 [some (.ref 0), some (.int (k))] [.int (if 0 ≤ k ∧ k < nI 4 then 1 else 0)] (bf_MD D)
  refine nb_ne r (tgt := 10) dX8_lose_5 (by decide) (fun c224 => ?_) (fun c224 => ?_)
  · obtain ⟨k0, hk0, rfl⟩ := rg_in (by decide) c224
    have wk := rg_s hk0 (by decide)
    refine bf_aload_n r.1 dX8_lose_10 rfl ?_
    refine ig_ref r (b := 1) dX8_lose_11 fl_X8_13 rfl (by decide) rfl ?_
    refine bf_iload_n r.1 dX8_lose_14 rfl ?_
    refine aa_ld r (n := 4) (b := 29 + 2 * k0) dX8_lose_15 (by decide) rfl (by decide) hk0 (ad_a1 hk0) ?_
    refine cl_v r (y2 := mX5_dropRow) dX8_lose_16 li_X8_211 mv_X5_dropRow (ad_c29 hk0) (ad_l29 hk0) [] [] rfl (Nat.le_of_ble_eq_true rfl) rfl (c_X5_dropRow (by omega) vs cs hk0) ?_
    show J 19 [some (.ref 0), some (.int (nI k0))] [.int (if sZ S k0 = none then 0 else 1)] (bf_MD (bf_u D (29 + 2 * k0) 1 (-1)))
    by_cases hz : sZ S k0 = none
    · refine eq_i (v := nI 0) (if_pos hz) ?_
      refine nz_eq r (tgt := 26) dX8_lose_19 (by decide) (by decide) (fun c225 => ?_) (fun c225 => ?_)
      · refine bf_iconst r.1 (v := nI 0) dX8_lose_26 rfl ?_
        have ho : ox_lose P S Q F T (nI k0) = (nI 0, (P, sPut S k0 none (sL S k0) (sC S k0), Q, F, T)) := by simp only [ox_lose, wk, if_pos hz, on_n, on_s]
        exact re_i r dX8_lose_27 rfl rfl ⟨by rw [ho], by rw [ho]; exact (cA_S hn4 ca (cS_ls hk0 cs) (fr_u fr_0 (by omega) (by omega))), (fr_w (fr_u (lo := 29) (hi := 37) fr_0 (by omega) (by omega)) (by decide) (by decide))⟩
      · exact absurd rfl c225
    · refine eq_i (v := nI 1) (if_neg hz) ?_
      refine nz_eq r (tgt := 26) dX8_lose_19 (by decide) (by decide) (fun c226 => ?_) (fun c226 => ?_)
      · exact absurd c226 (by decide)
      · refine bf_iconst r.1 (v := nI 1) dX8_lose_22 rfl ?_
        refine bf_goto r.1 (tgt := 27) dX8_lose_23 (by decide) ?_
        have ho : ox_lose P S Q F T (nI k0) = (nI 1, (P, sPut S k0 none (sL S k0) (sC S k0), Q, F, T)) := by simp only [ox_lose, wk, if_neg hz, on_n, on_s]
        exact re_i r dX8_lose_27 rfl rfl ⟨by rw [ho], by rw [ho]; exact (cA_S hn4 ca (cS_ls hk0 cs) (fr_u fr_0 (by omega) (by omega))), (fr_w (fr_u (lo := 29) (hi := 37) fr_0 (by omega) (by omega)) (by decide) (by decide))⟩
  · have wk := rg_n c224
    refine bf_iconst r.1 (v := -1) dX8_lose_8 rfl ?_
    have ho : ox_lose P S Q F T k = (-1, (P, S, Q, F, T)) := by simp only [ox_lose, wk, on_n, on_s]
    exact re_i r dX8_lose_9 rfl rfl ⟨by rw [ho], by rw [ho]; exact ca, fr_0⟩
theorem e_X8_put {d : Nat} (hd : 10 ≤ d) {D : bf_D} {P : bf_Pn} {S : bf_Sh} {Q : bf_Rd} {F : Nat} {T : Int32} (va : vA (P, S, Q, F, T)) (ca : cA D (P, S, Q, F, T)) (k i v : Int32) : bf_Ce d mX8_put [.ref 0, .int (k), .int (i), .int (v)] D (fun r D' => r = some (.int (ox_put P S Q F T k i v).1) ∧ cA D' (ox_put P S Q F T k i v).2 ∧ bf_fr 0 37 D D') := by
  refine bf_Ce_of 9 hd mo_X8_put (Nat.le_of_ble_eq_true rfl) (fun e he J r => ?_)
  show J 0 [some (.ref 0), some (.int (k)), some (.int (i)), some (.int (v)), none] [] (bf_MD D)
  obtain ⟨hv, vs, vr, hF⟩ := id va
  obtain ⟨hc, cs, cr, c5, c6⟩ := id ca
  have hn4 := hv.1
  have hx4 := pX_le hv
  have hx0 := pX_pos P
  refine bf_aload_n r.1 dX8_put_0 rfl ?_
  refine bf_iconst r.1 (v := nI 0) dX8_put_1 rfl ?_
  refine ip_int r dX8_put_2 fp_X8_46 rfl (by decide) rfl ?_
  replace ca := cA_5 hn4 0 ca
  obtain ⟨hc, cs, cr, c5, c6⟩ := id ca
  refine bf_iload_n r.1 dX8_put_5 rfl ?_
  refine bf_iconst r.1 (v := nI 4) dX8_put_6 rfl ?_
  refine cl_s r (y2 := mX8_isWithin) dX8_put_7 li_X8_50 mv_X8_isWithin [.int (k), .int (nI 4)] [] rfl (Nat.le_of_ble_eq_true rfl) rfl (c_X8_isWithin (by omega) (bf_u D 0 5 (nI 0)) _ _) ?_
  show J 10 [some (.ref 0), some (.int (k)), some (.int (i)), some (.int (v)), none] [.int (if 0 ≤ k ∧ k < nI 4 then 1 else 0)] (bf_MD (bf_u D 0 5 (nI 0)))
  refine nb_ne r (tgt := 15) dX8_put_10 (by decide) (fun c227 => ?_) (fun c227 => ?_)
  · obtain ⟨k0, hk0, rfl⟩ := rg_in (by decide) c227
    have wk := rg_s hk0 (by decide)
    refine bf_aload_n r.1 dX8_put_15 rfl ?_
    refine ig_ref r (b := 1) dX8_put_16 fl_X8_13 rfl (by decide) rfl ?_
    refine bf_iload_n r.1 dX8_put_19 rfl ?_
    refine aa_ld r (n := 4) (b := 29 + 2 * k0) dX8_put_20 (by decide) rfl (by decide) hk0 (ad_a1 hk0) ?_
    refine bf_astore r.1 (L2 := [some (.ref 0), some (.int (nI k0)), some (.int (i)), some (.int (v)), some (.ref (29 + 2 * k0))]) dX8_put_21 rfl ?_
    refine bf_aload r.1 dX8_put_23 rfl ?_
    refine cl_v r (y2 := mX5_isNothing) dX8_put_25 li_X8_214 mv_X5_isNothing (ad_c29 hk0) (ad_l29 hk0) [] [] rfl (Nat.le_of_ble_eq_true rfl) rfl (c_X5_isNothing (by omega) vs cs hk0) ?_
    show J 28 [some (.ref 0), some (.int (nI k0)), some (.int (i)), some (.int (v)), some (.ref (29 + 2 * k0))] [.int (if sZ S k0 = none then 1 else 0)] (bf_MD (bf_u D 0 5 (nI 0)))
    refine nb_eq r (tgt := 37) dX8_put_28 (by decide) (fun c228 => ?_) (fun c228 => ?_)
    · obtain ⟨n, hz⟩ := Option.ne_none_iff_exists'.mp c228
      have n60 := (vs k0 hk0).2 n hz
      refine bf_aload r.1 dX8_put_37 rfl ?_
      refine bf_iload_n r.1 dX8_put_39 rfl ?_
      refine bf_iconst r.1 (v := nI 1) dX8_put_40 rfl ?_
      refine cl_v r (y2 := mX5_hasCells) dX8_put_41 li_X8_217 mv_X5_hasCells (ad_c29 hk0) (ad_l29 hk0) [.int (i), .int (nI 1)] [] rfl (Nat.le_of_ble_eq_true rfl) rfl (c_X5_hasCells (by omega) vs cs hk0 hz i (nI 1)) ?_
      show J 44 [some (.ref 0), some (.int (nI k0)), some (.int (i)), some (.int (v)), some (.ref (29 + 2 * k0))] [.int (if (0 ≤ (i).toInt ∧ 0 ≤ (nI 1).toInt ∧ (i).toInt + (nI 1).toInt ≤ n) then 1 else 0)] (bf_MD (bf_u D 0 5 (nI 0)))
      refine nb_ne r (tgt := 53) dX8_put_44 (by decide) (fun c229 => ?_) (fun c229 => ?_)
      · obtain ⟨i0, hi0, rfl⟩ := rg_in (by omega) ((hc1 n60).mp c229)
        have wi := rg_s hi0 (by omega)
        refine bf_aload r.1 dX8_put_53 rfl ?_
        refine bf_iload_n r.1 dX8_put_55 rfl ?_
        refine bf_iload_n r.1 dX8_put_56 rfl ?_
        refine cl_v r (y2 := mX5_write) dX8_put_57 li_X8_220 mv_X5_write (ad_c29 hk0) (ad_l29 hk0) [.int (nI i0), .int (v)] [] rfl (Nat.le_of_ble_eq_true rfl) rfl (c_X5_write (by omega) vs cs hk0 hz (by omega) v) ?_
        show J 60 [some (.ref 0), some (.int (nI k0)), some (.int (nI i0)), some (.int (v)), some (.ref (29 + 2 * k0))] [] (bf_MD (bf_u (bf_u D 0 5 (nI 0)) (30 + 2 * k0) i0 (bf_cut (sL S k0) v)))
        refine bf_iconst r.1 (v := nI 1) dX8_put_60 rfl ?_
        have ho : ox_put P S Q F T (nI k0) (nI i0) v = (nI 1, (P, sPut S k0 (some n) (sL S k0) (fun j => if j = i0 then bf_cut (sL S k0) v else sC S k0 j), Q, 0, T)) := by simp only [ox_put, wk, hz, wi, on_n, on_s]
        exact re_i r dX8_put_61 rfl rfl ⟨by rw [ho], by rw [ho]; exact (cA_S hn4 ca (cS_pt hk0 hz cs) (fr_u fr_0 (by omega) (by omega))), (fr_29 (fr_u fr_0 (by decide) (by decide)) (fr_u fr_0 (by omega) (by omega)))⟩
      · have wi : bf_rg i n = none := rg_n (fun q => c229 ((hc1 n60).mpr q))
        refine bf_aload_n r.1 dX8_put_47 rfl ?_
        refine bf_iconst r.1 (v := nI 3) dX8_put_48 rfl ?_
        refine cl_v r (y2 := mX8_faulted) dX8_put_49 li_X8_58 mv_X8_faulted rfl (by decide) [.int (nI 3)] [] rfl (Nat.le_of_ble_eq_true rfl) rfl (c_X8_faulted (by omega) (bf_u D 0 5 (nI 0)) _) ?_
        show J 52 [some (.ref 0), some (.int (nI k0)), some (.int (i)), some (.int (v)), some (.ref (29 + 2 * k0))] [.int (-10 - nI 3)] (bf_MD (bf_u (bf_u D 0 5 (nI 0)) 0 5 (nI 3)))
        have ho : ox_put P S Q F T (nI k0) i v = (-10 - nI 3, (P, S, Q, 3, T)) := by simp only [ox_put, wk, hz, wi, on_n, on_s]
        exact re_i r dX8_put_52 rfl rfl ⟨by rw [ho], by rw [ho]; exact (cA_5 hn4 3 ca), (fr_u (fr_u fr_0 (by decide) (by decide)) (by decide) (by decide))⟩
    · refine bf_aload_n r.1 dX8_put_31 rfl ?_
      refine bf_iconst r.1 (v := nI 1) dX8_put_32 rfl ?_
      refine cl_v r (y2 := mX8_faulted) dX8_put_33 li_X8_58 mv_X8_faulted rfl (by decide) [.int (nI 1)] [] rfl (Nat.le_of_ble_eq_true rfl) rfl (c_X8_faulted (by omega) (bf_u D 0 5 (nI 0)) _) ?_
      show J 36 [some (.ref 0), some (.int (nI k0)), some (.int (i)), some (.int (v)), some (.ref (29 + 2 * k0))] [.int (-10 - nI 1)] (bf_MD (bf_u (bf_u D 0 5 (nI 0)) 0 5 (nI 1)))
      have ho : ox_put P S Q F T (nI k0) i v = (-10 - nI 1, (P, S, Q, 1, T)) := by simp only [ox_put, wk, c228, on_n, on_s]
      exact re_i r dX8_put_36 rfl rfl ⟨by rw [ho], by rw [ho]; exact (cA_5 hn4 1 ca), (fr_u (fr_u fr_0 (by decide) (by decide)) (by decide) (by decide))⟩
  · have wk := rg_n c227
    refine bf_iconst r.1 (v := -1) dX8_put_13 rfl ?_
    have ho : ox_put P S Q F T k i v = (-1, (P, S, Q, 0, T)) := by simp only [ox_put, wk, on_n, on_s]
    exact re_i r dX8_put_14 rfl rfl ⟨by rw [ho], by rw [ho]; exact ca, (fr_u fr_0 (by decide) (by decide))⟩
theorem e_X8_cell {d : Nat} (hd : 10 ≤ d) {D : bf_D} {P : bf_Pn} {S : bf_Sh} {Q : bf_Rd} {F : Nat} {T : Int32} (va : vA (P, S, Q, F, T)) (ca : cA D (P, S, Q, F, T)) (k i l : Int32) : bf_Ce d mX8_cell [.ref 0, .int (k), .int (i), .int (l)] D (fun r D' => r = some (.long (ox_cell P S Q F T k i l).1) ∧ cA D' (ox_cell P S Q F T k i l).2 ∧ bf_fr 0 37 D D') := by
  refine bf_Ce_of 9 hd mo_X8_cell (Nat.le_of_ble_eq_true rfl) (fun e he J r => ?_)
  show J 0 [some (.ref 0), some (.int (k)), some (.int (i)), some (.int (l))] [] (bf_MD D)
  obtain ⟨hv, vs, vr, hF⟩ := id va
  obtain ⟨hc, cs, cr, c5, c6⟩ := id ca
  have hn4 := hv.1
  have hx4 := pX_le hv
  have hx0 := pX_pos P
  refine bf_aload_n r.1 dX8_cell_0 rfl ?_
  refine bf_iconst r.1 (v := nI 0) dX8_cell_1 rfl ?_
  refine ip_int r dX8_cell_2 fp_X8_46 rfl (by decide) rfl ?_
  replace ca := cA_5 hn4 0 ca
  obtain ⟨hc, cs, cr, c5, c6⟩ := id ca
  refine bf_iload_n r.1 dX8_cell_5 rfl ?_
  refine bf_iconst r.1 (v := nI 4) dX8_cell_6 rfl ?_
  refine cl_s r (y2 := mX8_isWithin) dX8_cell_7 li_X8_50 mv_X8_isWithin [.int (k), .int (nI 4)] [] rfl (Nat.le_of_ble_eq_true rfl) rfl (c_X8_isWithin (by omega) (bf_u D 0 5 (nI 0)) _ _) ?_
  show J 10 [some (.ref 0), some (.int (k)), some (.int (i)), some (.int (l))] [.int (if 0 ≤ k ∧ k < nI 4 then 1 else 0)] (bf_MD (bf_u D 0 5 (nI 0)))
  refine nb_eq r (tgt := 21) dX8_cell_10 (by decide) (fun c230 => ?_) (fun c230 => ?_)
  · have wk := rg_n c230
    refine bf_ldc2 r.1 dX8_cell_21 lc_X8_195 ?_
    have ho : ox_cell P S Q F T k i l = (-9223372036854775808, (P, S, Q, 0, T)) := by simp only [ox_cell, wk, on_n, on_s, bf_lost]
    exact re_l r dX8_cell_24 rfl ⟨by rw [ho], by rw [ho]; exact ca, (fr_u fr_0 (by decide) (by decide))⟩
  · obtain ⟨k0, hk0, rfl⟩ := rg_in (by decide) c230
    have wk := rg_s hk0 (by decide)
    refine bf_iload_n r.1 dX8_cell_13 rfl ?_
    refine bf_iconst r.1 (v := nI 3) dX8_cell_14 rfl ?_
    refine cl_s r (y2 := mX8_isWithin) dX8_cell_15 li_X8_50 mv_X8_isWithin [.int (l), .int (nI 3)] [] rfl (Nat.le_of_ble_eq_true rfl) rfl (c_X8_isWithin (by omega) (bf_u D 0 5 (nI 0)) _ _) ?_
    show J 18 [some (.ref 0), some (.int (nI k0)), some (.int (i)), some (.int (l))] [.int (if 0 ≤ l ∧ l < nI 3 then 1 else 0)] (bf_MD (bf_u D 0 5 (nI 0)))
    refine nb_ne r (tgt := 25) dX8_cell_18 (by decide) (fun c231 => ?_) (fun c231 => ?_)
    · obtain ⟨l0, hl0, rfl⟩ := rg_in (by decide) c231
      have wl := rg_s hl0 (by decide)
      refine bf_aload_n r.1 dX8_cell_25 rfl ?_
      refine bf_aload_n r.1 dX8_cell_26 rfl ?_
      refine ig_ref r (b := 1) dX8_cell_27 fl_X8_13 rfl (by decide) rfl ?_
      refine bf_iload_n r.1 dX8_cell_30 rfl ?_
      refine aa_ld r (n := 4) (b := 29 + 2 * k0) dX8_cell_31 (by decide) rfl (by decide) hk0 (ad_a1 hk0) ?_
      refine bf_iload_n r.1 dX8_cell_32 rfl ?_
      refine bf_iload_n r.1 dX8_cell_33 rfl ?_
      refine bf_iconst r.1 (v := nI 1) dX8_cell_34 rfl ?_
      refine cl_v r (y2 := mX5_faultOfCells) dX8_cell_35 li_X8_54 mv_X5_faultOfCells (ad_c29 hk0) (ad_l29 hk0) [.int (nI l0), .int (i), .int (nI 1)] [.ref 0] rfl (Nat.le_of_ble_eq_true rfl) rfl (c_X5_faultOfCells (by omega) vs cs hk0 (nI l0) i (nI 1)) ?_
      show J 38 [some (.ref 0), some (.int (nI k0)), some (.int (i)), some (.int (nI l0))] [.int (nI (bf_foc (sZ S k0) (sL S k0) (nI l0) i (nI 1))), .ref 0] (bf_MD (bf_u D 0 5 (nI 0)))
      refine ip_int r dX8_cell_38 fp_X8_46 rfl (by decide) rfl ?_
      replace ca := cA_5 hn4 (bf_foc (sZ S k0) (sL S k0) (nI l0) i (nI 1)) ca
      obtain ⟨hc, cs, cr, c5, c6⟩ := id ca
      refine bf_aload_n r.1 dX8_cell_41 rfl ?_
      refine ig_int r (v := nI (bf_foc (sZ S k0) (sL S k0) (nI l0) i (nI 1))) dX8_cell_42 fl_X8_46 rfl (by decide) rfl c5 ?_
      refine nz_ne r (tgt := 62) dX8_cell_45 (by decide) (by have := bf_foc_le (sZ S k0) (sL S k0) (nI l0) i (nI 1); omega) (fun c232 => ?_) (fun c232 => ?_)
      · refine bf_ldc2 r.1 dX8_cell_62 lc_X8_195 ?_
        have ho : ox_cell P S Q F T (nI k0) i (nI l0) = (-9223372036854775808, (P, S, Q, bf_foc (sZ S k0) (sL S k0) (nI l0) i (nI 1), T)) := by simp only [ox_cell, wk, wl, if_neg c232, on_n, on_s, bf_lost]
        exact re_l r dX8_cell_65 rfl ⟨by rw [ho], by rw [ho]; exact ca, (fr_u (fr_u fr_0 (by decide) (by decide)) (by decide) (by decide))⟩
      · obtain ⟨n, hz, _, hq0, _, hq1⟩ := bf_foc_0 c232
        rw [nI_toInt (by decide)] at hq1
        have n60 := (vs k0 hk0).2 n hz
        obtain ⟨i0, hi31, hi⟩ := nI_of (x := i) (Int32.not_lt.mpr ((bf_le0 i).mpr hq0))
        have hi0 : i0 < n := by rw [hi, nI_toInt hi31] at hq1; omega
        have hcl : i.toNatClampNeg = i0 := (bf_cl_eq hi hi31).1
        refine bf_aload_n r.1 dX8_cell_48 rfl ?_
        refine ig_ref r (b := 1) dX8_cell_49 fl_X8_13 rfl (by decide) rfl ?_
        refine bf_iload_n r.1 dX8_cell_52 rfl ?_
        refine aa_ld r (n := 4) (b := 29 + 2 * k0) dX8_cell_53 (by decide) rfl (by decide) hk0 (ad_a1 hk0) ?_
        refine bf_iload_n r.1 dX8_cell_54 rfl ?_
        refine eq_i (v := nI i0) hi ?_
        refine cl_v r (y2 := mX5_read) dX8_cell_55 li_X8_223 mv_X5_read (ad_c29 hk0) (ad_l29 hk0) [.int (nI i0)] [] rfl (Nat.le_of_ble_eq_true rfl) rfl (c_X5_read (by omega) vs cs hk0 hz (by omega)) ?_
        show J 58 [some (.ref 0), some (.int (nI k0)), some (.int (i)), some (.int (nI l0))] [.int (sC S k0 i0)] (bf_MD (bf_u (bf_u D 0 5 (nI 0)) 0 5 (nI (bf_foc (sZ S k0) (sL S k0) (nI l0) i (nI 1)))))
        refine bf_i2l r.1 dX8_cell_58 ?_
        refine bf_goto r.1 (tgt := 65) dX8_cell_59 (by decide) ?_
        have ho : ox_cell P S Q F T (nI k0) i (nI l0) = ((sC S k0 i0).toInt64, (P, S, Q, 0, T)) := by simp only [ox_cell, wk, wl, if_pos c232, hcl, on_n, on_s]
        exact re_l r dX8_cell_65 rfl ⟨by rw [ho], by rw [ho]; exact (Eq.mp (congrArg (fun q => cA (bf_u (bf_u D 0 5 (nI 0)) 0 5 (nI (bf_foc (sZ S k0) (sL S k0) (nI l0) i (nI 1)))) (P, S, Q, q, T)) c232) ca), (fr_u (fr_u fr_0 (by decide) (by decide)) (by decide) (by decide))⟩
    · have wl := rg_n c231
      refine bf_ldc2 r.1 dX8_cell_21 lc_X8_195 ?_
      have ho : ox_cell P S Q F T (nI k0) i l = (-9223372036854775808, (P, S, Q, 0, T)) := by simp only [ox_cell, wk, wl, on_n, on_s, bf_lost]
      exact re_l r dX8_cell_24 rfl ⟨by rw [ho], by rw [ho]; exact ca, (fr_u fr_0 (by decide) (by decide))⟩
theorem e_X8_copy {d : Nat} (hd : 10 ≤ d) {D : bf_D} {P : bf_Pn} {S : bf_Sh} {Q : bf_Rd} {F : Nat} {T : Int32} (va : vA (P, S, Q, F, T)) (ca : cA D (P, S, Q, F, T)) (k i o j n : Int32) : bf_Ce d mX8_copy [.ref 0, .int (k), .int (i), .int (o), .int (j), .int (n)] D (fun r D' => r = some (.int (ox_copy P S Q F T k i o j n).1) ∧ cA D' (ox_copy P S Q F T k i o j n).2 ∧ bf_fr 0 37 D D') := by
  refine bf_Ce_of 9 hd mo_X8_copy (Nat.le_of_ble_eq_true rfl) (fun e he J r => ?_)
  show J 0 [some (.ref 0), some (.int (k)), some (.int (i)), some (.int (o)), some (.int (j)), some (.int (n)), none, none] [] (bf_MD D)
  obtain ⟨hv, vs, vr, hF⟩ := id va
  obtain ⟨hc, cs, cr, c5, c6⟩ := id ca
  have hn4 := hv.1
  have hx4 := pX_le hv
  have hx0 := pX_pos P
  refine bf_aload_n r.1 dX8_copy_0 rfl ?_
  refine bf_iconst r.1 (v := nI 0) dX8_copy_1 rfl ?_
  refine ip_int r dX8_copy_2 fp_X8_46 rfl (by decide) rfl ?_
  replace ca := cA_5 hn4 0 ca
  obtain ⟨hc, cs, cr, c5, c6⟩ := id ca
  refine bf_iload_n r.1 dX8_copy_5 rfl ?_
  refine bf_iconst r.1 (v := nI 4) dX8_copy_6 rfl ?_
  refine cl_s r (y2 := mX8_isWithin) dX8_copy_7 li_X8_50 mv_X8_isWithin [.int (k), .int (nI 4)] [] rfl (Nat.le_of_ble_eq_true rfl) rfl (c_X8_isWithin (by omega) (bf_u D 0 5 (nI 0)) _ _) ?_
  show J 10 [some (.ref 0), some (.int (k)), some (.int (i)), some (.int (o)), some (.int (j)), some (.int (n)), none, none] [.int (if 0 ≤ k ∧ k < nI 4 then 1 else 0)] (bf_MD (bf_u D 0 5 (nI 0)))
  refine nb_eq r (tgt := 21) dX8_copy_10 (by decide) (fun c233 => ?_) (fun c233 => ?_)
  · have wk := rg_n c233
    refine bf_iconst r.1 (v := -1) dX8_copy_21 rfl ?_
    have ho : ox_copy P S Q F T k i o j n = (-1, (P, S, Q, 0, T)) := by simp only [ox_copy, wk, on_n, on_s]
    exact re_i r dX8_copy_22 rfl rfl ⟨by rw [ho], by rw [ho]; exact ca, (fr_u fr_0 (by decide) (by decide))⟩
  · obtain ⟨k0, hk0, rfl⟩ := rg_in (by decide) c233
    have wk := rg_s hk0 (by decide)
    refine bf_iload_n r.1 dX8_copy_13 rfl ?_
    refine bf_iconst r.1 (v := nI 4) dX8_copy_14 rfl ?_
    refine cl_s r (y2 := mX8_isWithin) dX8_copy_15 li_X8_50 mv_X8_isWithin [.int (o), .int (nI 4)] [] rfl (Nat.le_of_ble_eq_true rfl) rfl (c_X8_isWithin (by omega) (bf_u D 0 5 (nI 0)) _ _) ?_
    show J 18 [some (.ref 0), some (.int (nI k0)), some (.int (i)), some (.int (o)), some (.int (j)), some (.int (n)), none, none] [.int (if 0 ≤ o ∧ o < nI 4 then 1 else 0)] (bf_MD (bf_u D 0 5 (nI 0)))
    refine nb_ne r (tgt := 23) dX8_copy_18 (by decide) (fun c234 => ?_) (fun c234 => ?_)
    · obtain ⟨o0, ho0, rfl⟩ := rg_in (by decide) c234
      have wo := rg_s ho0 (by decide)
      refine bf_aload_n r.1 dX8_copy_23 rfl ?_
      refine ig_ref r (b := 1) dX8_copy_24 fl_X8_13 rfl (by decide) rfl ?_
      refine bf_iload_n r.1 dX8_copy_27 rfl ?_
      refine aa_ld r (n := 4) (b := 29 + 2 * k0) dX8_copy_28 (by decide) rfl (by decide) hk0 (ad_a1 hk0) ?_
      refine bf_astore r.1 (L2 := [some (.ref 0), some (.int (nI k0)), some (.int (i)), some (.int (nI o0)), some (.int (j)), some (.int (n)), some (.ref (29 + 2 * k0)), none]) dX8_copy_29 rfl ?_
      refine bf_aload_n r.1 dX8_copy_31 rfl ?_
      refine ig_ref r (b := 1) dX8_copy_32 fl_X8_13 rfl (by decide) rfl ?_
      refine bf_iload_n r.1 dX8_copy_35 rfl ?_
      refine aa_ld r (n := 4) (b := 29 + 2 * o0) dX8_copy_36 (by decide) rfl (by decide) ho0 (ad_a1 ho0) ?_
      refine bf_astore r.1 (L2 := [some (.ref 0), some (.int (nI k0)), some (.int (i)), some (.int (nI o0)), some (.int (j)), some (.int (n)), some (.ref (29 + 2 * k0)), some (.ref (29 + 2 * o0))]) dX8_copy_37 rfl ?_
      refine bf_aload r.1 dX8_copy_39 rfl ?_
      refine cl_v r (y2 := mX5_isNothing) dX8_copy_41 li_X8_214 mv_X5_isNothing (ad_c29 hk0) (ad_l29 hk0) [] [] rfl (Nat.le_of_ble_eq_true rfl) rfl (c_X5_isNothing (by omega) vs cs hk0) ?_
      show J 44 [some (.ref 0), some (.int (nI k0)), some (.int (i)), some (.int (nI o0)), some (.int (j)), some (.int (n)), some (.ref (29 + 2 * k0)), some (.ref (29 + 2 * o0))] [.int (if sZ S k0 = none then 1 else 0)] (bf_MD (bf_u D 0 5 (nI 0)))
      refine nb_ne r (tgt := 55) dX8_copy_44 (by decide) (fun c235 => ?_) (fun c235 => ?_)
      · refine bf_aload_n r.1 dX8_copy_55 rfl ?_
        refine bf_iconst r.1 (v := nI 1) dX8_copy_56 rfl ?_
        refine cl_v r (y2 := mX8_faulted) dX8_copy_57 li_X8_58 mv_X8_faulted rfl (by decide) [.int (nI 1)] [] rfl (Nat.le_of_ble_eq_true rfl) rfl (c_X8_faulted (by omega) (bf_u D 0 5 (nI 0)) _) ?_
        show J 60 [some (.ref 0), some (.int (nI k0)), some (.int (i)), some (.int (nI o0)), some (.int (j)), some (.int (n)), some (.ref (29 + 2 * k0)), some (.ref (29 + 2 * o0))] [.int (-10 - nI 1)] (bf_MD (bf_u (bf_u D 0 5 (nI 0)) 0 5 (nI 1)))
        have ho : ox_copy P S Q F T (nI k0) i (nI o0) j n = (-10 - nI 1, (P, S, Q, 1, T)) := by simp only [ox_copy, wk, wo, c235, on_n, on_s]
        exact re_i r dX8_copy_60 rfl rfl ⟨by rw [ho], by rw [ho]; exact (cA_5 hn4 1 ca), (fr_u (fr_u fr_0 (by decide) (by decide)) (by decide) (by decide))⟩
      · obtain ⟨z, hz⟩ := Option.ne_none_iff_exists'.mp c235
        have z60 := (vs k0 hk0).2 z hz
        refine bf_aload r.1 dX8_copy_47 rfl ?_
        refine cl_v r (y2 := mX5_isNothing) dX8_copy_49 li_X8_214 mv_X5_isNothing (ad_c29 ho0) (ad_l29 ho0) [] [] rfl (Nat.le_of_ble_eq_true rfl) rfl (c_X5_isNothing (by omega) vs cs ho0) ?_
        show J 52 [some (.ref 0), some (.int (nI k0)), some (.int (i)), some (.int (nI o0)), some (.int (j)), some (.int (n)), some (.ref (29 + 2 * k0)), some (.ref (29 + 2 * o0))] [.int (if sZ S o0 = none then 1 else 0)] (bf_MD (bf_u D 0 5 (nI 0)))
        refine nb_eq r (tgt := 61) dX8_copy_52 (by decide) (fun c236 => ?_) (fun c236 => ?_)
        · obtain ⟨z2, hz2⟩ := Option.ne_none_iff_exists'.mp c236
          have z260 := (vs o0 ho0).2 z2 hz2
          refine bf_aload r.1 dX8_copy_61 rfl ?_
          refine ig_int r (v := nI (sL S k0)) dX8_copy_63 fl_X8_226 (ad_c29 hk0) (ad_l29 hk0) (ad_i29 hk0 2 (by decide)) (cS_l cs hk0) ?_
          refine bf_aload r.1 dX8_copy_66 rfl ?_
          refine ig_int r (v := nI (sL S o0)) dX8_copy_68 fl_X8_226 (ad_c29 ho0) (ad_l29 ho0) (ad_i29 ho0 2 (by decide)) (cS_l cs ho0) ?_
          refine nc_eq r (tgt := 80) dX8_copy_71 (by decide) (by have := (vs k0 hk0).1; omega) (by have := (vs o0 ho0).1; omega) (fun c237 => ?_) (fun c237 => ?_)
          · refine bf_aload r.1 dX8_copy_80 rfl ?_
            refine bf_iload_n r.1 dX8_copy_82 rfl ?_
            refine bf_iload r.1 dX8_copy_83 rfl ?_
            refine cl_v r (y2 := mX5_hasCells) dX8_copy_85 li_X8_217 mv_X5_hasCells (ad_c29 hk0) (ad_l29 hk0) [.int (i), .int (n)] [] rfl (Nat.le_of_ble_eq_true rfl) rfl (c_X5_hasCells (by omega) vs cs hk0 hz i n) ?_
            show J 88 [some (.ref 0), some (.int (nI k0)), some (.int (i)), some (.int (nI o0)), some (.int (j)), some (.int (n)), some (.ref (29 + 2 * k0)), some (.ref (29 + 2 * o0))] [.int (if (0 ≤ (i).toInt ∧ 0 ≤ (n).toInt ∧ (i).toInt + (n).toInt ≤ z) then 1 else 0)] (bf_MD (bf_u D 0 5 (nI 0)))
            refine nb_eq r (tgt := 103) dX8_copy_88 (by decide) (fun c238 => ?_) (fun c238 => ?_)
            · refine bf_aload_n r.1 dX8_copy_103 rfl ?_
              refine bf_iconst r.1 (v := nI 3) dX8_copy_104 rfl ?_
              refine cl_v r (y2 := mX8_faulted) dX8_copy_105 li_X8_58 mv_X8_faulted rfl (by decide) [.int (nI 3)] [] rfl (Nat.le_of_ble_eq_true rfl) rfl (c_X8_faulted (by omega) (bf_u D 0 5 (nI 0)) _) ?_
              show J 108 [some (.ref 0), some (.int (nI k0)), some (.int (i)), some (.int (nI o0)), some (.int (j)), some (.int (n)), some (.ref (29 + 2 * k0)), some (.ref (29 + 2 * o0))] [.int (-10 - nI 3)] (bf_MD (bf_u (bf_u D 0 5 (nI 0)) 0 5 (nI 3)))
              have ho : ox_copy P S Q F T (nI k0) i (nI o0) j n = (-10 - nI 3, (P, S, Q, 3, T)) := by simp only [ox_copy, wk, wo, hz, hz2, if_pos c237, if_neg c238, on_n, on_s]
              exact re_i r dX8_copy_108 rfl rfl ⟨by rw [ho], by rw [ho]; exact (cA_5 hn4 3 ca), (fr_u (fr_u fr_0 (by decide) (by decide)) (by decide) (by decide))⟩
            · refine bf_aload r.1 dX8_copy_91 rfl ?_
              refine bf_iload r.1 dX8_copy_93 rfl ?_
              refine bf_iload r.1 dX8_copy_95 rfl ?_
              refine cl_v r (y2 := mX5_hasCells) dX8_copy_97 li_X8_217 mv_X5_hasCells (ad_c29 ho0) (ad_l29 ho0) [.int (j), .int (n)] [] rfl (Nat.le_of_ble_eq_true rfl) rfl (c_X5_hasCells (by omega) vs cs ho0 hz2 j n) ?_
              show J 100 [some (.ref 0), some (.int (nI k0)), some (.int (i)), some (.int (nI o0)), some (.int (j)), some (.int (n)), some (.ref (29 + 2 * k0)), some (.ref (29 + 2 * o0))] [.int (if (0 ≤ (j).toInt ∧ 0 ≤ (n).toInt ∧ (j).toInt + (n).toInt ≤ z2) then 1 else 0)] (bf_MD (bf_u D 0 5 (nI 0)))
              refine nb_ne r (tgt := 109) dX8_copy_100 (by decide) (fun c239 => ?_) (fun c239 => ?_)
              · obtain ⟨i0, hi31, hi⟩ := nI_of (x := i) (Int32.not_lt.mpr ((bf_le0 i).mpr c238.1))
                have ci : i.toNatClampNeg = i0 := (bf_cl_eq hi hi31).1
                have ti : i.toInt = i0 := by rw [hi]; exact nI_toInt hi31
                obtain ⟨j0, hj31, hj⟩ := nI_of (x := j) (Int32.not_lt.mpr ((bf_le0 j).mpr c239.1))
                have cj : j.toNatClampNeg = j0 := (bf_cl_eq hj hj31).1
                have tj : j.toInt = j0 := by rw [hj]; exact nI_toInt hj31
                obtain ⟨n0, hn31, hn⟩ := nI_of (x := n) (Int32.not_lt.mpr ((bf_le0 n).mpr c239.2.1))
                have cn : n.toNatClampNeg = n0 := (bf_cl_eq hn hn31).1
                have tn : n.toInt = n0 := by rw [hn]; exact nI_toInt hn31
                have q1 : i0 + n0 ≤ z := by have := c238.2.2; omega
                have q2 : j0 + n0 ≤ z2 := by have := c239.2.2; omega
                refine bf_aload r.1 dX8_copy_109 rfl ?_
                refine bf_aload r.1 dX8_copy_111 rfl ?_
                refine bf_iload_n r.1 dX8_copy_113 rfl ?_
                refine eq_i (v := nI i0) hi ?_
                refine bf_iload r.1 dX8_copy_114 rfl ?_
                refine eq_i (v := nI j0) hj ?_
                refine bf_iload r.1 dX8_copy_116 rfl ?_
                refine eq_i (v := nI n0) hn ?_
                refine cl_v r (y2 := mX5_takeCells) dX8_copy_118 li_X8_229 mv_X5_takeCells (ad_c29 ho0) (ad_l29 ho0) [.ref (29 + 2 * k0), .int (nI i0), .int (nI j0), .int (nI n0)] [] rfl (Nat.le_of_ble_eq_true rfl) rfl (c_X5_takeCells (by omega) vs cs hk0 ho0 hz hz2 (by omega) (by omega)) ?_
                show J 121 [some (.ref 0), some (.int (nI k0)), some (.int (i)), some (.int (nI o0)), some (.int (j)), some (.int (n)), some (.ref (29 + 2 * k0)), some (.ref (29 + 2 * o0))] [] (bf_MD (bf_cpD (bf_u D 0 5 (nI 0)) (30 + 2 * k0) (30 + 2 * o0) i0 j0 n0))
                refine bf_iload r.1 dX8_copy_121 rfl ?_
                have ho : ox_copy P S Q F T (nI k0) i (nI o0) j n = (n, (P, sPut S o0 (some z2) (sL S o0) (va_cpy (sC S k0) (sC S o0) i0 j0 n0), Q, 0, T)) := by simp only [ox_copy, wk, wo, hz, hz2, if_pos c237, if_pos c238, if_pos c239, ci, cj, cn, on_n, on_s]
                exact re_i r dX8_copy_123 rfl rfl ⟨by rw [ho], by rw [ho]; exact (cA_S hn4 ca (cS_cp hk0 ho0 hz hz2 q1 cs) (fr_cp ho0)), (fr_29 (fr_u fr_0 (by decide) (by decide)) (fr_cp ho0))⟩
              · refine bf_aload_n r.1 dX8_copy_103 rfl ?_
                refine bf_iconst r.1 (v := nI 3) dX8_copy_104 rfl ?_
                refine cl_v r (y2 := mX8_faulted) dX8_copy_105 li_X8_58 mv_X8_faulted rfl (by decide) [.int (nI 3)] [] rfl (Nat.le_of_ble_eq_true rfl) rfl (c_X8_faulted (by omega) (bf_u D 0 5 (nI 0)) _) ?_
                show J 108 [some (.ref 0), some (.int (nI k0)), some (.int (i)), some (.int (nI o0)), some (.int (j)), some (.int (n)), some (.ref (29 + 2 * k0)), some (.ref (29 + 2 * o0))] [.int (-10 - nI 3)] (bf_MD (bf_u (bf_u D 0 5 (nI 0)) 0 5 (nI 3)))
                have ho : ox_copy P S Q F T (nI k0) i (nI o0) j n = (-10 - nI 3, (P, S, Q, 3, T)) := by simp only [ox_copy, wk, wo, hz, hz2, if_pos c237, if_pos c238, if_neg c239, on_n, on_s]
                exact re_i r dX8_copy_108 rfl rfl ⟨by rw [ho], by rw [ho]; exact (cA_5 hn4 3 ca), (fr_u (fr_u fr_0 (by decide) (by decide)) (by decide) (by decide))⟩
          · refine bf_aload_n r.1 dX8_copy_74 rfl ?_
            refine bf_iconst r.1 (v := nI 2) dX8_copy_75 rfl ?_
            refine cl_v r (y2 := mX8_faulted) dX8_copy_76 li_X8_58 mv_X8_faulted rfl (by decide) [.int (nI 2)] [] rfl (Nat.le_of_ble_eq_true rfl) rfl (c_X8_faulted (by omega) (bf_u D 0 5 (nI 0)) _) ?_
            show J 79 [some (.ref 0), some (.int (nI k0)), some (.int (i)), some (.int (nI o0)), some (.int (j)), some (.int (n)), some (.ref (29 + 2 * k0)), some (.ref (29 + 2 * o0))] [.int (-10 - nI 2)] (bf_MD (bf_u (bf_u D 0 5 (nI 0)) 0 5 (nI 2)))
            have ho : ox_copy P S Q F T (nI k0) i (nI o0) j n = (-10 - nI 2, (P, S, Q, 2, T)) := by simp only [ox_copy, wk, wo, hz, hz2, if_neg c237, on_n, on_s]
            exact re_i r dX8_copy_79 rfl rfl ⟨by rw [ho], by rw [ho]; exact (cA_5 hn4 2 ca), (fr_u (fr_u fr_0 (by decide) (by decide)) (by decide) (by decide))⟩
        · refine bf_aload_n r.1 dX8_copy_55 rfl ?_
          refine bf_iconst r.1 (v := nI 1) dX8_copy_56 rfl ?_
          refine cl_v r (y2 := mX8_faulted) dX8_copy_57 li_X8_58 mv_X8_faulted rfl (by decide) [.int (nI 1)] [] rfl (Nat.le_of_ble_eq_true rfl) rfl (c_X8_faulted (by omega) (bf_u D 0 5 (nI 0)) _) ?_
          show J 60 [some (.ref 0), some (.int (nI k0)), some (.int (i)), some (.int (nI o0)), some (.int (j)), some (.int (n)), some (.ref (29 + 2 * k0)), some (.ref (29 + 2 * o0))] [.int (-10 - nI 1)] (bf_MD (bf_u (bf_u D 0 5 (nI 0)) 0 5 (nI 1)))
          have ho : ox_copy P S Q F T (nI k0) i (nI o0) j n = (-10 - nI 1, (P, S, Q, 1, T)) := by simp only [ox_copy, wk, wo, hz, c236, on_n, on_s]
          exact re_i r dX8_copy_60 rfl rfl ⟨by rw [ho], by rw [ho]; exact (cA_5 hn4 1 ca), (fr_u (fr_u fr_0 (by decide) (by decide)) (by decide) (by decide))⟩
    · have wo := rg_n c234
      refine bf_iconst r.1 (v := -1) dX8_copy_21 rfl ?_
      have ho : ox_copy P S Q F T (nI k0) i o j n = (-1, (P, S, Q, 0, T)) := by simp only [ox_copy, wk, wo, on_n, on_s]
      exact re_i r dX8_copy_22 rfl rfl ⟨by rw [ho], by rw [ho]; exact ca, (fr_u fr_0 (by decide) (by decide))⟩
