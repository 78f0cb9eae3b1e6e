/-! panel, seen, order -/
def cCl (S : bf_Sh) (k i : Nat) : Nat → Int32 := fun u => sC S k (i + u)
def bf_inR (c : Nat → Int32) (m n : Nat) : Bool := bf_al (fun t => decide (0 ≤ c t ∧ c t < nI m)) n
theorem inR_iff {c : Nat → Int32} {m n : Nat} : bf_inR c m n = true ↔ ∀ t, t < n → 0 ≤ c t ∧ c t < nI m := by
  unfold bf_inR
  rw [bf_al_t]
  exact ⟨fun h t ht => of_decide_eq_true (h t ht), fun h t ht => decide_eq_true (h t ht)⟩
theorem bf_tf_le {c : Nat → Int32} {n t : Nat} (h : bf_tf c n = some t) : t ≤ n := by
  unfold bf_tf at h
  split at h
  · cases h; exact bf_fi_le _ _
  · split at h
    · cases h
    · cases h; exact Nat.le_refl _
def ox_panel (P : bf_Pn) (S : bf_Sh) (Q : bf_Rd) (F : Nat) (T : Int32) (k l i n : Int32) : Int32 × bf_St := bf_on (bf_rg k 4) (-1, (P, S, Q, 0, T)) fun k => bf_on (bf_rg l 3) (-2, (P, S, Q, 0, T)) fun l => if bf_foc (sZ S k) (sL S k) (nI l) i n = 0 then (if bf_tf (cCl S k i.toNatClampNeg) n.toNatClampNeg = none then (nI (pN (pTx (cCl S k i.toNatClampNeg) n.toNatClampNeg)), (pTx (cCl S k i.toNatClampNeg) n.toNatClampNeg, S, (0, Q.2), 0, T)) else (-100 - bf_tfI (bf_tf (cCl S k i.toNatClampNeg) n.toNatClampNeg), (P, S, Q, 0, T))) else (-10 - nI (bf_foc (sZ S k) (sL S k) (nI l) i n), (P, S, Q, bf_foc (sZ S k) (sL S k) (nI l) i n, T))
def ox_seen (P : bf_Pn) (S : bf_Sh) (Q : bf_Rd) (F : Nat) (T : Int32) (k l i n s wh : Int32) : Int32 × bf_St := bf_on (bf_rg k 4) (-1, (P, S, Q, 0, T)) fun k => bf_on (bf_rg l 3) (-2, (P, S, Q, 0, T)) fun l => bf_on (bf_rg n 11) (-2, (P, S, Q, 0, T)) fun n => bf_on (bf_rg s 100) (-2, (P, S, Q, 0, T)) fun s => bf_on (bf_rg wh 3) (-2, (P, S, Q, 0, T)) fun wh => if pN P = 0 then (-3, (P, S, Q, 0, T)) else if bf_foc (sZ S k) (sL S k) (nI l) i (nI (n * pN P)) = 0 then (if bf_inR (cCl S k i.toNatClampNeg) 128 (n * pN P) = true then (bf_pk (fun u => bf_bg (bf_sF P (cCl S k i.toNatClampNeg)) (pN P) (pX P) s u n) (pX P) (nI wh), (P, S, Q, 0, T)) else (-2, (P, S, Q, 0, T))) else (-10 - nI (bf_foc (sZ S k) (sL S k) (nI l) i (nI (n * pN P))), (P, S, Q, bf_foc (sZ S k) (sL S k) (nI l) i (nI (n * pN P)), T))
theorem e_X6_fillB {d : Nat} (hd : 4 ≤ d) {D0 : bf_D} {P : bf_Pn} (hv : vP P) (hc0 : cP D0 P) (h1 : 1 ≤ pN P) {S : bf_Sh} (vs : vS S) (cs0 : cS D0 S) {k : Nat} (hk : k < 4) {n i z : Nat} (hz : sZ S k = some z) (hn : n ≤ 10) (hi : i + n * pN P ≤ z) : bf_Ce d mX6_fill [.ref 22, .ref 2, .ref (29 + 2 * k), .int (nI i), .int (nI n)] D0 (fun r D' => r = some (.int (if bf_inR (cCl S k i) 128 (n * pN P) = true then 1 else 0)) ∧ (bf_inR (cCl S k i) 128 (n * pN P) = true → D' 22 1 = nI n ∧ ∀ t, t < n * pN P → D' 23 t = nI (bf_sF P (cCl S k i) t)) ∧ bf_fr 22 29 D0 D') := by
  refine bf_Ce_w (e_X6_fill hd hv hc0 h1 vs cs0 hk hz hn hi) (fun r D' h => ?_)
  obtain ⟨hf, h⟩ := h
  rcases h with ⟨rfl, ha, h1, h2⟩ | ⟨rfl, hn⟩
  · have ha2 : bf_inR (cCl S k i) 128 (n * pN P) = true := inR_iff.mpr ha
    exact ⟨by rw [if_pos ha2], fun _ => ⟨h1, h2⟩, fr_w hf (by decide) (by decide)⟩
  · have hn2 : ¬ bf_inR (cCl S k i) 128 (n * pN P) = true := fun q => hn (inR_iff.mp q)
    exact ⟨by rw [if_neg hn2], fun q => absurd q hn2, fr_w hf (by decide) (by decide)⟩
theorem e_X1_fillB {d : Nat} (hd : 4 ≤ d) {D0 : bf_D} {P : bf_Pn} (hv : vP P) (hc0 : cP D0 P) {S : bf_Sh} (vs : vS S) (cs0 : cS D0 S) {k : Nat} (hk : k < 4) {n i z : Nat} (hz : sZ S k = some z) (hn : n ≤ 6) (hi : i + n ≤ z) : bf_Ce d mX1_fill [.ref 24, .ref 2, .ref (29 + 2 * k), .int (nI i), .int (nI n)] D0 (fun r D' => r = some (.int (if bf_inR (cCl S k i) (pX P) n = true then 1 else 0)) ∧ (bf_inR (cCl S k i) (pX P) n = true → D' 24 4 = nI n ∧ ∀ a, a < n → ∀ b, b < n → D' 26 (a * 6 + b) = nI (pF P (bf_cn (cCl S k i) a) (bf_cn (cCl S k i) b))) ∧ bf_fr 22 29 D0 D') := by
  refine bf_Ce_w (e_X1_fill hd hv hc0 vs cs0 hk hz hn hi) (fun r D' h => ?_)
  obtain ⟨hf, h⟩ := h
  rcases h with ⟨rfl, ha, h1, h2⟩ | ⟨rfl, hn⟩
  · have ha2 : bf_inR (cCl S k i) (pX P) n = true := inR_iff.mpr ha
    exact ⟨by rw [if_pos ha2], fun _ => ⟨h1, h2⟩, fr_w hf (by decide) (by decide)⟩
  · have hn2 : ¬ bf_inR (cCl S k i) (pX P) n = true := fun q => hn (inR_iff.mp q)
    exact ⟨by rw [if_neg hn2], fun q => absurd q hn2, fr_w hf (by decide) (by decide)⟩
theorem e_X8_panel {d : Nat} (hd : 10 ≤ d) {D : bf_D} {P : bf_Pn} {S : bf_Sh} {Q : bf_Rd} {F : Nat} {T : Int32} (va : vA (P, S, Q, F, T)) (ca : cA D (P, S, Q, F, T)) (k l i n : Int32) : bf_Ce d mX8_panel [.ref 0, .int (k), .int (l), .int (i), .int (n)] D (fun r D' => r = some (.int (ox_panel P S Q F T k l i n).1) ∧ cA D' (ox_panel P S Q F T k l i n).2 ∧ bf_fr 0 37 D D') := by
  refine bf_Ce_of 9 hd mo_X8_panel (Nat.le_of_ble_eq_true rfl) (fun e he J r => ?_)
  show J 0 [some (.ref 0), some (.int (k)), some (.int (l)), some (.int (i)), some (.int (n)), none, none, none] [] (bf_MD D)
  obtain ⟨hv, vs, vr, hF⟩ := id va
  obtain ⟨hc, cs, cr, c5, c6⟩ := id ca
  have hn4 := hv.1
  have hx4 := pX_le hv
  have hx0 := pX_pos P
  refine bf_aload_n r.1 dX8_panel_0 rfl ?_
  refine bf_iconst r.1 (v := nI 0) dX8_panel_1 rfl ?_
  refine ip_int r dX8_panel_2 fp_X8_46 rfl (by decide) rfl ?_
  replace ca := cA_5 hn4 0 ca
  obtain ⟨hc, cs, cr, c5, c6⟩ := id ca
  refine bf_iload_n r.1 dX8_panel_5 rfl ?_
  refine bf_iconst r.1 (v := nI 4) dX8_panel_6 rfl ?_
  refine cl_s r (y2 := mX8_isWithin) dX8_panel_7 li_X8_50 mv_X8_isWithin [.int (k), .int (nI 4)] [] rfl (Nat.le_of_ble_eq_true rfl) rfl (c_X8_isWithin (by omega) (bf_u D 0 5 (nI 0)) _ _) ?_
  show J 10 [some (.ref 0), some (.int (k)), some (.int (l)), some (.int (i)), some (.int (n)), none, none, none] [.int (if 0 ≤ k ∧ k < nI 4 then 1 else 0)] (bf_MD (bf_u D 0 5 (nI 0)))
  refine nb_ne r (tgt := 15) dX8_panel_10 (by decide) (fun c268 => ?_) (fun c268 => ?_)
  · obtain ⟨k0, hk0, rfl⟩ := rg_in (by decide) c268
    have wk := rg_s hk0 (by decide)
    refine bf_iload_n r.1 dX8_panel_15 rfl ?_
    refine bf_iconst r.1 (v := nI 3) dX8_panel_16 rfl ?_
    refine cl_s r (y2 := mX8_isWithin) dX8_panel_17 li_X8_50 mv_X8_isWithin [.int (l), .int (nI 3)] [] rfl (Nat.le_of_ble_eq_true rfl) rfl (c_X8_isWithin (by omega) (bf_u D 0 5 (nI 0)) _ _) ?_
    show J 20 [some (.ref 0), some (.int (nI k0)), some (.int (l)), some (.int (i)), some (.int (n)), none, none, none] [.int (if 0 ≤ l ∧ l < nI 3 then 1 else 0)] (bf_MD (bf_u D 0 5 (nI 0)))
    refine nb_ne r (tgt := 26) dX8_panel_20 (by decide) (fun c269 => ?_) (fun c269 => ?_)
    · obtain ⟨l0, hl0, rfl⟩ := rg_in (by decide) c269
      have wl := rg_s hl0 (by decide)
      refine bf_aload_n r.1 dX8_panel_26 rfl ?_
      refine ig_ref r (b := 1) dX8_panel_27 fl_X8_13 rfl (by decide) rfl ?_
      refine bf_iload_n r.1 dX8_panel_30 rfl ?_
      refine aa_ld r (n := 4) (b := 29 + 2 * k0) dX8_panel_31 (by decide) rfl (by decide) hk0 (ad_a1 hk0) ?_
      refine bf_astore r.1 (L2 := [some (.ref 0), some (.int (nI k0)), some (.int (nI l0)), some (.int (i)), some (.int (n)), some (.ref (29 + 2 * k0)), none, none]) dX8_panel_32 rfl ?_
      refine bf_aload r.1 dX8_panel_34 rfl ?_
      refine bf_iload_n r.1 dX8_panel_36 rfl ?_
      refine bf_iload_n r.1 dX8_panel_37 rfl ?_
      refine bf_iload r.1 dX8_panel_38 rfl ?_
      refine cl_v r (y2 := mX5_faultOfCells) dX8_panel_40 li_X8_54 mv_X5_faultOfCells (ad_c29 hk0) (ad_l29 hk0) [.int (nI l0), .int (i), .int (n)] [] rfl (Nat.le_of_ble_eq_true rfl) rfl (c_X5_faultOfCells (by omega) vs cs hk0 (nI l0) i n) ?_
      show J 43 [some (.ref 0), some (.int (nI k0)), some (.int (nI l0)), some (.int (i)), some (.int (n)), some (.ref (29 + 2 * k0)), none, none] [.int (nI (bf_foc (sZ S k0) (sL S k0) (nI l0) i n))] (bf_MD (bf_u D 0 5 (nI 0)))
      refine bf_istore r.1 (L2 := [some (.ref 0), some (.int (nI k0)), some (.int (nI l0)), some (.int (i)), some (.int (n)), some (.ref (29 + 2 * k0)), some (.int (nI (bf_foc (sZ S k0) (sL S k0) (nI l0) i n))), none]) dX8_panel_43 rfl ?_
      refine bf_iload r.1 dX8_panel_45 rfl ?_
      refine nz_eq r (tgt := 57) dX8_panel_47 (by decide) (by have := bf_foc_le (sZ S k0) (sL S k0) (nI l0) i n; omega) (fun c270 => ?_) (fun c270 => ?_)
      · obtain ⟨z, hz, _, q0, q1, q2⟩ := bf_foc_0 c270
        have z60 := (vs k0 hk0).2 z hz
        obtain ⟨i0, hi31, hi⟩ := nI_of (x := i) (Int32.not_lt.mpr ((bf_le0 i).mpr q0))
        have ci : i.toNatClampNeg = i0 := (bf_cl_eq hi hi31).1
        have ti : i.toInt = i0 := by rw [hi]; exact nI_toInt hi31
        obtain ⟨n0, hn31, hn⟩ := nI_of (x := n) (Int32.not_lt.mpr ((bf_le0 n).mpr q1))
        have cn : n.toNatClampNeg = n0 := (bf_cl_eq hn hn31).1
        have tn : n.toInt = n0 := by rw [hn]; exact nI_toInt hn31
        have q3 : i0 + n0 ≤ z := by omega
        refine bf_aload r.1 dX8_panel_57 rfl ?_
        refine bf_iload_n r.1 dX8_panel_59 rfl ?_
        refine eq_i (v := nI i0) hi ?_
        refine bf_iload r.1 dX8_panel_60 rfl ?_
        refine eq_i (v := nI n0) hn ?_
        refine cl_s r (y2 := mX7_firstFault) dX8_panel_62 li_X8_62 mv_X7_firstFault [.ref (29 + 2 * k0), .int (nI i0), .int (nI n0)] [] rfl (Nat.le_of_ble_eq_true rfl) rfl (c_X7_firstFault (by omega) vs cs hk0 hz (by omega)) ?_
        show J 65 [some (.ref 0), some (.int (nI k0)), some (.int (nI l0)), some (.int (i)), some (.int (n)), some (.ref (29 + 2 * k0)), some (.int (nI (bf_foc (sZ S k0) (sL S k0) (nI l0) i n))), none] [.int (bf_tfI (bf_tf (fun u => sC S k0 (i0 + u)) n0))] (bf_MD (bf_u D 0 5 (nI 0)))
        refine bf_istore r.1 (L2 := [some (.ref 0), some (.int (nI k0)), some (.int (nI l0)), some (.int (i)), some (.int (n)), some (.ref (29 + 2 * k0)), some (.int (nI (bf_foc (sZ S k0) (sL S k0) (nI l0) i n))), some (.int (bf_tfI (bf_tf (fun u => sC S k0 (i0 + u)) n0)))]) dX8_panel_65 rfl ?_
        by_cases ht : bf_tf (fun u => sC S k0 (i0 + u)) n0 = none
        · rw [ht]
          show J 67 [some (.ref 0), some (.int (nI k0)), some (.int (nI l0)), some (.int (i)), some (.int (n)), some (.ref (29 + 2 * k0)), some (.int (nI (bf_foc (sZ S k0) (sL S k0) (nI l0) i n))), some (.int (-1))] [] (bf_MD (bf_u D 0 5 (nI 0)))
          have hok := tOk_of ht
          have ht2 : bf_tf (cCl S k0 i0) n0 = none := ht
          refine bf_iload r.1 dX8_panel_67 rfl ?_
          refine bf_iconst r.1 (v := -1) dX8_panel_69 rfl ?_
          refine bf_icmp_eq r.1 (tgt := 79) dX8_panel_70 (by decide) (fun c271 => ?_) (fun c271 => ?_)
          · refine bf_aload_n r.1 dX8_panel_79 rfl ?_
            refine ig_ref r (b := 2) dX8_panel_80 fl_X8_20 rfl (by decide) rfl ?_
            refine bf_aload r.1 dX8_panel_83 rfl ?_
            refine bf_iload_n r.1 dX8_panel_85 rfl ?_
            refine eq_i (v := nI i0) hi ?_
            refine bf_iload r.1 dX8_panel_86 rfl ?_
            refine eq_i (v := nI n0) hn ?_
            refine ce_s r (y2 := mX7_fill) dX8_panel_88 li_X8_68 mv_X7_fill [.ref 2, .ref (29 + 2 * k0), .int (nI i0), .int (nI n0)] [] rfl (Nat.le_of_ble_eq_true rfl) rfl (e_X7_fill (by omega) vs cs hc.2.2 hk0 hz (by omega) hok) (fun res D272 hq272 => ?_)
            obtain ⟨rfl, hc272, hf272⟩ := hq272
            show J 91 [some (.ref 0), some (.int (nI k0)), some (.int (nI l0)), some (.int (i)), some (.int (n)), some (.ref (29 + 2 * k0)), some (.int (nI (bf_foc (sZ S k0) (sL S k0) (nI l0) i n))), some (.int (-1))] [] (bf_MD D272)
            replace ca := cA_P ca (P' := pTx (cCl S k0 i0) n0) hc272 hf272
            obtain ⟨hc, cs, cr, c5, c6⟩ := id ca
            have hn5 := (vP_tx hok).1
            refine bf_aload_n r.1 dX8_panel_91 rfl ?_
            refine ig_ref r (b := 18) dX8_panel_92 fl_X8_27 rfl (by decide) rfl ?_
            refine bf_iconst r.1 (v := nI 0) dX8_panel_95 rfl ?_
            refine ip_int r dX8_panel_96 fp_X8_72 rfl (by decide) rfl ?_
            replace ca := cA_R hn5 ca (cR_bk (Nat.zero_le _) cr) (fr_u fr_0 (by decide) (by decide))
            obtain ⟨hc, cs, cr, c5, c6⟩ := id ca
            refine bf_aload_n r.1 dX8_panel_99 rfl ?_
            refine ig_ref r (b := 2) dX8_panel_100 fl_X8_20 rfl (by decide) rfl ?_
            refine ig_int r (v := nI (pN (pTx (cCl S k0 i0) n0))) dX8_panel_103 fl_X8_75 rfl (by decide) rfl hc.1.1 ?_
            have ho : ox_panel P S Q F T (nI k0) (nI l0) i n = (nI (pN (pTx (cCl S k0 i0) n0)), (pTx (cCl S k0 i0) n0, S, (0, Q.2), 0, T)) := by simp only [ox_panel, wk, wl, if_pos c270, ci, cn, if_pos ht2, on_n, on_s]
            exact re_i r dX8_panel_106 rfl rfl ⟨by rw [ho], by rw [ho]; exact ca, (fr_u (fr_t (fr_u fr_0 (by decide) (by decide)) (fr_w hf272 (by decide) (by decide))) (by decide) (by decide))⟩
          · exact absurd rfl c271
        · obtain ⟨t, ht1⟩ := Option.ne_none_iff_exists'.mp ht
          have htl := bf_tf_le ht1
          rw [ht1]
          show J 67 [some (.ref 0), some (.int (nI k0)), some (.int (nI l0)), some (.int (i)), some (.int (n)), some (.ref (29 + 2 * k0)), some (.int (nI (bf_foc (sZ S k0) (sL S k0) (nI l0) i n))), some (.int (nI t))] [] (bf_MD (bf_u D 0 5 (nI 0)))
          have ht3 : bf_tf (cCl S k0 i0) n0 = some t := ht1
          have ht4 : ¬ (some t : Option Nat) = none := by simp
          refine bf_iload r.1 dX8_panel_67 rfl ?_
          refine bf_iconst r.1 (v := -1) dX8_panel_69 rfl ?_
          refine bf_icmp_eq r.1 (tgt := 79) dX8_panel_70 (by decide) (fun c273 => ?_) (fun c273 => ?_)
          · exact absurd c273 (bf_nm1 (by omega))
          · refine bf_bipush r.1 (v := -100) dX8_panel_73 rfl ?_
            refine bf_iload r.1 dX8_panel_75 rfl ?_
            refine bf_isub r.1 dX8_panel_77 ?_
            have ho : ox_panel P S Q F T (nI k0) (nI l0) i n = ((-100) - (nI t), (P, S, Q, 0, T)) := by simp only [ox_panel, wk, wl, if_pos c270, ci, cn, if_neg ht4, ht3, bf_tfI, on_n, on_s]
            exact re_i r dX8_panel_78 rfl rfl ⟨by rw [ho], by rw [ho]; exact ca, (fr_u fr_0 (by decide) (by decide))⟩
      · refine bf_aload_n r.1 dX8_panel_50 rfl ?_
        refine bf_iload r.1 dX8_panel_51 rfl ?_
        refine cl_v r (y2 := mX8_faulted) dX8_panel_53 li_X8_58 mv_X8_faulted rfl (by decide) [.int (nI (bf_foc (sZ S k0) (sL S k0) (nI l0) i n))] [] rfl (Nat.le_of_ble_eq_true rfl) rfl (c_X8_faulted (by omega) (bf_u D 0 5 (nI 0)) _) ?_
        show J 56 [some (.ref 0), some (.int (nI k0)), some (.int (nI l0)), some (.int (i)), some (.int (n)), some (.ref (29 + 2 * k0)), some (.int (nI (bf_foc (sZ S k0) (sL S k0) (nI l0) i n))), none] [.int (-10 - nI (bf_foc (sZ S k0) (sL S k0) (nI l0) i n))] (bf_MD (bf_u (bf_u D 0 5 (nI 0)) 0 5 (nI (bf_foc (sZ S k0) (sL S k0) (nI l0) i n))))
        have ho : ox_panel P S Q F T (nI k0) (nI l0) i n = (-10 - nI (bf_foc (sZ S k0) (sL S k0) (nI l0) i n), (P, S, Q, (bf_foc (sZ S k0) (sL S k0) (nI l0) i n), T)) := by simp only [ox_panel, wk, wl, if_neg c270, on_n, on_s]
        exact re_i r dX8_panel_56 rfl rfl ⟨by rw [ho], by rw [ho]; exact (cA_5 hn4 (bf_foc (sZ S k0) (sL S k0) (nI l0) i n) ca), (fr_u (fr_u fr_0 (by decide) (by decide)) (by decide) (by decide))⟩
    · have wl := rg_n c269
      refine bf_bipush r.1 (v := -2) dX8_panel_23 rfl ?_
      have ho : ox_panel P S Q F T (nI k0) l i n = (-2, (P, S, Q, 0, T)) := by simp only [ox_panel, wk, wl, on_n, on_s]
      exact re_i r dX8_panel_25 rfl rfl ⟨by rw [ho], by rw [ho]; exact ca, (fr_u fr_0 (by decide) (by decide))⟩
  · have wk := rg_n c268
    refine bf_iconst r.1 (v := -1) dX8_panel_13 rfl ?_
    have ho : ox_panel P S Q F T k l i n = (-1, (P, S, Q, 0, T)) := by simp only [ox_panel, wk, on_n, on_s]
    exact re_i r dX8_panel_14 rfl rfl ⟨by rw [ho], by rw [ho]; exact ca, (fr_u fr_0 (by decide) (by decide))⟩
theorem e_X8_seen {d : Nat} (hd : 10 ≤ d) {D : bf_D} {P : bf_Pn} {S : bf_Sh} {Q : bf_Rd} {F : Nat} {T : Int32} (va : vA (P, S, Q, F, T)) (ca : cA D (P, S, Q, F, T)) (k l i n s wh : Int32) : bf_Ce d mX8_seen [.ref 0, .int (k), .int (l), .int (i), .int (n), .int (s), .int (wh)] D (fun r D' => r = some (.int (ox_seen P S Q F T k l i n s wh).1) ∧ cA D' (ox_seen P S Q F T k l i n s wh).2 ∧ bf_fr 0 37 D D') := by
  refine bf_Ce_of 9 hd mo_X8_seen (Nat.le_of_ble_eq_true rfl) (fun e he J r => ?_)
  show J 0 [some (.ref 0), some (.int (k)), some (.int (l)), some (.int (i)), some (.int (n)), some (.int (s)), some (.int (wh)), none, none] [] (bf_MD D)
  obtain ⟨hv, vs, vr, hF⟩ := id va
  obtain ⟨hc, cs, cr, c5, c6⟩ := id ca
  have hn4 := hv.1
  have hx4 := pX_le hv
  have hx0 := pX_pos P
  refine bf_aload_n r.1 dX8_seen_0 rfl ?_
  refine bf_iconst r.1 (v := nI 0) dX8_seen_1 rfl ?_
  refine ip_int r dX8_seen_2 fp_X8_46 rfl (by decide) rfl ?_
  replace ca := cA_5 hn4 0 ca
  obtain ⟨hc, cs, cr, c5, c6⟩ := id ca
  refine bf_iload_n r.1 dX8_seen_5 rfl ?_
  refine bf_iconst r.1 (v := nI 4) dX8_seen_6 rfl ?_
  refine cl_s r (y2 := mX8_isWithin) dX8_seen_7 li_X8_50 mv_X8_isWithin [.int (k), .int (nI 4)] [] rfl (Nat.le_of_ble_eq_true rfl) rfl (c_X8_isWithin (by omega) (bf_u D 0 5 (nI 0)) _ _) ?_
  show J 10 [some (.ref 0), some (.int (k)), some (.int (l)), some (.int (i)), some (.int (n)), some (.int (s)), some (.int (wh)), none, none] [.int (if 0 ≤ k ∧ k < nI 4 then 1 else 0)] (bf_MD (bf_u D 0 5 (nI 0)))
  refine nb_ne r (tgt := 15) dX8_seen_10 (by decide) (fun c274 => ?_) (fun c274 => ?_)
  · obtain ⟨k0, hk0, rfl⟩ := rg_in (by decide) c274
    have wk := rg_s hk0 (by decide)
    refine bf_iload_n r.1 dX8_seen_15 rfl ?_
    refine bf_iconst r.1 (v := nI 3) dX8_seen_16 rfl ?_
    refine cl_s r (y2 := mX8_isWithin) dX8_seen_17 li_X8_50 mv_X8_isWithin [.int (l), .int (nI 3)] [] rfl (Nat.le_of_ble_eq_true rfl) rfl (c_X8_isWithin (by omega) (bf_u D 0 5 (nI 0)) _ _) ?_
    show J 20 [some (.ref 0), some (.int (nI k0)), some (.int (l)), some (.int (i)), some (.int (n)), some (.int (s)), some (.int (wh)), none, none] [.int (if 0 ≤ l ∧ l < nI 3 then 1 else 0)] (bf_MD (bf_u D 0 5 (nI 0)))
    refine nb_eq r (tgt := 52) dX8_seen_20 (by decide) (fun c275 => ?_) (fun c275 => ?_)
    · have wl := rg_n c275
      refine bf_bipush r.1 (v := -2) dX8_seen_52 rfl ?_
      have ho : ox_seen P S Q F T (nI k0) l i n s wh = (-2, (P, S, Q, 0, T)) := by simp only [ox_seen, wk, wl, on_n, on_s]
      exact re_i r dX8_seen_54 rfl rfl ⟨by rw [ho], by rw [ho]; exact ca, (fr_u fr_0 (by decide) (by decide))⟩
    · obtain ⟨l0, hl0, rfl⟩ := rg_in (by decide) c275
      have wl := rg_s hl0 (by decide)
      refine bf_iload r.1 dX8_seen_23 rfl ?_
      refine bf_bipush r.1 (v := nI 11) dX8_seen_25 rfl ?_
      refine cl_s r (y2 := mX8_isWithin) dX8_seen_27 li_X8_50 mv_X8_isWithin [.int (n), .int (nI 11)] [] rfl (Nat.le_of_ble_eq_true rfl) rfl (c_X8_isWithin (by omega) (bf_u D 0 5 (nI 0)) _ _) ?_
      show J 30 [some (.ref 0), some (.int (nI k0)), some (.int (nI l0)), some (.int (i)), some (.int (n)), some (.int (s)), some (.int (wh)), none, none] [.int (if 0 ≤ n ∧ n < nI 11 then 1 else 0)] (bf_MD (bf_u D 0 5 (nI 0)))
      refine nb_eq r (tgt := 52) dX8_seen_30 (by decide) (fun c276 => ?_) (fun c276 => ?_)
      · have wn := rg_n c276
        refine bf_bipush r.1 (v := -2) dX8_seen_52 rfl ?_
        have ho : ox_seen P S Q F T (nI k0) (nI l0) i n s wh = (-2, (P, S, Q, 0, T)) := by simp only [ox_seen, wk, wl, wn, on_n, on_s]
        exact re_i r dX8_seen_54 rfl rfl ⟨by rw [ho], by rw [ho]; exact ca, (fr_u fr_0 (by decide) (by decide))⟩
      · obtain ⟨n0, hn0, rfl⟩ := rg_in (by decide) c276
        have wn := rg_s hn0 (by decide)
        refine bf_iload r.1 dX8_seen_33 rfl ?_
        refine bf_bipush r.1 (v := nI 100) dX8_seen_35 rfl ?_
        refine cl_s r (y2 := mX8_isWithin) dX8_seen_37 li_X8_50 mv_X8_isWithin [.int (s), .int (nI 100)] [] rfl (Nat.le_of_ble_eq_true rfl) rfl (c_X8_isWithin (by omega) (bf_u D 0 5 (nI 0)) _ _) ?_
        show J 40 [some (.ref 0), some (.int (nI k0)), some (.int (nI l0)), some (.int (i)), some (.int (nI n0)), some (.int (s)), some (.int (wh)), none, none] [.int (if 0 ≤ s ∧ s < nI 100 then 1 else 0)] (bf_MD (bf_u D 0 5 (nI 0)))
        refine nb_eq r (tgt := 52) dX8_seen_40 (by decide) (fun c277 => ?_) (fun c277 => ?_)
        · have ws := rg_n c277
          refine bf_bipush r.1 (v := -2) dX8_seen_52 rfl ?_
          have ho : ox_seen P S Q F T (nI k0) (nI l0) i (nI n0) s wh = (-2, (P, S, Q, 0, T)) := by simp only [ox_seen, wk, wl, wn, ws, on_n, on_s]
          exact re_i r dX8_seen_54 rfl rfl ⟨by rw [ho], by rw [ho]; exact ca, (fr_u fr_0 (by decide) (by decide))⟩
        · obtain ⟨s0, hs0, rfl⟩ := rg_in (by decide) c277
          have ws := rg_s hs0 (by decide)
          refine bf_iload r.1 dX8_seen_43 rfl ?_
          refine bf_iconst r.1 (v := nI 3) dX8_seen_45 rfl ?_
          refine cl_s r (y2 := mX8_isWithin) dX8_seen_46 li_X8_50 mv_X8_isWithin [.int (wh), .int (nI 3)] [] rfl (Nat.le_of_ble_eq_true rfl) rfl (c_X8_isWithin (by omega) (bf_u D 0 5 (nI 0)) _ _) ?_
          show J 49 [some (.ref 0), some (.int (nI k0)), some (.int (nI l0)), some (.int (i)), some (.int (nI n0)), some (.int (nI s0)), some (.int (wh)), none, none] [.int (if 0 ≤ wh ∧ wh < nI 3 then 1 else 0)] (bf_MD (bf_u D 0 5 (nI 0)))
          refine nb_ne r (tgt := 55) dX8_seen_49 (by decide) (fun c278 => ?_) (fun c278 => ?_)
          · obtain ⟨wh0, hwh0, rfl⟩ := rg_in (by decide) c278
            have wwh := rg_s hwh0 (by decide)
            refine bf_aload_n r.1 dX8_seen_55 rfl ?_
            refine ig_ref r (b := 2) dX8_seen_56 fl_X8_20 rfl (by decide) rfl ?_
            refine cl_v r (y2 := mX2_isNone) dX8_seen_59 li_X8_122 mv_X2_isNone rfl (by decide) [] [] rfl (Nat.le_of_ble_eq_true rfl) rfl (c_X2_isNone (by omega) hv hc) ?_
            show J 62 [some (.ref 0), some (.int (nI k0)), some (.int (nI l0)), some (.int (i)), some (.int (nI n0)), some (.int (nI s0)), some (.int (nI wh0)), none, none] [.int (if pN P = 0 then 1 else 0)] (bf_MD (bf_u D 0 5 (nI 0)))
            refine nb_eq r (tgt := 68) dX8_seen_62 (by decide) (fun c279 => ?_) (fun c279 => ?_)
            · have h1n : 1 ≤ pN P := by omega
              refine bf_aload_n r.1 dX8_seen_68 rfl ?_
              refine ig_ref r (b := 1) dX8_seen_69 fl_X8_13 rfl (by decide) rfl ?_
              refine bf_iload_n r.1 dX8_seen_72 rfl ?_
              refine aa_ld r (n := 4) (b := 29 + 2 * k0) dX8_seen_73 (by decide) rfl (by decide) hk0 (ad_a1 hk0) ?_
              refine bf_astore r.1 (L2 := [some (.ref 0), some (.int (nI k0)), some (.int (nI l0)), some (.int (i)), some (.int (nI n0)), some (.int (nI s0)), some (.int (nI wh0)), some (.ref (29 + 2 * k0)), none]) dX8_seen_74 rfl ?_
              refine bf_aload r.1 dX8_seen_76 rfl ?_
              refine bf_iload_n r.1 dX8_seen_78 rfl ?_
              refine bf_iload_n r.1 dX8_seen_79 rfl ?_
              refine bf_iload r.1 dX8_seen_80 rfl ?_
              refine bf_aload_n r.1 dX8_seen_82 rfl ?_
              refine ig_ref r (b := 2) dX8_seen_83 fl_X8_20 rfl (by decide) rfl ?_
              refine ig_int r (v := nI (pN P)) dX8_seen_86 fl_X8_75 rfl (by decide) rfl (cP_n (P := P) hc) ?_
              refine na_mul r dX8_seen_89  ?_
              show J 90 [some (.ref 0), some (.int (nI k0)), some (.int (nI l0)), some (.int (i)), some (.int (nI n0)), some (.int (nI s0)), some (.int (nI wh0)), some (.ref (29 + 2 * k0)), none] [.int (nI (n0 * pN P)), .int (i), .int (nI l0), .ref (29 + 2 * k0)] (bf_MD (bf_u D 0 5 (nI 0)))
              refine cl_v r (y2 := mX5_faultOfCells) dX8_seen_90 li_X8_54 mv_X5_faultOfCells (ad_c29 hk0) (ad_l29 hk0) [.int (nI l0), .int (i), .int (nI (n0 * pN P))] [] rfl (Nat.le_of_ble_eq_true rfl) rfl (c_X5_faultOfCells (by omega) vs cs hk0 (nI l0) i (nI (n0 * pN P))) ?_
              show J 93 [some (.ref 0), some (.int (nI k0)), some (.int (nI l0)), some (.int (i)), some (.int (nI n0)), some (.int (nI s0)), some (.int (nI wh0)), some (.ref (29 + 2 * k0)), none] [.int (nI (bf_foc (sZ S k0) (sL S k0) (nI l0) i (nI (n0 * pN P))))] (bf_MD (bf_u D 0 5 (nI 0)))
              refine bf_istore r.1 (L2 := [some (.ref 0), some (.int (nI k0)), some (.int (nI l0)), some (.int (i)), some (.int (nI n0)), some (.int (nI s0)), some (.int (nI wh0)), some (.ref (29 + 2 * k0)), some (.int (nI (bf_foc (sZ S k0) (sL S k0) (nI l0) i (nI (n0 * pN P)))))]) dX8_seen_93 rfl ?_
              refine bf_iload r.1 dX8_seen_95 rfl ?_
              refine nz_eq r (tgt := 107) dX8_seen_97 (by decide) (by have := bf_foc_le (sZ S k0) (sL S k0) (nI l0) i (nI (n0 * pN P)); omega) (fun c280 => ?_) (fun c280 => ?_)
              · obtain ⟨z, hz, _, q0, _, q2⟩ := bf_foc_0 c280
                have z60 := (vs k0 hk0).2 z hz
                have hm4 : n0 * pN P ≤ 10 * 4 := Nat.mul_le_mul (by omega) hn4
                obtain ⟨i0, hi31, hi⟩ := nI_of (x := i) (Int32.not_lt.mpr ((bf_le0 i).mpr q0))
                have ci : i.toNatClampNeg = i0 := (bf_cl_eq hi hi31).1
                have ti : i.toInt = i0 := by rw [hi]; exact nI_toInt hi31
                rw [nI_toInt (by omega)] at q2
                have q3 : i0 + n0 * pN P ≤ z := by omega
                refine bf_aload_n r.1 dX8_seen_107 rfl ?_
                refine ig_ref r (b := 22) dX8_seen_108 fl_X8_34 rfl (by decide) rfl ?_
                refine bf_aload_n r.1 dX8_seen_111 rfl ?_
                refine ig_ref r (b := 2) dX8_seen_112 fl_X8_20 rfl (by decide) rfl ?_
                refine bf_aload r.1 dX8_seen_115 rfl ?_
                refine bf_iload_n r.1 dX8_seen_117 rfl ?_
                refine eq_i (v := nI i0) hi ?_
                refine bf_iload r.1 dX8_seen_118 rfl ?_
                refine ce_v r (y2 := mX6_fill) dX8_seen_120 li_X8_165 mv_X6_fill rfl (by decide) [.ref 2, .ref (29 + 2 * k0), .int (nI i0), .int (nI n0)] [] rfl (Nat.le_of_ble_eq_true rfl) rfl (e_X6_fillB (by omega) hv hc (Nat.one_le_iff_ne_zero.mpr c279) vs cs hk0 hz (by omega) q3) (fun res D281 hq281 => ?_)
                obtain ⟨rfl, hw281, hf281⟩ := hq281
                show J 123 [some (.ref 0), some (.int (nI k0)), some (.int (nI l0)), some (.int (i)), some (.int (nI n0)), some (.int (nI s0)), some (.int (nI wh0)), some (.ref (29 + 2 * k0)), some (.int (nI (bf_foc (sZ S k0) (sL S k0) (nI l0) i (nI (n0 * pN P)))))] [.int (if bf_inR (cCl S k0 i0) 128 (n0 * pN P) = true then 1 else 0)] (bf_MD D281)
                replace ca := cA_x hn4 ca hf281
                obtain ⟨hc, cs, cr, c5, c6⟩ := id ca
                refine nb_ne r (tgt := 129) dX8_seen_123 (by decide) (fun c282 => ?_) (fun c282 => ?_)
                · have hW := hw281 c282
                  refine bf_aload_n r.1 dX8_seen_129 rfl ?_
                  refine ig_ref r (b := 22) dX8_seen_130 fl_X8_34 rfl (by decide) rfl ?_
                  refine bf_aload_n r.1 dX8_seen_133 rfl ?_
                  refine ig_ref r (b := 2) dX8_seen_134 fl_X8_20 rfl (by decide) rfl ?_
                  refine bf_iload r.1 dX8_seen_137 rfl ?_
                  refine bf_iload r.1 dX8_seen_139 rfl ?_
                  refine cl_v r (y2 := mX6_begins) dX8_seen_141 li_X8_168 mv_X6_begins rfl (by decide) [.ref 2, .int (nI s0), .int (nI wh0)] [] rfl (Nat.le_of_ble_eq_true rfl) rfl (c_X6_begins (by omega) hv hc (Nat.one_le_iff_ne_zero.mpr c279) (F := bf_sF P (cCl S k0 i0)) (rs := n0) (by omega) (by omega) hW.1 (fun t ht => ⟨hW.2 t ht, pM_lt _ _ _⟩) (nI wh0)) ?_
                  show J 144 [some (.ref 0), some (.int (nI k0)), some (.int (nI l0)), some (.int (i)), some (.int (nI n0)), some (.int (nI s0)), some (.int (nI wh0)), some (.ref (29 + 2 * k0)), some (.int (nI (bf_foc (sZ S k0) (sL S k0) (nI l0) i (nI (n0 * pN P)))))] [.int (bf_pk (fun u => bf_bg (bf_sF P (cCl S k0 i0)) (pN P) (pX P) s0 u n0) (pX P) (nI wh0))] (bf_MD D281)
                  have ho : ox_seen P S Q F T (nI k0) (nI l0) i (nI n0) (nI s0) (nI wh0) = (bf_pk (fun u => bf_bg (bf_sF P (cCl S k0 i0)) (pN P) (pX P) s0 u n0) (pX P) (nI wh0), (P, S, Q, 0, T)) := by simp only [ox_seen, wk, wl, wn, ws, wwh, if_neg c279, if_pos c280, ci, if_pos c282, on_n, on_s]
                  exact re_i r dX8_seen_144 rfl rfl ⟨by rw [ho], by rw [ho]; exact ca, (fr_t (fr_u fr_0 (by decide) (by decide)) (fr_w hf281 (by decide) (by decide)))⟩
                · refine bf_bipush r.1 (v := -2) dX8_seen_126 rfl ?_
                  have ho : ox_seen P S Q F T (nI k0) (nI l0) i (nI n0) (nI s0) (nI wh0) = (-2, (P, S, Q, 0, T)) := by simp only [ox_seen, wk, wl, wn, ws, wwh, if_neg c279, if_pos c280, ci, if_neg c282, on_n, on_s]
                  exact re_i r dX8_seen_128 rfl rfl ⟨by rw [ho], by rw [ho]; exact ca, (fr_t (fr_u fr_0 (by decide) (by decide)) (fr_w hf281 (by decide) (by decide)))⟩
              · refine bf_aload_n r.1 dX8_seen_100 rfl ?_
                refine bf_iload r.1 dX8_seen_101 rfl ?_
                refine cl_v r (y2 := mX8_faulted) dX8_seen_103 li_X8_58 mv_X8_faulted rfl (by decide) [.int (nI (bf_foc (sZ S k0) (sL S k0) (nI l0) i (nI (n0 * pN P))))] [] rfl (Nat.le_of_ble_eq_true rfl) rfl (c_X8_faulted (by omega) (bf_u D 0 5 (nI 0)) _) ?_
                show J 106 [some (.ref 0), some (.int (nI k0)), some (.int (nI l0)), some (.int (i)), some (.int (nI n0)), some (.int (nI s0)), some (.int (nI wh0)), some (.ref (29 + 2 * k0)), some (.int (nI (bf_foc (sZ S k0) (sL S k0) (nI l0) i (nI (n0 * pN P)))))] [.int (-10 - nI (bf_foc (sZ S k0) (sL S k0) (nI l0) i (nI (n0 * pN P))))] (bf_MD (bf_u (bf_u D 0 5 (nI 0)) 0 5 (nI (bf_foc (sZ S k0) (sL S k0) (nI l0) i (nI (n0 * pN P))))))
                have ho : ox_seen P S Q F T (nI k0) (nI l0) i (nI n0) (nI s0) (nI wh0) = (-10 - nI (bf_foc (sZ S k0) (sL S k0) (nI l0) i (nI (n0 * pN P))), (P, S, Q, (bf_foc (sZ S k0) (sL S k0) (nI l0) i (nI (n0 * pN P))), T)) := by simp only [ox_seen, wk, wl, wn, ws, wwh, if_neg c279, if_neg c280, on_n, on_s]
                exact re_i r dX8_seen_106 rfl rfl ⟨by rw [ho], by rw [ho]; exact (cA_5 hn4 (bf_foc (sZ S k0) (sL S k0) (nI l0) i (nI (n0 * pN P))) ca), (fr_u (fr_u fr_0 (by decide) (by decide)) (by decide) (by decide))⟩
            · refine bf_bipush r.1 (v := -3) dX8_seen_65 rfl ?_
              have ho : ox_seen P S Q F T (nI k0) (nI l0) i (nI n0) (nI s0) (nI wh0) = (-3, (P, S, Q, 0, T)) := by simp only [ox_seen, wk, wl, wn, ws, wwh, if_pos c279, on_n, on_s]
              exact re_i r dX8_seen_67 rfl rfl ⟨by rw [ho], by rw [ho]; exact ca, (fr_u fr_0 (by decide) (by decide))⟩
          · have wwh := rg_n c278
            refine bf_bipush r.1 (v := -2) dX8_seen_52 rfl ?_
            have ho : ox_seen P S Q F T (nI k0) (nI l0) i (nI n0) (nI s0) wh = (-2, (P, S, Q, 0, T)) := by simp only [ox_seen, wk, wl, wn, ws, wwh, on_n, on_s]
            exact re_i r dX8_seen_54 rfl rfl ⟨by rw [ho], by rw [ho]; exact ca, (fr_u fr_0 (by decide) (by decide))⟩
  · have wk := rg_n c274
    refine bf_iconst r.1 (v := -1) dX8_seen_13 rfl ?_
    have ho : ox_seen P S Q F T k l i n s wh = (-1, (P, S, Q, 0, T)) := by simp only [ox_seen, wk, on_n, on_s]
    exact re_i r dX8_seen_14 rfl rfl ⟨by rw [ho], by rw [ho]; exact ca, (fr_u fr_0 (by decide) (by decide))⟩
