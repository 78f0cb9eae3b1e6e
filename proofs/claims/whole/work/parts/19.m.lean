def pSh (P : bf_Pn) (s : Nat) : bf_Pn := (pN P, pL P, s, P.2.2.2)
def pMkP : Nat → Nat → bf_Pn → bf_Pn
  | 0, _, P => P
  | i + 1, u, P => if u % 10 = 9 then pMkP i (u / 10) (pWr P i (pB P i (u % 10) ^^^ pB P i (bf_nx (u % 10)))) else pWr P i (pB P i (u % 10) ^^^ pB P i (bf_nx (u % 10)))
def pMkC : Nat → Nat → bf_Pn → Nat
  | 0, _, _ => 0
  | i + 1, u, P => bf_wc (pB P i (u % 10) ^^^ pB P i (bf_nx (u % 10))) (pL P) (pW P i) 7 + (if u % 10 = 9 then pMkC i (u / 10) (pWr P i (pB P i (u % 10) ^^^ pB P i (bf_nx (u % 10)))) else 0)
/-- a step, as the class makes it: the panel behind it, how many died -/
def pMs (P : bf_Pn) : bf_Pn := pSh (pMkP (pN P) (pS P) P) (pNx P (pS P))
def pMc (P : bf_Pn) : Nat := pMkC (pN P) (pS P) P
theorem cP_sh {D : bf_D} {P : bf_Pn} (hc : cP D P) (s : Nat) : cP (bf_u D 2 3 (nI s)) (pSh P s) := by
  refine ⟨⟨(bf_un (by omega)).trans (cP_n (P := P) hc), (bf_un (by omega)).trans (cP_l (P := P) hc), bf_us, (bf_un (by omega)).trans (cP_x (P := P) hc)⟩, fun i hi => ?_, fun i hi => (bf_un (by omega)).trans (cP_lk (P := P) hc hi)⟩
  have hi' : i < pN P := hi
  exact ⟨(bf_un (by omega)).trans (cP_k (P := P) hc hi'), (bf_un (by omega)).trans (cP_d (P := P) hc hi'), (bf_un (by omega)).trans (cP_t (P := P) hc hi'), fun d hd => (bf_un (by omega)).trans (cP_b (P := P) hc hi' hd), fun b hb => (bf_un (by omega)).trans (cP_w (P := P) hc hi' hb)⟩
theorem pNx_eq {P Q : bf_Pn} (h : pN P = pN Q) (u : Nat) : pNx P u = pNx Q u := by unfold pNx pX; rw [h]
theorem e_X2_makeStep {d : Nat} (hd : 6 ≤ d) {D0 : bf_D} {P0 : bf_Pn} (hv0 : vP P0) (hc0 : cP D0 P0) (h1 : 1 ≤ pN P0) : bf_Ce d mX2_makeStep [.ref 2] D0 (fun r D' => r = some (.int (nI (pMc P0))) ∧ cP D' (pMs P0) ∧ bf_fr 2 18 D0 D') := by
  refine bf_Ce_of 5 hd mo_X2_makeStep (Nat.le_of_ble_eq_true rfl) (fun e he J r => ?_)
  show J 0 [some (.ref 2), none, none, none, none] [] (bf_MD D0)
  have hn40 := hv0.1
  have hx40 := pX_le hv0
  have hs0 := hv0.2.2.2.1
  refine bf_iconst r.1 (v := nI 0) dX2_makeStep_0 rfl ?_
  refine bf_istore_n r.1 (L2 := [some (.ref 2), some (.int (nI 0)), none, none, none]) dX2_makeStep_1 rfl ?_
  refine bf_aload_n r.1 dX2_makeStep_2 rfl ?_
  refine ig_int r (v := nI (pS P0)) dX2_makeStep_3 fl_X2_39 rfl (by decide) rfl (cP_s (P := P0) hc0) ?_
  refine bf_istore_n r.1 (L2 := [some (.ref 2), some (.int (nI 0)), some (.int (nI (pS P0))), none, none]) dX2_makeStep_6 rfl ?_
  refine bf_aload_n r.1 dX2_makeStep_7 rfl ?_
  refine ig_int r (v := nI (pN P0)) dX2_makeStep_8 fl_X2_32 rfl (by decide) rfl (cP_n (P := P0) hc0) ?_
  refine bf_iconst r.1 (v := nI 1) dX2_makeStep_11 rfl ?_
  refine na_sub r dX2_makeStep_12 (by omega) ?_
  refine bf_istore_n r.1 (L2 := [some (.ref 2), some (.int (nI 0)), some (.int (nI (pS P0))), some (.int (nI (pN P0 - 1))), none]) dX2_makeStep_13 rfl ?_
  rw [show nI (pN P0 - 1) = nI (pN P0) + Int32.ofInt (-1) from (bf_dec (by omega)).symm]
  have loop : ∀ (i mm rr : Nat) (D : bf_D) (P : bf_Pn), i ≤ pN P0 → rr < 2 ^ 31 → vP P → cP D P → bf_fr 2 18 D0 D → (pN P = pN P0 ∧ pL P = pL P0 ∧ pS P = pS P0) → mm + pMkC i rr P = pMc P0 → pMkP i rr P = pMkP (pN P0) (pS P0) P0 → J 14 [some (.ref 2), some (.int (nI mm)), some (.int (nI rr)), some (.int (nI i + Int32.ofInt (-1))), none] [] (bf_MD D) := by
    intro i
    induction i with
    | zero =>
      intro mm rr D P hi hr hv hc hf hp he hE
      have hn4 := hv.1
      have hx4 := pX_le hv
      have hsS := hv.2.2.2.1
      rw [bf_m0]
      refine bf_iload_n r.1 dX2_makeStep_14 rfl ?_
      refine bf_if_lt r.1 (tgt := 68) dX2_makeStep_15 (by decide) (fun c65 => ?_) (fun c65 => ?_)
      · refine bf_aload_n r.1 dX2_makeStep_68 rfl ?_
        refine bf_aload_n r.1 dX2_makeStep_69 rfl ?_
        refine bf_aload_n r.1 dX2_makeStep_70 rfl ?_
        refine ig_int r (v := nI (pS P)) dX2_makeStep_71 fl_X2_39 rfl (by decide) rfl (cP_s (P := P) hc) ?_
        refine cl_v r (y2 := mX2_numberAfter) dX2_makeStep_74 li_X2_67 mv_X2_numberAfter rfl (by decide) [.int (nI (pS P))] [.ref 2] rfl (Nat.le_of_ble_eq_true rfl) rfl (c_X2_numberAfter (by omega) hv (cP_x (P := P) hc) (by omega)) ?_
        show J 77 [some (.ref 2), some (.int (nI mm)), some (.int (nI rr)), some (.int (-1)), none] [.int (nI (pNx P (pS P))), .ref 2] (bf_MD D)
        refine ip_int r dX2_makeStep_77 fp_X2_39 rfl (by decide) rfl ?_
        refine bf_iload_n r.1 dX2_makeStep_80 rfl ?_
        exact re_i r dX2_makeStep_81 rfl rfl ⟨by rw [← he]; rfl, by have h9 := cP_sh hc (pNx P (pS P)); rw [pNx_eq hp.1, hp.2.2] at h9 ⊢; unfold pMs; rw [← hE]; exact h9, bf_fr_u hf (by omega)⟩
      · exact absurd (by decide) c65
    | succ i ih =>
      intro mm rr D P hi hr hv hc hf hp he hE
      have hn4 := hv.1
      have hx4 := pX_le hv
      have hsS := hv.2.2.2.1
      rw [bf_ms1]
      have hk : i < pN P := by omega
      have h10 : rr % 10 < 10 := Nat.mod_lt _ (by decide)
      refine bf_iload_n r.1 dX2_makeStep_14 rfl ?_
      refine nz_lt r (tgt := 68) dX2_makeStep_15 (by decide) (by omega) (fun c66 => ?_) (fun c66 => ?_)
      · exact absurd c66 (Nat.not_lt_zero _)
      · refine bf_iload_n r.1 dX2_makeStep_18 rfl ?_
        refine bf_bipush r.1 (v := nI 10) dX2_makeStep_19 rfl ?_
        refine na_rem r dX2_makeStep_21 hr (by decide) (by decide) ?_
        refine bf_istore r.1 (L2 := [some (.ref 2), some (.int (nI mm)), some (.int (nI rr)), some (.int (nI i)), some (.int (nI (rr % 10)))]) dX2_makeStep_22 rfl ?_
        refine bf_iload_n r.1 dX2_makeStep_24 rfl ?_
        refine bf_aload_n r.1 dX2_makeStep_25 rfl ?_
        refine ig_ref r (b := 3) dX2_makeStep_26 fl_X2_11 rfl (by decide) rfl ?_
        refine bf_iload_n r.1 dX2_makeStep_29 rfl ?_
        refine aa_ld r (n := 4) (b := 6 + 3 * i) dX2_makeStep_30 (by decide) rfl (by decide) (Nat.lt_of_lt_of_le hk hn4) (ad_a3 (Nat.lt_of_lt_of_le hk hn4)) ?_
        refine bf_iload r.1 dX2_makeStep_31 rfl ?_
        refine bf_iload r.1 dX2_makeStep_33 rfl ?_
        refine cl_s r (y2 := mX2_nextDigit) dX2_makeStep_35 li_X2_60 mv_X2_nextDigit [.int (nI (rr % 10))] [.int (nI (rr % 10)), .ref (6 + 3 * i), .int (nI mm)] rfl (Nat.le_of_ble_eq_true rfl) rfl (c_X2_nextDigit (by omega) D (by omega)) ?_
        show J 38 [some (.ref 2), some (.int (nI mm)), some (.int (nI rr)), some (.int (nI i)), some (.int (nI (rr % 10)))] [.int (nI (bf_nx (rr % 10))), .int (nI (rr % 10)), .ref (6 + 3 * i), .int (nI mm)] (bf_MD D)
        refine bf_aload_n r.1 dX2_makeStep_38 rfl ?_
        refine ig_int r (v := nI (pL P)) dX2_makeStep_39 fl_X2_36 rfl (by decide) rfl (cP_l (P := P) hc) ?_
        refine ce_v r (y2 := mX3_wearBetween) dX2_makeStep_42 li_X2_63 mv_X3_wearBetween (ad_c6 (Nat.lt_of_lt_of_le hk hn4)) (ad_l6 (Nat.lt_of_lt_of_le hk hn4)) [.int (nI (rr % 10)), .int (nI (bf_nx (rr % 10))), .int (nI (pL P))] [.int (nI mm)] rfl (Nat.le_of_ble_eq_true rfl) rfl (e_X3_wearBetween (by omega) hv hc hk h10 (bf_nx_lt h10)) (fun res D67 hq67 => ?_)
        obtain ⟨rfl, hc67, hf67⟩ := hq67
        show J 45 [some (.ref 2), some (.int (nI mm)), some (.int (nI rr)), some (.int (nI i)), some (.int (nI (rr % 10)))] [.int (nI (bf_wc (pB P i (rr % 10) ^^^ pB P i (bf_nx (rr % 10))) (pL P) (pW P i) 7)), .int (nI mm)] (bf_MD D67)
        refine na_add r dX2_makeStep_45  ?_
        refine bf_istore_n r.1 (L2 := [some (.ref 2), some (.int (nI (mm + (bf_wc (pB P i (rr % 10) ^^^ pB P i (bf_nx (rr % 10))) (pL P) (pW P i) 7)))), some (.int (nI rr)), some (.int (nI i)), some (.int (nI (rr % 10)))]) dX2_makeStep_46 rfl ?_
        refine bf_iload r.1 dX2_makeStep_47 rfl ?_
        refine bf_bipush r.1 (v := nI 9) dX2_makeStep_49 rfl ?_
        refine nc_eq r (tgt := 57) dX2_makeStep_51 (by decide) (by omega) (by decide) (fun c68 => ?_) (fun c68 => ?_)
        · refine bf_iload_n r.1 dX2_makeStep_57 rfl ?_
          refine bf_bipush r.1 (v := nI 10) dX2_makeStep_58 rfl ?_
          refine na_div r dX2_makeStep_60 hr (by decide) (by decide) ?_
          refine bf_istore_n r.1 (L2 := [some (.ref 2), some (.int (nI (mm + (bf_wc (pB P i (rr % 10) ^^^ pB P i (bf_nx (rr % 10))) (pL P) (pW P i) 7)))), some (.int (nI (rr / 10))), some (.int (nI i)), some (.int (nI (rr % 10)))]) dX2_makeStep_61 rfl ?_
          refine bf_iinc r.1 (v := nI i + Int32.ofInt (-1)) (L2 := [some (.ref 2), some (.int (nI (mm + (bf_wc (pB P i (rr % 10) ^^^ pB P i (bf_nx (rr % 10))) (pL P) (pW P i) 7)))), some (.int (nI (rr / 10))), some (.int (nI i + Int32.ofInt (-1))), some (.int (nI (rr % 10)))]) dX2_makeStep_62 rfl rfl rfl ?_
          refine bf_goto r.1 (tgt := 14) dX2_makeStep_65 (by decide) ?_
          refine bf_fgt r.1 (i := 4) (L2 := [some (.ref 2), some (.int (nI (mm + (bf_wc (pB P i (rr % 10) ^^^ pB P i (bf_nx (rr % 10))) (pL P) (pW P i) 7)))), some (.int (nI (rr / 10))), some (.int (nI i + Int32.ofInt (-1))), none]) rfl ?_
          exact ih _ _ _ _ (by omega) (by omega) (vP_wr hv hk) hc67 (bf_fr_tr hf hf67) hp (by rw [← he]; simp only [pMkC, if_pos c68]; rw [Nat.add_assoc]) (by rw [← hE]; simp only [pMkP, if_pos c68])
        · refine bf_goto r.1 (tgt := 68) dX2_makeStep_54 (by decide) ?_
          refine bf_aload_n r.1 dX2_makeStep_68 rfl ?_
          refine bf_aload_n r.1 dX2_makeStep_69 rfl ?_
          refine bf_aload_n r.1 dX2_makeStep_70 rfl ?_
          refine ig_int r (v := nI (pS (pWr P i (pB P i (rr % 10) ^^^ pB P i (bf_nx (rr % 10)))))) dX2_makeStep_71 fl_X2_39 rfl (by decide) rfl (cP_s (P := (pWr P i (pB P i (rr % 10) ^^^ pB P i (bf_nx (rr % 10))))) hc67) ?_
          refine cl_v r (y2 := mX2_numberAfter) dX2_makeStep_74 li_X2_67 mv_X2_numberAfter rfl (by decide) [.int (nI (pS (pWr P i (pB P i (rr % 10) ^^^ pB P i (bf_nx (rr % 10))))))] [.ref 2] rfl (Nat.le_of_ble_eq_true rfl) rfl (c_X2_numberAfter (by omega) hv (cP_x (P := (pWr P i (pB P i (rr % 10) ^^^ pB P i (bf_nx (rr % 10))))) hc67) (show pS P < 2 ^ 31 by omega)) ?_
          show J 77 [some (.ref 2), some (.int (nI (mm + (bf_wc (pB P i (rr % 10) ^^^ pB P i (bf_nx (rr % 10))) (pL P) (pW P i) 7)))), some (.int (nI rr)), some (.int (nI i)), some (.int (nI (rr % 10)))] [.int (nI (pNx P (pS (pWr P i (pB P i (rr % 10) ^^^ pB P i (bf_nx (rr % 10))))))), .ref 2] (bf_MD D67)
          refine ip_int r dX2_makeStep_77 fp_X2_39 rfl (by decide) rfl ?_
          refine bf_iload_n r.1 dX2_makeStep_80 rfl ?_
          exact re_i r dX2_makeStep_81 rfl rfl ⟨by rw [← he]; simp only [pMkC, if_neg c68]; rfl, by show cP (bf_u _ 2 3 (nI (pNx P (pS P)))) (pMs P0); have h9 := cP_sh hc67 (pNx P (pS P)); rw [pNx_eq hp.1, hp.2.2] at h9 ⊢; unfold pMs; rw [← hE]; simp only [pMkP, if_neg c68]; exact h9, bf_fr_u (bf_fr_tr hf hf67) (by omega)⟩
  exact loop (pN P0) 0 (pS P0) D0 P0 (Nat.le_refl _) (by omega) hv0 hc0 bf_fr_rf ⟨rfl, rfl, rfl⟩ (Nat.zero_add _) rfl
def bf_nD (D : bf_D) (c lf : Nat) : bf_D := bf_u (bf_u (bf_u (bf_u D 2 1 (nI c)) 2 2 (nI lf)) 2 3 (nI 0)) 2 4 (nI (10 ^ c - 1))
theorem c_X2_renew {d : Nat} (hd : 1 ≤ d) (D : bf_D) {c lf : Nat} (hc4 : c ≤ 4) : bf_Cf d mX2_renew [.ref 2, .int (nI lf), .int (nI c)] D none (bf_nD D c lf) := by
  refine bf_Cf_of 0 hd mo_X2_renew (Nat.le_of_ble_eq_true rfl) (fun e he J r => ?_)
  show J 0 [some (.ref 2), some (.int (nI lf)), some (.int (nI c)), none, none] [] (bf_MD D)
  refine bf_aload_n r.1 dX2_renew_0 rfl ?_
  refine bf_iconst r.1 (v := nI 0) dX2_renew_1 rfl ?_
  refine bf_iload_n r.1 dX2_renew_2 rfl ?_
  refine bf_iconst r.1 (v := nI 4) dX2_renew_3 rfl ?_
  refine cl_min r dX2_renew_4 lw_X2_23 (Nat.le_of_ble_eq_true rfl) ?_
  refine eq_i (v := nI c) (if_neg (nI_nlt (by omega) (by omega))) ?_
  refine cl_max r dX2_renew_7 lw_X2_29 (Nat.le_of_ble_eq_true rfl) ?_
  refine eq_i (v := nI c) ?_ ?_
  · by_cases h : nI 0 < nI c
    · rw [if_pos h]
    · rw [if_neg h]; have h3 : ¬ 0 < c := fun h2 => h ((nI_ltI (by decide) (by omega)).mpr h2); rw [show c = 0 by omega]
  refine ip_int r dX2_renew_10 fp_X2_32 rfl (by decide) rfl ?_
  refine bf_aload_n r.1 dX2_renew_13 rfl ?_
  refine bf_iload_n r.1 dX2_renew_14 rfl ?_
  refine ip_int r dX2_renew_15 fp_X2_36 rfl (by decide) rfl ?_
  refine bf_aload_n r.1 dX2_renew_18 rfl ?_
  refine bf_iconst r.1 (v := nI 0) dX2_renew_19 rfl ?_
  refine ip_int r dX2_renew_20 fp_X2_39 rfl (by decide) rfl ?_
  refine bf_iconst r.1 (v := nI 1) dX2_renew_23 rfl ?_
  refine bf_istore_n r.1 (L2 := [some (.ref 2), some (.int (nI lf)), some (.int (nI c)), some (.int (nI 1)), none]) dX2_renew_24 rfl ?_
  refine bf_iconst r.1 (v := nI 0) dX2_renew_25 rfl ?_
  refine bf_istore r.1 (L2 := [some (.ref 2), some (.int (nI lf)), some (.int (nI c)), some (.int (nI 1)), some (.int (nI 0))]) dX2_renew_26 rfl ?_
  have loop : ∀ j : Nat, j ≤ c → J 28 [some (.ref 2), some (.int (nI lf)), some (.int (nI c)), some (.int (nI (10 ^ j))), some (.int (nI j))] [] (bf_MD (bf_u (bf_u (bf_u D 2 1 (nI c)) 2 2 (nI lf)) 2 3 (nI 0))) := by
    refine bf_down (fun j hle ih => ?_)
    refine bf_iload r.1 dX2_renew_28 rfl ?_
    refine bf_aload_n r.1 dX2_renew_30 rfl ?_
    refine ig_int r (v := nI c) dX2_renew_31 fl_X2_32 rfl (by decide) rfl ((bf_un (by omega)).trans ((bf_un (by omega)).trans bf_us)) ?_
    refine nc_ge r (tgt := 48) dX2_renew_34 (by decide) (by omega) (by omega) (fun c69 => ?_) (fun c69 => ?_)
    · have ej : j = c := by omega
      subst ej
      have hp1 : 1 ≤ 10 ^ j := Nat.pow_pos (by decide)
      refine bf_aload_n r.1 dX2_renew_48 rfl ?_
      refine bf_iload_n r.1 dX2_renew_49 rfl ?_
      refine bf_iconst r.1 (v := nI 1) dX2_renew_50 rfl ?_
      refine na_sub r dX2_renew_51 (by omega) ?_
      refine ip_int r dX2_renew_52 fp_X2_42 rfl (by decide) rfl ?_
      exact rt_v r dX2_renew_55 rfl rfl
    · refine bf_iload_n r.1 dX2_renew_37 rfl ?_
      refine bf_bipush r.1 (v := nI 10) dX2_renew_38 rfl ?_
      refine na_mul r dX2_renew_40  ?_
      refine bf_istore_n r.1 (L2 := [some (.ref 2), some (.int (nI lf)), some (.int (nI c)), some (.int (nI ((10 ^ j) * 10))), some (.int (nI j))]) dX2_renew_41 rfl ?_
      refine na_inc r (v := j + 1) (L2 := [some (.ref 2), some (.int (nI lf)), some (.int (nI c)), some (.int (nI ((10 ^ j) * 10))), some (.int (nI (j + 1)))]) dX2_renew_42 rfl (nI_add _ 1) rfl ?_
      refine bf_goto r.1 (tgt := 28) dX2_renew_45 (by decide) ?_
      have hi := ih c69
      rw [Nat.pow_succ] at hi
      exact hi
  exact loop 0 (by omega) 
