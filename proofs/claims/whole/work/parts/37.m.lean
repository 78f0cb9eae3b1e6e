/-! the reference with kinds, dead bars for a while others: kinds, deads, repair -/
def vB (P : bf_Pn) : Prop := pN P ≤ 4 ∧ ∀ k, k < pN P → pK P k < 3 ∧ pD P k < 128 ∧ pT P k < 128
def mB (D : bf_D) (P : bf_Pn) : Prop := D 37 1 = nI (pN P) ∧ ∀ k, k < pN P → D 38 k = nI (pK P k) ∧ D 39 k = nI (pD P k) ∧ D 40 k = nI (pT P k)
theorem vB_of {P : bf_Pn} (h : vP P) : vB P := ⟨h.1, fun k hk => ⟨(h.2.2.2.2 k hk).1, (h.2.2.2.2 k hk).2.1, (h.2.2.2.2 k hk).2.2.1⟩⟩
theorem mB_of {D : bf_D} {P : bf_Pn} (h : mP D P) : mB D P := ⟨mP_n h, fun k hk => ⟨mP_k h hk, mP_d h hk, mP_t h hk⟩⟩
theorem pBB_lt {P : bf_Pn} (hv : vB P) {k : Nat} (hk : k < pN P) (d : Nat) : pB P k d < 128 := bf_bn_lt (hv.2 k hk).2.2
theorem mA_q {D D' : bf_D} {st : bf_St} (h : mA D st) (e : ∀ a j, D' a j = D a j) : mA D' st := by
  have : D' = D := funext fun a => funext fun j => e a j
  rw [this]; exact h
section
variable {P : bf_Pn} {k q dd : Nat}
theorem vB_set (h : vB P) (hq : q < 3) (hd : dd < 128) (hk : k < pN P) : vB (pSet P k q dd (pT P k) (pW P k)) := by
  refine ⟨h.1, fun i hi => ?_⟩
  have hi' : i < pN P := hi
  by_cases e : i = k
  · subst e; rw [pSet_K, pSet_D, pSet_T, if_pos rfl, if_pos rfl, if_pos rfl]; exact ⟨hq, hd, (h.2 i hi').2.2⟩
  · rw [pSet_K, pSet_D, pSet_T, if_neg e, if_neg e, if_neg e]; exact h.2 i hi'
theorem mB_setD {D D' : bf_D} (h : mB D P) (hn : pN P ≤ 4) (ho : ∀ a j, a = 37 ∧ j = 1 ∨ a = 38 ∨ a = 39 ∧ j ≠ k ∨ a = 40 → D' a j = D a j) (h39 : D' 39 k = nI dd) (hk : k < pN P) : mB D' (pSet P k (pK P k) dd (pT P k) (pW P k)) := by
  refine ⟨(ho _ _ (by omega)).trans h.1, fun i hi => ?_⟩
  have hi' : i < pN P := hi
  by_cases e : i = k
  · subst e; rw [pSet_K, pSet_D, pSet_T, if_pos rfl, if_pos rfl, if_pos rfl]; exact ⟨(ho _ _ (by omega)).trans (h.2 i hi').1, h39, (ho _ _ (by omega)).trans (h.2 i hi').2.2⟩
  · rw [pSet_K, pSet_D, pSet_T, if_neg e, if_neg e, if_neg e]; exact ⟨(ho _ _ (by omega)).trans (h.2 i hi').1, (ho _ _ (by omega)).trans (h.2 i hi').2.1, (ho _ _ (by omega)).trans (h.2 i hi').2.2⟩
theorem mB_setK {D D' : bf_D} (h : mB D P) (hn : pN P ≤ 4) (ho : ∀ a j, a = 37 ∧ j = 1 ∨ a = 39 ∨ a = 38 ∧ j ≠ k ∨ a = 40 → D' a j = D a j) (h38 : D' 38 k = nI q) (hk : k < pN P) : mB D' (pSet P k q (pD P k) (pT P k) (pW P k)) := by
  refine ⟨(ho _ _ (by omega)).trans h.1, fun i hi => ?_⟩
  have hi' : i < pN P := hi
  by_cases e : i = k
  · subst e; rw [pSet_K, pSet_D, pSet_T, if_pos rfl, if_pos rfl, if_pos rfl]; exact ⟨h38, (ho _ _ (by omega)).trans (h.2 i hi').2.1, (ho _ _ (by omega)).trans (h.2 i hi').2.2⟩
  · rw [pSet_K, pSet_D, pSet_T, if_neg e, if_neg e, if_neg e]; exact ⟨(ho _ _ (by omega)).trans (h.2 i hi').1, (ho _ _ (by omega)).trans (h.2 i hi').2.1, (ho _ _ (by omega)).trans (h.2 i hi').2.2⟩
end
theorem c_B_burnsAt {d : Nat} (hd : 4 ≤ d) {D : bf_D} {P : bf_Pn} (hv : vB P) (hm : mB D P) {k : Nat} (hk : k < pN P) {x : Nat} (hx : x < 10) : bf_Cf d mX9_burnsAt [.ref 37, .int (nI k), .int (nI x)] D (some (.int (nI (pB P k x)))) D := by
  refine bf_Cf_of 3 hd mo_X9_burnsAt (Nat.le_of_ble_eq_true rfl) (fun e he J r => ?_)
  show J 0 [some (.ref 37), some (.int (nI k)), some (.int (nI x))] [] (bf_MD D)
  have hn4 := hv.1
  refine bf_aload_n r.1 dX9_burnsAt_0 rfl ?_
  refine ig_ref r (b := 38) dX9_burnsAt_1 fl_X9_7 rfl (by decide) rfl ?_
  refine bf_iload_n r.1 dX9_burnsAt_4 rfl ?_
  refine ia_ld r (n := 4) (v := nI (pK P k)) dX9_burnsAt_5 rfl (by decide) (by omega) (hm.2 _ hk).1 ?_
  refine bf_iload_n r.1 dX9_burnsAt_6 rfl ?_
  refine cl_s r (y2 := mX9_faceOf) dX9_burnsAt_7 li_X9_151 mv_X9_faceOf [.int (nI (pK P k)), .int (nI x)] [] rfl (Nat.le_of_ble_eq_true rfl) rfl (c_X9_faceOf (by omega) D (hv.2 k hk).1 (by omega)) ?_
  show J 10 [some (.ref 37), some (.int (nI k)), some (.int (nI x))] [.int (nI (bf_lk ((pK P k) * 10 + x)))] (bf_MD D)
  refine bf_aload_n r.1 dX9_burnsAt_10 rfl ?_
  refine ig_ref r (b := 39) dX9_burnsAt_11 fl_X9_13 rfl (by decide) rfl ?_
  refine bf_iload_n r.1 dX9_burnsAt_14 rfl ?_
  refine ia_ld r (n := 4) (v := nI (pD P k)) dX9_burnsAt_15 rfl (by decide) (by omega) (hm.2 _ hk).2.1 ?_
  refine bf_iconst r.1 (v := -1) dX9_burnsAt_16 rfl ?_
  refine bf_ixor r.1 dX9_burnsAt_17 ?_
  refine bf_iand r.1 dX9_burnsAt_18 ?_
  refine eq_i (bf_nand (bf_lk_lt _) (hv.2 k hk).2.1) ?_
  refine bf_aload_n r.1 dX9_burnsAt_19 rfl ?_
  refine ig_ref r (b := 40) dX9_burnsAt_20 fl_X9_16 rfl (by decide) rfl ?_
  refine bf_iload_n r.1 dX9_burnsAt_23 rfl ?_
  refine ia_ld r (n := 4) (v := nI (pT P k)) dX9_burnsAt_24 rfl (by decide) (by omega) (hm.2 _ hk).2.2 ?_
  refine na_or r dX9_burnsAt_25  ?_
  exact rt_i r dX9_burnsAt_26 rfl rfl rfl rfl
theorem c_B_unlikeAt {d : Nat} (hd : 5 ≤ d) {D : bf_D} {P : bf_Pn} (hv : vB P) (hm : mB D P) {k : Nat} (hk : k < pN P) : bf_Cf d mX9_unlikeAt [.ref 37, .int (nI k)] D (some (.int (nI (pU P k)))) D := by
  refine bf_Cf_of 4 hd mo_X9_unlikeAt (Nat.le_of_ble_eq_true rfl) (fun e he J r => ?_)
  show J 0 [some (.ref 37), some (.int (nI k)), none, none, none, none] [] (bf_MD D)
  have hn4 := hv.1
  refine bf_iconst r.1 (v := nI 0) dX9_unlikeAt_0 rfl ?_
  refine bf_istore_n r.1 (L2 := [some (.ref 37), some (.int (nI k)), some (.int (nI 0)), none, none, none]) dX9_unlikeAt_1 rfl ?_
  refine bf_iconst r.1 (v := nI 0) dX9_unlikeAt_2 rfl ?_
  refine bf_istore_n r.1 (L2 := [some (.ref 37), some (.int (nI k)), some (.int (nI 0)), some (.int (nI 0)), none, none]) dX9_unlikeAt_3 rfl ?_
  have loop : ∀ j : Nat, j ≤ 10 → J 4 [some (.ref 37), some (.int (nI k)), some (.int (nI (bf_ct (fun d => decide (pM P k (pB P k d) &&& (1 * 2 ^ d - 1) = 0)) j))), some (.int (nI j)), none, none] [] (bf_MD D) := by
    refine bf_down (fun j hle ih => ?_)
    refine bf_iload_n r.1 dX9_unlikeAt_4 rfl ?_
    refine bf_bipush r.1 (v := nI 10) dX9_unlikeAt_5 rfl ?_
    refine nc_ge r (tgt := 75) dX9_unlikeAt_7 (by decide) (by omega) (by decide) (fun c432 => ?_) (fun c432 => ?_)
    · refine bf_iload_n r.1 dX9_unlikeAt_75 rfl ?_
      have ej : j = 10 := by omega
      subst ej
      exact rt_i r dX9_unlikeAt_76 rfl rfl rfl rfl
    · refine bf_iconst r.1 (v := nI 1) dX9_unlikeAt_10 rfl ?_
      refine bf_istore r.1 (L2 := [some (.ref 37), some (.int (nI k)), some (.int (nI (bf_ct (fun d => decide (pM P k (pB P k d) &&& (1 * 2 ^ d - 1) = 0)) j))), some (.int (nI j)), some (.int (nI 1)), none]) dX9_unlikeAt_11 rfl ?_
      refine bf_iconst r.1 (v := nI 0) dX9_unlikeAt_13 rfl ?_
      refine bf_istore r.1 (L2 := [some (.ref 37), some (.int (nI k)), some (.int (nI (bf_ct (fun d => decide (pM P k (pB P k d) &&& (1 * 2 ^ d - 1) = 0)) j))), some (.int (nI j)), some (.int (nI 1)), some (.int (nI 0))]) dX9_unlikeAt_14 rfl ?_
      have ihj := ih
      have hj10 : j < 10 := c432
      have lob : ∀ t : Nat, t ≤ j → J 16 [some (.ref 37), some (.int (nI k)), some (.int (nI (bf_ct (fun d => decide (pM P k (pB P k d) &&& (1 * 2 ^ d - 1) = 0)) j))), some (.int (nI j)), some (.int (if bf_al (fun x => decide (pB P k x ≠ pB P k j)) t = true then 1 else 0)), some (.int (nI t))] [] (bf_MD D) := by
        refine bf_down (fun t hle ih => ?_)
        refine bf_iload r.1 dX9_unlikeAt_16 rfl ?_
        refine bf_iload_n r.1 dX9_unlikeAt_18 rfl ?_
        refine nc_ge r (tgt := 56) dX9_unlikeAt_19 (by decide) (by omega) (by omega) (fun c433 => ?_) (fun c433 => ?_)
        · have et : j = t := by omega
          subst et
          refine bf_iload_n r.1 dX9_unlikeAt_56 rfl ?_
          refine bf_iload r.1 dX9_unlikeAt_57 rfl ?_
          refine nb_eq r (tgt := 66) dX9_unlikeAt_59 (by decide) (fun c434 => ?_) (fun c434 => ?_)
          · refine bf_iconst r.1 (v := nI 0) dX9_unlikeAt_66 rfl ?_
            refine na_add r dX9_unlikeAt_67  ?_
            refine bf_istore_n r.1 (L2 := [some (.ref 37), some (.int (nI k)), some (.int (nI (bf_ct (fun d => decide (pM P k (pB P k d) &&& (1 * 2 ^ d - 1) = 0)) j + 0))), some (.int (nI j)), some (.int (if bf_al (fun x => decide (pB P k x ≠ pB P k j)) j = true then 1 else 0)), some (.int (nI j))]) dX9_unlikeAt_68 rfl ?_
            refine na_inc r (v := j + 1) (L2 := [some (.ref 37), some (.int (nI k)), some (.int (nI (bf_ct (fun d => decide (pM P k (pB P k d) &&& (1 * 2 ^ d - 1) = 0)) j + 0))), some (.int (nI (j + 1))), some (.int (if bf_al (fun x => decide (pB P k x ≠ pB P k j)) j = true then 1 else 0)), some (.int (nI j))]) dX9_unlikeAt_69 rfl (nI_add _ 1) rfl ?_
            refine bf_goto r.1 (tgt := 4) dX9_unlikeAt_72 (by decide) ?_
            refine bf_fgt r.1 (i := 4) (L2 := [some (.ref 37), some (.int (nI k)), some (.int (nI (bf_ct (fun d => decide (pM P k (pB P k d) &&& (1 * 2 ^ d - 1) = 0)) j + 0))), some (.int (nI (j + 1))), none, some (.int (nI j))]) rfl ?_
            refine bf_fgt r.1 (i := 5) (L2 := [some (.ref 37), some (.int (nI k)), some (.int (nI (bf_ct (fun d => decide (pM P k (pB P k d) &&& (1 * 2 ^ d - 1) = 0)) j + 0))), some (.int (nI (j + 1))), none, none]) rfl ?_
            have hi := ihj (by omega)
            rw [bf_ct_f (p := (fun d => decide (pM P k (pB P k d) &&& (1 * 2 ^ d - 1) = 0))) (fun h9 => c434 ((pU_iff hj10).mp (of_decide_eq_true h9)))] at hi
            exact hi
          · refine bf_iconst r.1 (v := nI 1) dX9_unlikeAt_62 rfl ?_
            refine bf_goto r.1 (tgt := 67) dX9_unlikeAt_63 (by decide) ?_
            refine na_add r dX9_unlikeAt_67  ?_
            refine bf_istore_n r.1 (L2 := [some (.ref 37), some (.int (nI k)), some (.int (nI (bf_ct (fun d => decide (pM P k (pB P k d) &&& (1 * 2 ^ d - 1) = 0)) j + 1))), some (.int (nI j)), some (.int (if bf_al (fun x => decide (pB P k x ≠ pB P k j)) j = true then 1 else 0)), some (.int (nI j))]) dX9_unlikeAt_68 rfl ?_
            refine na_inc r (v := j + 1) (L2 := [some (.ref 37), some (.int (nI k)), some (.int (nI (bf_ct (fun d => decide (pM P k (pB P k d) &&& (1 * 2 ^ d - 1) = 0)) j + 1))), some (.int (nI (j + 1))), some (.int (if bf_al (fun x => decide (pB P k x ≠ pB P k j)) j = true then 1 else 0)), some (.int (nI j))]) dX9_unlikeAt_69 rfl (nI_add _ 1) rfl ?_
            refine bf_goto r.1 (tgt := 4) dX9_unlikeAt_72 (by decide) ?_
            refine bf_fgt r.1 (i := 4) (L2 := [some (.ref 37), some (.int (nI k)), some (.int (nI (bf_ct (fun d => decide (pM P k (pB P k d) &&& (1 * 2 ^ d - 1) = 0)) j + 1))), some (.int (nI (j + 1))), none, some (.int (nI j))]) rfl ?_
            refine bf_fgt r.1 (i := 5) (L2 := [some (.ref 37), some (.int (nI k)), some (.int (nI (bf_ct (fun d => decide (pM P k (pB P k d) &&& (1 * 2 ^ d - 1) = 0)) j + 1))), some (.int (nI (j + 1))), none, none]) rfl ?_
            have hi := ihj (by omega)
            rw [bf_ct_t (p := (fun d => decide (pM P k (pB P k d) &&& (1 * 2 ^ d - 1) = 0))) (decide_eq_true ((pU_iff hj10).mpr c434))] at hi
            exact hi
        · refine bf_iload r.1 dX9_unlikeAt_22 rfl ?_
          refine nb_eq r (tgt := 47) dX9_unlikeAt_24 (by decide) (fun c435 => ?_) (fun c435 => ?_)
          · refine bf_iconst r.1 (v := nI 0) dX9_unlikeAt_47 rfl ?_
            refine eq_i (v := if bf_al (fun x => decide (pB P k x ≠ pB P k j)) (t + 1) = true then 1 else 0) (if_neg (fun h => c435 (by simp only [bf_al, Bool.and_eq_true] at h; exact h.1))).symm ?_
            refine bf_istore r.1 (L2 := [some (.ref 37), some (.int (nI k)), some (.int (nI (bf_ct (fun d => decide (pM P k (pB P k d) &&& (1 * 2 ^ d - 1) = 0)) j))), some (.int (nI j)), some (.int (if bf_al (fun x => decide (pB P k x ≠ pB P k j)) (t + 1) = true then 1 else 0)), some (.int (nI t))]) dX9_unlikeAt_48 rfl ?_
            refine na_inc r (v := t + 1) (L2 := [some (.ref 37), some (.int (nI k)), some (.int (nI (bf_ct (fun d => decide (pM P k (pB P k d) &&& (1 * 2 ^ d - 1) = 0)) j))), some (.int (nI j)), some (.int (if bf_al (fun x => decide (pB P k x ≠ pB P k j)) (t + 1) = true then 1 else 0)), some (.int (nI (t + 1)))]) dX9_unlikeAt_50 rfl (nI_add _ 1) rfl ?_
            refine bf_goto r.1 (tgt := 16) dX9_unlikeAt_53 (by decide) ?_
            exact ih (by omega)
          · refine bf_aload_n r.1 dX9_unlikeAt_27 rfl ?_
            refine bf_iload_n r.1 dX9_unlikeAt_28 rfl ?_
            refine bf_iload r.1 dX9_unlikeAt_29 rfl ?_
            refine cl_v r (y2 := mX9_burnsAt) dX9_unlikeAt_31 li_X9_157 mv_X9_burnsAt rfl (by decide) [.int (nI k), .int (nI t)] [] rfl (Nat.le_of_ble_eq_true rfl) rfl (c_B_burnsAt (by omega) hv hm hk (by omega)) ?_
            show J 34 [some (.ref 37), some (.int (nI k)), some (.int (nI (bf_ct (fun d => decide (pM P k (pB P k d) &&& (1 * 2 ^ d - 1) = 0)) j))), some (.int (nI j)), some (.int (if bf_al (fun x => decide (pB P k x ≠ pB P k j)) t = true then 1 else 0)), some (.int (nI t))] [.int (nI (pB P k t))] (bf_MD D)
            refine bf_aload_n r.1 dX9_unlikeAt_34 rfl ?_
            refine bf_iload_n r.1 dX9_unlikeAt_35 rfl ?_
            refine bf_iload_n r.1 dX9_unlikeAt_36 rfl ?_
            refine cl_v r (y2 := mX9_burnsAt) dX9_unlikeAt_37 li_X9_157 mv_X9_burnsAt rfl (by decide) [.int (nI k), .int (nI j)] [.int (nI (pB P k t))] rfl (Nat.le_of_ble_eq_true rfl) rfl (c_B_burnsAt (by omega) hv hm hk (by omega)) ?_
            show J 40 [some (.ref 37), some (.int (nI k)), some (.int (nI (bf_ct (fun d => decide (pM P k (pB P k d) &&& (1 * 2 ^ d - 1) = 0)) j))), some (.int (nI j)), some (.int (if bf_al (fun x => decide (pB P k x ≠ pB P k j)) t = true then 1 else 0)), some (.int (nI t))] [.int (nI (pB P k j)), .int (nI (pB P k t))] (bf_MD D)
            refine nc_eq r (tgt := 47) dX9_unlikeAt_40 (by decide) (bf_lt31 (pBB_lt hv hk t) (by decide)) (bf_lt31 (pBB_lt hv hk j) (by decide)) (fun c436 => ?_) (fun c436 => ?_)
            · refine bf_iconst r.1 (v := nI 0) dX9_unlikeAt_47 rfl ?_
              refine eq_i (v := if bf_al (fun x => decide (pB P k x ≠ pB P k j)) (t + 1) = true then 1 else 0) (if_neg (fun h => by simp only [bf_al, Bool.and_eq_true] at h; exact of_decide_eq_true h.2 c436)).symm ?_
              refine bf_istore r.1 (L2 := [some (.ref 37), some (.int (nI k)), some (.int (nI (bf_ct (fun d => decide (pM P k (pB P k d) &&& (1 * 2 ^ d - 1) = 0)) j))), some (.int (nI j)), some (.int (if bf_al (fun x => decide (pB P k x ≠ pB P k j)) (t + 1) = true then 1 else 0)), some (.int (nI t))]) dX9_unlikeAt_48 rfl ?_
              refine na_inc r (v := t + 1) (L2 := [some (.ref 37), some (.int (nI k)), some (.int (nI (bf_ct (fun d => decide (pM P k (pB P k d) &&& (1 * 2 ^ d - 1) = 0)) j))), some (.int (nI j)), some (.int (if bf_al (fun x => decide (pB P k x ≠ pB P k j)) (t + 1) = true then 1 else 0)), some (.int (nI (t + 1)))]) dX9_unlikeAt_50 rfl (nI_add _ 1) rfl ?_
              refine bf_goto r.1 (tgt := 16) dX9_unlikeAt_53 (by decide) ?_
              exact ih (by omega)
            · refine bf_iconst r.1 (v := nI 1) dX9_unlikeAt_43 rfl ?_
              refine bf_goto r.1 (tgt := 48) dX9_unlikeAt_44 (by decide) ?_
              refine eq_i (v := if bf_al (fun x => decide (pB P k x ≠ pB P k j)) (t + 1) = true then 1 else 0) (if_pos (by simp only [bf_al, Bool.and_eq_true]; exact ⟨c435, decide_eq_true c436⟩)).symm ?_
              refine bf_istore r.1 (L2 := [some (.ref 37), some (.int (nI k)), some (.int (nI (bf_ct (fun d => decide (pM P k (pB P k d) &&& (1 * 2 ^ d - 1) = 0)) j))), some (.int (nI j)), some (.int (if bf_al (fun x => decide (pB P k x ≠ pB P k j)) (t + 1) = true then 1 else 0)), some (.int (nI t))]) dX9_unlikeAt_48 rfl ?_
              refine na_inc r (v := t + 1) (L2 := [some (.ref 37), some (.int (nI k)), some (.int (nI (bf_ct (fun d => decide (pM P k (pB P k d) &&& (1 * 2 ^ d - 1) = 0)) j))), some (.int (nI j)), some (.int (if bf_al (fun x => decide (pB P k x ≠ pB P k j)) (t + 1) = true then 1 else 0)), some (.int (nI (t + 1)))]) dX9_unlikeAt_50 rfl (nI_add _ 1) rfl ?_
              refine bf_goto r.1 (tgt := 16) dX9_unlikeAt_53 (by decide) ?_
              exact ih (by omega)
      exact lob 0 (by omega)
  exact loop 0 (by omega) 
theorem c_B_areSo {d : Nat} (hd : 5 ≤ d) {D : bf_D} {P : bf_Pn} (hv : vB P) (hm : mB D P) {Q : bf_Rd} (mr : mR D Q) (r8 : rN Q ≤ 8) (vr : ∀ i, i < rN Q → rP Q i < pN P ∧ rG Q i < 10 ∧ rS Q i < 128) : bf_Cf d mX9_areSo [.ref 37] D (some (.int (if pSo P Q = true then 1 else 0))) D := by
  refine bf_Cf_of 4 hd mo_X9_areSo (Nat.le_of_ble_eq_true rfl) (fun e he J r => ?_)
  show J 0 [some (.ref 37), none, none] [] (bf_MD D)
  have hn4 := hv.1
  refine bf_iconst r.1 (v := nI 1) dX9_areSo_0 rfl ?_
  refine bf_istore_n r.1 (L2 := [some (.ref 37), some (.int (nI 1)), none]) dX9_areSo_1 rfl ?_
  refine bf_iconst r.1 (v := nI 0) dX9_areSo_2 rfl ?_
  refine bf_istore_n r.1 (L2 := [some (.ref 37), some (.int (nI 1)), some (.int (nI 0))]) dX9_areSo_3 rfl ?_
  have loop : ∀ i : Nat, i ≤ (rN Q) → J 4 [some (.ref 37), some (.int (if bf_al (fun i => decide (pB P (rP Q i) (rG Q i) = rS Q i)) i = true then 1 else 0)), some (.int (nI i))] [] (bf_MD D) := by
    refine bf_down (fun i hle ih => ?_)
    refine bf_iload_n r.1 dX9_areSo_4 rfl ?_
    refine bf_aload_n r.1 dX9_areSo_5 rfl ?_
    refine ig_int r (v := nI (rN Q)) dX9_areSo_6 fl_X9_135 rfl (by decide) rfl mr.1 ?_
    refine nc_ge r (tgt := 53) dX9_areSo_9 (by decide) (by omega) (by omega) (fun c437 => ?_) (fun c437 => ?_)
    · refine bf_iload_n r.1 dX9_areSo_53 rfl ?_
      have ei : i = rN Q := by omega
      subst ei
      exact rt_i r dX9_areSo_54 rfl nw_b rfl rfl
    · have hri := vr i c437
      refine bf_iload_n r.1 dX9_areSo_12 rfl ?_
      refine nb_eq r (tgt := 45) dX9_areSo_13 (by decide) (fun c438 => ?_) (fun c438 => ?_)
      · refine bf_iconst r.1 (v := nI 0) dX9_areSo_45 rfl ?_
        refine eq_i (v := if bf_al (fun i => decide (pB P (rP Q i) (rG Q i) = rS Q i)) (i + 1) = true then 1 else 0) (if_neg (fun h => c438 (by simp only [bf_al, Bool.and_eq_true] at h; exact h.1))).symm ?_
        refine bf_istore_n r.1 (L2 := [some (.ref 37), some (.int (if bf_al (fun i => decide (pB P (rP Q i) (rG Q i) = rS Q i)) (i + 1) = true then 1 else 0)), some (.int (nI i))]) dX9_areSo_46 rfl ?_
        refine na_inc r (v := i + 1) (L2 := [some (.ref 37), some (.int (if bf_al (fun i => decide (pB P (rP Q i) (rG Q i) = rS Q i)) (i + 1) = true then 1 else 0)), some (.int (nI (i + 1)))]) dX9_areSo_47 rfl (nI_add _ 1) rfl ?_
        refine bf_goto r.1 (tgt := 4) dX9_areSo_50 (by decide) ?_
        exact ih (by omega)
      · refine bf_aload_n r.1 dX9_areSo_16 rfl ?_
        refine bf_aload_n r.1 dX9_areSo_17 rfl ?_
        refine ig_ref r (b := 50) dX9_areSo_18 fl_X9_46 rfl (by decide) rfl ?_
        refine bf_iload_n r.1 dX9_areSo_21 rfl ?_
        refine ia_ld r (n := 8) (v := nI (rP Q i)) dX9_areSo_22 rfl (by decide) (by omega) (mr.2 i (by omega)).1 ?_
        refine bf_aload_n r.1 dX9_areSo_23 rfl ?_
        refine ig_ref r (b := 51) dX9_areSo_24 fl_X9_49 rfl (by decide) rfl ?_
        refine bf_iload_n r.1 dX9_areSo_27 rfl ?_
        refine ia_ld r (n := 8) (v := nI (rG Q i)) dX9_areSo_28 rfl (by decide) (by omega) (mr.2 i (by omega)).2.1 ?_
        refine cl_v r (y2 := mX9_burnsAt) dX9_areSo_29 li_X9_157 mv_X9_burnsAt rfl (by decide) [.int (nI (rP Q i)), .int (nI (rG Q i))] [] rfl (Nat.le_of_ble_eq_true rfl) rfl (c_B_burnsAt (by omega) hv hm hri.1 hri.2.1) ?_
        show J 32 [some (.ref 37), some (.int (if bf_al (fun i => decide (pB P (rP Q i) (rG Q i) = rS Q i)) i = true then 1 else 0)), some (.int (nI i))] [.int (nI (pB P (rP Q i) (rG Q i)))] (bf_MD D)
        refine bf_aload_n r.1 dX9_areSo_32 rfl ?_
        refine ig_ref r (b := 52) dX9_areSo_33 fl_X9_52 rfl (by decide) rfl ?_
        refine bf_iload_n r.1 dX9_areSo_36 rfl ?_
        refine ia_ld r (n := 8) (v := nI (rS Q i)) dX9_areSo_37 rfl (by decide) (by omega) (mr.2 i (by omega)).2.2 ?_
        refine nc_ne r (tgt := 45) dX9_areSo_38 (by decide) (bf_lt31 (pBB_lt hv hri.1 _) (by decide)) (by omega) (fun c439 => ?_) (fun c439 => ?_)
        · refine bf_iconst r.1 (v := nI 0) dX9_areSo_45 rfl ?_
          refine eq_i (v := if bf_al (fun i => decide (pB P (rP Q i) (rG Q i) = rS Q i)) (i + 1) = true then 1 else 0) (if_neg (fun h => by simp only [bf_al, Bool.and_eq_true] at h; exact c439 (of_decide_eq_true h.2))).symm ?_
          refine bf_istore_n r.1 (L2 := [some (.ref 37), some (.int (if bf_al (fun i => decide (pB P (rP Q i) (rG Q i) = rS Q i)) (i + 1) = true then 1 else 0)), some (.int (nI i))]) dX9_areSo_46 rfl ?_
          refine na_inc r (v := i + 1) (L2 := [some (.ref 37), some (.int (if bf_al (fun i => decide (pB P (rP Q i) (rG Q i) = rS Q i)) (i + 1) = true then 1 else 0)), some (.int (nI (i + 1)))]) dX9_areSo_47 rfl (nI_add _ 1) rfl ?_
          refine bf_goto r.1 (tgt := 4) dX9_areSo_50 (by decide) ?_
          exact ih (by omega)
        · refine bf_iconst r.1 (v := nI 1) dX9_areSo_41 rfl ?_
          refine bf_goto r.1 (tgt := 46) dX9_areSo_42 (by decide) ?_
          refine eq_i (v := if bf_al (fun i => decide (pB P (rP Q i) (rG Q i) = rS Q i)) (i + 1) = true then 1 else 0) (if_pos (by simp only [bf_al, Bool.and_eq_true]; exact ⟨c438, decide_eq_true c439⟩)).symm ?_
          refine bf_istore_n r.1 (L2 := [some (.ref 37), some (.int (if bf_al (fun i => decide (pB P (rP Q i) (rG Q i) = rS Q i)) (i + 1) = true then 1 else 0)), some (.int (nI i))]) dX9_areSo_46 rfl ?_
          refine na_inc r (v := i + 1) (L2 := [some (.ref 37), some (.int (if bf_al (fun i => decide (pB P (rP Q i) (rG Q i) = rS Q i)) (i + 1) = true then 1 else 0)), some (.int (nI (i + 1)))]) dX9_areSo_47 rfl (nI_add _ 1) rfl ?_
          refine bf_goto r.1 (tgt := 4) dX9_areSo_50 (by decide) ?_
          exact ih (by omega)
  exact loop 0 (Nat.zero_le _)
theorem e_X9_kinds {d : Nat} (hd : 10 ≤ d) {D : bf_D} {P : bf_Pn} {S : bf_Sh} {Q : bf_Rd} {F : Nat} {T : Int32} (va : vA (P, S, Q, F, T)) (ma : mA D (P, S, Q, F, T)) (k : Int32) : bf_Ce d mX9_kinds [.ref 37, .int (k)] D (fun r D' => r = some (.int (ox_kinds P Q k)) ∧ mA D' (P, S, Q, F, T) ∧ bf_fr 37 57 D D') := by
  refine bf_Ce_of 9 hd mo_X9_kinds (Nat.le_of_ble_eq_true rfl) (fun e he J r => ?_)
  show J 0 [some (.ref 37), some (.int (k)), none, none, none] [] (bf_MD D)
  obtain ⟨hv, vs, vr, hF⟩ := id va
  obtain ⟨hm, ms, mr, c5, c6⟩ := id ma
  have hn4 := hv.1
  have hx4 := pX_le hv
  have hx0 := pX_pos P
  refine bf_aload_n r.1 dX9_kinds_0 rfl ?_
  refine bf_iload_n r.1 dX9_kinds_1 rfl ?_
  refine cl_v r (y2 := mX9_noPlace) dX9_kinds_2 li_X9_160 mv_X9_noPlace rfl (by decide) [.int (k)] [] rfl (Nat.le_of_ble_eq_true rfl) rfl (c_X9_noPlace (by omega) hv hm _) ?_
  show J 5 [some (.ref 37), some (.int (k)), none, none, none] [.int (if ¬ (0 ≤ k ∧ k < nI (pN P)) then 1 else 0)] (bf_MD D)
  refine nb_eq r (tgt := 10) dX9_kinds_5 (by decide) (fun c440 => ?_) (fun c440 => ?_)
  · obtain ⟨k0, hk0, rfl⟩ := rg_in (by omega) (Decidable.not_not.mp c440)
    have wk := rg_s hk0 (by omega)
    refine bf_aload_n r.1 dX9_kinds_10 rfl ?_
    refine ig_ref r (b := 38) dX9_kinds_11 fl_X9_7 rfl (by decide) rfl ?_
    refine bf_iload_n r.1 dX9_kinds_14 rfl ?_
    refine ia_ld r (n := 4) (v := nI (pK P k0)) dX9_kinds_15 rfl (by decide) (by omega) (mP_k (P := P) hm hk0) ?_
    refine bf_istore_n r.1 (L2 := [some (.ref 37), some (.int (nI k0)), some (.int (nI (pK P k0))), none, none]) dX9_kinds_16 rfl ?_
    refine bf_iconst r.1 (v := nI 0) dX9_kinds_17 rfl ?_
    refine bf_istore_n r.1 (L2 := [some (.ref 37), some (.int (nI k0)), some (.int (nI (pK P k0))), some (.int (nI 0)), none]) dX9_kinds_18 rfl ?_
    refine bf_iconst r.1 (v := nI 0) dX9_kinds_19 rfl ?_
    refine bf_istore r.1 (L2 := [some (.ref 37), some (.int (nI k0)), some (.int (nI (pK P k0))), some (.int (nI 0)), some (.int (nI 0))]) dX9_kinds_20 rfl ?_
    have lo : ∀ j : Nat, j ≤ 3 → ∀ D2 : bf_D, (∀ a t, (a ≠ 38 ∨ t ≠ k0) → D2 a t = D a t) → J 22 [some (.ref 37), some (.int (nI k0)), some (.int (nI (pK P k0))), some (.int (nI (bf_bm (fun q => pSo (pSet P k0 q (pD P k0) (pT P k0) (pW P k0)) Q) j))), some (.int (nI j))] [] (bf_MD D2) := by
      refine bf_down (fun j hle ih => ?_)
      intro D2 hO
      refine bf_iload r.1 dX9_kinds_22 rfl ?_
      refine bf_iconst r.1 (v := nI 3) dX9_kinds_24 rfl ?_
      refine nc_ge r (tgt := 60) dX9_kinds_25 (by decide) (by omega) (by decide) (fun c441 => ?_) (fun c441 => ?_)
      · have ej : j = 3 := by omega
        subst ej
        refine bf_aload_n r.1 dX9_kinds_60 rfl ?_
        refine ig_ref r (b := 38) dX9_kinds_61 fl_X9_7 rfl (by decide) rfl ?_
        refine bf_iload_n r.1 dX9_kinds_64 rfl ?_
        refine bf_iload_n r.1 dX9_kinds_65 rfl ?_
        refine ia_st r (n := 4) dX9_kinds_66 rfl (by decide) (by omega) ?_
        refine bf_iload_n r.1 dX9_kinds_67 rfl ?_
        have hq : ∀ a t, bf_u D2 38 k0 (nI (pK P k0)) a t = D a t := by
          intro a t
          by_cases e1 : a = 38 ∧ t = k0
          · rw [e1.1, e1.2, bf_us]; exact (mP_k hm hk0).symm
          · rw [bf_un (by omega)]; exact hO a t (by omega)
        have ho : ox_kinds P Q (nI k0) = nI (bf_bm (fun q => pSo (pSet P k0 q (pD P k0) (pT P k0) (pW P k0)) Q) 3) := by simp only [ox_kinds, wk, on_n, on_s, pKd]
        exact re_i r dX9_kinds_68 rfl rfl ⟨by rw [ho], (mA_q ma hq), (fun a t _ => hq a t)⟩
      · refine bf_aload_n r.1 dX9_kinds_28 rfl ?_
        refine ig_ref r (b := 38) dX9_kinds_29 fl_X9_7 rfl (by decide) rfl ?_
        refine bf_iload_n r.1 dX9_kinds_32 rfl ?_
        refine bf_iload r.1 dX9_kinds_33 rfl ?_
        refine ia_st r (n := 4) dX9_kinds_35 rfl (by decide) (by omega) ?_
        refine bf_iload_n r.1 dX9_kinds_36 rfl ?_
        refine bf_aload_n r.1 dX9_kinds_37 rfl ?_
        refine cl_v r (y2 := mX9_areSo) dX9_kinds_38 li_X9_249 mv_X9_areSo rfl (by decide) [] [.int (nI (bf_bm (fun q => pSo (pSet P k0 q (pD P k0) (pT P k0) (pW P k0)) Q) j))] rfl (Nat.le_of_ble_eq_true rfl) rfl (c_B_areSo (by omega) (vB_set (vB_of hv) (show j < 3 by omega) (vP_d hv hk0) hk0) (mB_setK (mB_of hm) hn4 (fun a t q => (bf_un (by omega)).trans (hO a t (by omega))) bf_us hk0) (mR_e mr (fun a t q => (bf_un (by omega)).trans (hO a t (by omega)))) vr.1 vr.2) ?_
        show J 41 [some (.ref 37), some (.int (nI k0)), some (.int (nI (pK P k0))), some (.int (nI (bf_bm (fun q => pSo (pSet P k0 q (pD P k0) (pT P k0) (pW P k0)) Q) j))), some (.int (nI j))] [.int (if pSo (pSet P k0 j (pD P k0) (pT P k0) (pW P k0)) Q = true then 1 else 0), .int (nI (bf_bm (fun q => pSo (pSet P k0 q (pD P k0) (pT P k0) (pW P k0)) Q) j))] (bf_MD (bf_u D2 38 k0 (nI j)))
        refine nb_eq r (tgt := 51) dX9_kinds_41 (by decide) (fun c442 => ?_) (fun c442 => ?_)
        · refine bf_iconst r.1 (v := nI 0) dX9_kinds_51 rfl ?_
          refine na_or r dX9_kinds_52  ?_
          refine eq_i (congrArg nI (Nat.or_zero _)) ?_
          refine bf_istore_n r.1 (L2 := [some (.ref 37), some (.int (nI k0)), some (.int (nI (pK P k0))), some (.int (nI (bf_bm (fun q => pSo (pSet P k0 q (pD P k0) (pT P k0) (pW P k0)) Q) j))), some (.int (nI j))]) dX9_kinds_53 rfl ?_
          refine na_inc r (v := j + 1) (L2 := [some (.ref 37), some (.int (nI k0)), some (.int (nI (pK P k0))), some (.int (nI (bf_bm (fun q => pSo (pSet P k0 q (pD P k0) (pT P k0) (pW P k0)) Q) j))), some (.int (nI (j + 1)))]) dX9_kinds_54 rfl (nI_add _ 1) rfl ?_
          refine bf_goto r.1 (tgt := 22) dX9_kinds_57 (by decide) ?_
          have hi := ih (by omega) _ (fun a t q => (bf_un (a := 38) (j := k0) (v := nI j) (by omega)).trans (hO a t q))
          rw [bf_bm_f (p := (fun q => pSo (pSet P k0 q (pD P k0) (pT P k0) (pW P k0)) Q)) c442] at hi
          exact hi
        · refine bf_iconst r.1 (v := nI 1) dX9_kinds_44 rfl ?_
          refine bf_iload r.1 dX9_kinds_45 rfl ?_
          refine na_shl r dX9_kinds_47 (by omega) (bf_sh1 (by omega)) ?_
          refine bf_goto r.1 (tgt := 52) dX9_kinds_48 (by decide) ?_
          refine na_or r dX9_kinds_52  ?_
          refine bf_istore_n r.1 (L2 := [some (.ref 37), some (.int (nI k0)), some (.int (nI (pK P k0))), some (.int (nI ((bf_bm (fun q => pSo (pSet P k0 q (pD P k0) (pT P k0) (pW P k0)) Q) j) ||| (1 * 2 ^ j)))), some (.int (nI j))]) dX9_kinds_53 rfl ?_
          refine na_inc r (v := j + 1) (L2 := [some (.ref 37), some (.int (nI k0)), some (.int (nI (pK P k0))), some (.int (nI ((bf_bm (fun q => pSo (pSet P k0 q (pD P k0) (pT P k0) (pW P k0)) Q) j) ||| (1 * 2 ^ j)))), some (.int (nI (j + 1)))]) dX9_kinds_54 rfl (nI_add _ 1) rfl ?_
          refine bf_goto r.1 (tgt := 22) dX9_kinds_57 (by decide) ?_
          have hi := ih (by omega) _ (fun a t q => (bf_un (a := 38) (j := k0) (v := nI j) (by omega)).trans (hO a t q))
          rw [bf_bm_t (p := (fun q => pSo (pSet P k0 q (pD P k0) (pT P k0) (pW P k0)) Q)) c442] at hi
          exact hi
    exact lo 0 (Nat.zero_le _) D (fun _ _ _ => rfl)
  · have wk := rg_n c440
    refine bf_iconst r.1 (v := -1) dX9_kinds_8 rfl ?_
    have ho : ox_kinds P Q k = -1 := by simp only [ox_kinds, wk, on_n, on_s]
    exact re_i r dX9_kinds_9 rfl rfl ⟨by rw [ho], ma, fr_0⟩
theorem bf_le_c0 {p : Nat → Bool} : ∀ n, bf_ct p n = 0 → bf_le p n = -9 := by
  intro n
  induction n with
  | zero => intro _; rfl
  | succ n ih =>
    intro h
    simp only [bf_ct] at h
    by_cases hp : p n = true
    · rw [if_pos hp] at h; omega
    · simp only [bf_le]; rw [if_neg hp]; exact ih (by omega)
theorem bf_le_c1 {p : Nat → Bool} : ∀ n, bf_ct p n ≠ 0 → ∃ m, m < n ∧ bf_le p n = nI m := by
  intro n
  induction n with
  | zero => intro h; exact absurd rfl h
  | succ n ih =>
    intro h
    by_cases hp : p n = true
    · by_cases h0 : bf_ct p n = 0
      · exact ⟨n, by omega, by simp only [bf_le]; rw [if_pos hp, if_pos h0]⟩
      · obtain ⟨m, hm, e⟩ := ih h0
        exact ⟨m, by omega, by simp only [bf_le]; rw [if_pos hp, if_neg h0]; exact e⟩
    · have h0 : bf_ct p n ≠ 0 := by
        simp only [bf_ct] at h
        rw [if_neg hp] at h
        omega
      obtain ⟨m, hm, e⟩ := ih h0
      exact ⟨m, by omega, by simp only [bf_le]; rw [if_neg hp]; exact e⟩
theorem bf_le_ge {p : Nat → Bool} {n : Nat} (hn : n < 2 ^ 31) : 0 ≤ bf_le p n ↔ ¬ bf_ct p n = 0 := by
  constructor
  · intro h e
    rw [bf_le_c0 n e] at h
    exact absurd h (by decide)
  · intro h
    obtain ⟨m, hm, e⟩ := bf_le_c1 n h
    rw [e, bf_le0, nI_toInt (by omega)]
    omega
def ox_deadsN (P : bf_Pn) (Q : bf_Rd) (k wh : Nat) : Int32 := if wh = 0 then nI (bf_ct (pDs P Q k) 128) else if bf_ct (pDs P Q k) 128 = 0 then -9 else if nI (wh - 1) = 0 then nI (bf_aa (pDs P Q k) 128) else if nI (wh - 1) = nI 1 then nI (bf_oo (pDs P Q k) 128) else bf_le (pDs P Q k) 128
theorem e_X9_deadsOf {d : Nat} (hd : 7 ≤ d) {D : bf_D} {P : bf_Pn} {S : bf_Sh} {Q : bf_Rd} {F : Nat} {T : Int32} (va : vA (P, S, Q, F, T)) (ma : mA D (P, S, Q, F, T)) {k wh : Nat} (hk : k < pN P) (hw : wh < 4) : bf_Ce d mX9_deadsOf [.ref 37, .int (nI k), .int (nI wh)] D (fun r D' => r = some (.int (ox_deadsN P Q k wh)) ∧ mA D' (P, S, Q, F, T) ∧ bf_fr 37 57 D D') := by
  refine bf_Ce_of 6 hd mo_X9_deadsOf (Nat.le_of_ble_eq_true rfl) (fun e he J r => ?_)
  show J 0 [some (.ref 37), some (.int (nI k)), some (.int (nI wh)), none, none, none, none, none, none] [] (bf_MD D)
  obtain ⟨hv, vs, vr, hF⟩ := id va
  obtain ⟨hm, ms, mr, c5, c6⟩ := id ma
  have hn4 := hv.1
  have hx4 := pX_le hv
  have hx0 := pX_pos P
  refine bf_aload_n r.1 dX9_deadsOf_0 rfl ?_
  refine ig_ref r (b := 39) dX9_deadsOf_1 fl_X9_13 rfl (by decide) rfl ?_
  refine bf_iload_n r.1 dX9_deadsOf_4 rfl ?_
  refine ia_ld r (n := 4) (v := nI (pD P k)) dX9_deadsOf_5 rfl (by decide) (by omega) (mP_d (P := P) hm hk) ?_
  refine bf_istore_n r.1 (L2 := [some (.ref 37), some (.int (nI k)), some (.int (nI wh)), some (.int (nI (pD P k))), none, none, none, none, none]) dX9_deadsOf_6 rfl ?_
  refine bf_iconst r.1 (v := nI 0) dX9_deadsOf_7 rfl ?_
  refine bf_istore r.1 (L2 := [some (.ref 37), some (.int (nI k)), some (.int (nI wh)), some (.int (nI (pD P k))), some (.int (nI 0)), none, none, none, none]) dX9_deadsOf_8 rfl ?_
  refine bf_bipush r.1 (v := nI 127) dX9_deadsOf_10 rfl ?_
  refine bf_istore r.1 (L2 := [some (.ref 37), some (.int (nI k)), some (.int (nI wh)), some (.int (nI (pD P k))), some (.int (nI 0)), some (.int (nI 127)), none, none, none]) dX9_deadsOf_12 rfl ?_
  refine bf_iconst r.1 (v := nI 0) dX9_deadsOf_14 rfl ?_
  refine bf_istore r.1 (L2 := [some (.ref 37), some (.int (nI k)), some (.int (nI wh)), some (.int (nI (pD P k))), some (.int (nI 0)), some (.int (nI 127)), some (.int (nI 0)), none, none]) dX9_deadsOf_15 rfl ?_
  refine bf_bipush r.1 (v := -9) dX9_deadsOf_17 rfl ?_
  refine bf_istore r.1 (L2 := [some (.ref 37), some (.int (nI k)), some (.int (nI wh)), some (.int (nI (pD P k))), some (.int (nI 0)), some (.int (nI 127)), some (.int (nI 0)), some (.int (-9)), none]) dX9_deadsOf_19 rfl ?_
  refine bf_iconst r.1 (v := nI 0) dX9_deadsOf_21 rfl ?_
  refine bf_istore r.1 (L2 := [some (.ref 37), some (.int (nI k)), some (.int (nI wh)), some (.int (nI (pD P k))), some (.int (nI 0)), some (.int (nI 127)), some (.int (nI 0)), some (.int (-9)), some (.int (nI 0))]) dX9_deadsOf_22 rfl ?_
  have lo : ∀ j : Nat, j ≤ 128 → ∀ D2 : bf_D, (∀ a t, (a ≠ 39 ∨ t ≠ k) → D2 a t = D a t) → J 24 [some (.ref 37), some (.int (nI k)), some (.int (nI wh)), some (.int (nI (pD P k))), some (.int (nI (bf_ct (pDs P Q k) j))), some (.int (nI (bf_aa (pDs P Q k) j))), some (.int (nI (bf_oo (pDs P Q k) j))), some (.int (bf_le (pDs P Q k) j)), some (.int (nI j))] [] (bf_MD D2) := by
    refine bf_down (fun j hle ih => ?_)
    intro D2 hO
    refine bf_iload r.1 dX9_deadsOf_24 rfl ?_
    refine bf_bipush r.1 (v := nI 127) dX9_deadsOf_26 rfl ?_
    refine nc_gt r (tgt := 83) dX9_deadsOf_28 (by decide) (by omega) (by decide) (fun c443 => ?_) (fun c443 => ?_)
    · have ej : j = 128 := by omega
      subst ej
      refine bf_aload_n r.1 dX9_deadsOf_83 rfl ?_
      refine ig_ref r (b := 39) dX9_deadsOf_84 fl_X9_13 rfl (by decide) rfl ?_
      refine bf_iload_n r.1 dX9_deadsOf_87 rfl ?_
      refine bf_iload_n r.1 dX9_deadsOf_88 rfl ?_
      refine ia_st r (n := 4) dX9_deadsOf_89 rfl (by decide) (by omega) ?_
      refine bf_iload_n r.1 dX9_deadsOf_90 rfl ?_
      refine nz_ne r (tgt := 99) dX9_deadsOf_91 (by decide) (by omega) (fun c444 => ?_) (fun c444 => ?_)
      · refine bf_iload r.1 dX9_deadsOf_99 rfl ?_
        refine nz_ne r (tgt := 109) dX9_deadsOf_101 (by decide) (by have := bf_ct_le' (pDs P Q k) 128; omega) (fun c445 => ?_) (fun c445 => ?_)
        · refine bf_iload_n r.1 dX9_deadsOf_109 rfl ?_
          refine bf_iconst r.1 (v := nI 1) dX9_deadsOf_110 rfl ?_
          refine nc_ne r (tgt := 119) dX9_deadsOf_111 (by decide) (by omega) (by decide) (fun c446 => ?_) (fun c446 => ?_)
          · refine bf_iload_n r.1 dX9_deadsOf_119 rfl ?_
            refine bf_iconst r.1 (v := nI 2) dX9_deadsOf_120 rfl ?_
            refine nc_ne r (tgt := 129) dX9_deadsOf_121 (by decide) (by omega) (by decide) (fun c447 => ?_) (fun c447 => ?_)
            · refine bf_iload r.1 dX9_deadsOf_129 rfl ?_
              have hq : ∀ a t, bf_u D2 39 k (nI (pD P k)) a t = D a t := by
                intro a t
                by_cases e1 : a = 39 ∧ t = k
                · rw [e1.1, e1.2, bf_us]; exact (mP_d hm hk).symm
                · rw [bf_un (by omega)]; exact hO a t (by omega)
              have ho : ox_deadsN P Q k wh = bf_le (pDs P Q k) 128 := by unfold ox_deadsN; rw [if_neg c444, if_neg c445, if_neg (show ¬ nI (wh - 1) = 0 from fun q => absurd ((nI_eq (show wh - 1 < 2 ^ 31 by omega) (show 0 < 2 ^ 31 by decide)).mp q) (by omega)), if_neg (show ¬ nI (wh - 1) = nI 1 from fun q => absurd ((nI_eq (by omega) (by decide)).mp q) (by omega))]
              exact re_i r dX9_deadsOf_131 rfl rfl ⟨by rw [ho], (mA_q ma hq), (fun a t _ => hq a t)⟩
            · refine bf_iload r.1 dX9_deadsOf_124 rfl ?_
              refine bf_goto r.1 (tgt := 131) dX9_deadsOf_126 (by decide) ?_
              have hq : ∀ a t, bf_u D2 39 k (nI (pD P k)) a t = D a t := by
                intro a t
                by_cases e1 : a = 39 ∧ t = k
                · rw [e1.1, e1.2, bf_us]; exact (mP_d hm hk).symm
                · rw [bf_un (by omega)]; exact hO a t (by omega)
              have ho : ox_deadsN P Q k wh = nI (bf_oo (pDs P Q k) 128) := by unfold ox_deadsN; rw [if_neg c444, if_neg c445, if_neg (show ¬ nI (wh - 1) = 0 from fun q => absurd ((nI_eq (show wh - 1 < 2 ^ 31 by omega) (show 0 < 2 ^ 31 by decide)).mp q) (by omega)), if_pos (show nI (wh - 1) = nI 1 by rw [c447])]
              exact re_i r dX9_deadsOf_131 rfl rfl ⟨by rw [ho], (mA_q ma hq), (fun a t _ => hq a t)⟩
          · refine bf_iload r.1 dX9_deadsOf_114 rfl ?_
            refine bf_goto r.1 (tgt := 131) dX9_deadsOf_116 (by decide) ?_
            have hq : ∀ a t, bf_u D2 39 k (nI (pD P k)) a t = D a t := by
              intro a t
              by_cases e1 : a = 39 ∧ t = k
              · rw [e1.1, e1.2, bf_us]; exact (mP_d hm hk).symm
              · rw [bf_un (by omega)]; exact hO a t (by omega)
            have ho : ox_deadsN P Q k wh = nI (bf_aa (pDs P Q k) 128) := by unfold ox_deadsN; rw [if_neg c444, if_neg c445, if_pos (show nI (wh - 1) = 0 by rw [c446]; rfl)]
            exact re_i r dX9_deadsOf_131 rfl rfl ⟨by rw [ho], (mA_q ma hq), (fun a t _ => hq a t)⟩
        · refine bf_bipush r.1 (v := -9) dX9_deadsOf_104 rfl ?_
          refine bf_goto r.1 (tgt := 131) dX9_deadsOf_106 (by decide) ?_
          have hq : ∀ a t, bf_u D2 39 k (nI (pD P k)) a t = D a t := by
            intro a t
            by_cases e1 : a = 39 ∧ t = k
            · rw [e1.1, e1.2, bf_us]; exact (mP_d hm hk).symm
            · rw [bf_un (by omega)]; exact hO a t (by omega)
          have ho : ox_deadsN P Q k wh = -9 := by unfold ox_deadsN; rw [if_neg c444, if_pos c445]
          exact re_i r dX9_deadsOf_131 rfl rfl ⟨by rw [ho], (mA_q ma hq), (fun a t _ => hq a t)⟩
      · refine bf_iload r.1 dX9_deadsOf_94 rfl ?_
        refine bf_goto r.1 (tgt := 131) dX9_deadsOf_96 (by decide) ?_
        have hq : ∀ a t, bf_u D2 39 k (nI (pD P k)) a t = D a t := by
          intro a t
          by_cases e1 : a = 39 ∧ t = k
          · rw [e1.1, e1.2, bf_us]; exact (mP_d hm hk).symm
          · rw [bf_un (by omega)]; exact hO a t (by omega)
        have ho : ox_deadsN P Q k wh = nI (bf_ct (pDs P Q k) 128) := by unfold ox_deadsN; rw [if_pos c444]
        exact re_i r dX9_deadsOf_131 rfl rfl ⟨by rw [ho], (mA_q ma hq), (fun a t _ => hq a t)⟩
    · refine bf_aload_n r.1 dX9_deadsOf_31 rfl ?_
      refine ig_ref r (b := 39) dX9_deadsOf_32 fl_X9_13 rfl (by decide) rfl ?_
      refine bf_iload_n r.1 dX9_deadsOf_35 rfl ?_
      refine bf_iload r.1 dX9_deadsOf_36 rfl ?_
      refine ia_st r (n := 4) dX9_deadsOf_38 rfl (by decide) (by omega) ?_
      refine bf_aload_n r.1 dX9_deadsOf_39 rfl ?_
      refine cl_v r (y2 := mX9_areSo) dX9_deadsOf_40 li_X9_249 mv_X9_areSo rfl (by decide) [] [] rfl (Nat.le_of_ble_eq_true rfl) rfl (c_B_areSo (by omega) (vB_set (vB_of hv) (vP_k hv hk) (show j < 128 by omega) hk) (mB_setD (mB_of hm) hn4 (fun a t q => (bf_un (by omega)).trans (hO a t (by omega))) bf_us hk) (mR_e mr (fun a t q => (bf_un (by omega)).trans (hO a t (by omega)))) vr.1 vr.2) ?_
      show J 43 [some (.ref 37), some (.int (nI k)), some (.int (nI wh)), some (.int (nI (pD P k))), some (.int (nI (bf_ct (pDs P Q k) j))), some (.int (nI (bf_aa (pDs P Q k) j))), some (.int (nI (bf_oo (pDs P Q k) j))), some (.int (bf_le (pDs P Q k) j)), some (.int (nI j))] [.int (if pSo (pSet P k (pK P k) j (pT P k) (pW P k)) Q = true then 1 else 0)] (bf_MD (bf_u D2 39 k (nI j)))
      refine nb_eq r (tgt := 77) dX9_deadsOf_43 (by decide) (fun c448 => ?_) (fun c448 => ?_)
      · refine na_inc r (v := j + 1) (L2 := [some (.ref 37), some (.int (nI k)), some (.int (nI wh)), some (.int (nI (pD P k))), some (.int (nI (bf_ct (pDs P Q k) j))), some (.int (nI (bf_aa (pDs P Q k) j))), some (.int (nI (bf_oo (pDs P Q k) j))), some (.int (bf_le (pDs P Q k) j)), some (.int (nI (j + 1)))]) dX9_deadsOf_77 rfl (nI_add _ 1) rfl ?_
        refine bf_goto r.1 (tgt := 24) dX9_deadsOf_80 (by decide) ?_
        have hi := ih (by omega) _ (fun a t q => (bf_un (a := 39) (j := k) (v := nI j) (by omega)).trans (hO a t q))
        have hp : ¬ pDs P Q k j = true := c448
        simp only [bf_ct, bf_aa, bf_oo, bf_le, if_neg hp, Nat.add_zero] at hi
        exact hi
      · refine na_inc r (v := bf_ct (pDs P Q k) j + 1) (L2 := [some (.ref 37), some (.int (nI k)), some (.int (nI wh)), some (.int (nI (pD P k))), some (.int (nI (bf_ct (pDs P Q k) j + 1))), some (.int (nI (bf_aa (pDs P Q k) j))), some (.int (nI (bf_oo (pDs P Q k) j))), some (.int (bf_le (pDs P Q k) j)), some (.int (nI j))]) dX9_deadsOf_46 rfl (nI_add _ 1) rfl ?_
        refine bf_iload r.1 dX9_deadsOf_49 rfl ?_
        refine bf_iload r.1 dX9_deadsOf_51 rfl ?_
        refine na_and r dX9_deadsOf_53  ?_
        refine bf_istore r.1 (L2 := [some (.ref 37), some (.int (nI k)), some (.int (nI wh)), some (.int (nI (pD P k))), some (.int (nI (bf_ct (pDs P Q k) j + 1))), some (.int (nI ((bf_aa (pDs P Q k) j) &&& j))), some (.int (nI (bf_oo (pDs P Q k) j))), some (.int (bf_le (pDs P Q k) j)), some (.int (nI j))]) dX9_deadsOf_54 rfl ?_
        refine bf_iload r.1 dX9_deadsOf_56 rfl ?_
        refine bf_iload r.1 dX9_deadsOf_58 rfl ?_
        refine na_or r dX9_deadsOf_60  ?_
        refine bf_istore r.1 (L2 := [some (.ref 37), some (.int (nI k)), some (.int (nI wh)), some (.int (nI (pD P k))), some (.int (nI (bf_ct (pDs P Q k) j + 1))), some (.int (nI ((bf_aa (pDs P Q k) j) &&& j))), some (.int (nI ((bf_oo (pDs P Q k) j) ||| j))), some (.int (bf_le (pDs P Q k) j)), some (.int (nI j))]) dX9_deadsOf_61 rfl ?_
        refine bf_iload r.1 dX9_deadsOf_63 rfl ?_
        refine bf_if_ge r.1 (tgt := 73) dX9_deadsOf_65 (by decide) (fun c449 => ?_) (fun c449 => ?_)
        · have h0 : ¬ bf_ct (pDs P Q k) j = 0 := (bf_le_ge (by omega)).mp c449
          refine bf_iload r.1 dX9_deadsOf_73 rfl ?_
          refine bf_istore r.1 (L2 := [some (.ref 37), some (.int (nI k)), some (.int (nI wh)), some (.int (nI (pD P k))), some (.int (nI (bf_ct (pDs P Q k) j + 1))), some (.int (nI ((bf_aa (pDs P Q k) j) &&& j))), some (.int (nI ((bf_oo (pDs P Q k) j) ||| j))), some (.int (bf_le (pDs P Q k) j)), some (.int (nI j))]) dX9_deadsOf_75 rfl ?_
          refine na_inc r (v := j + 1) (L2 := [some (.ref 37), some (.int (nI k)), some (.int (nI wh)), some (.int (nI (pD P k))), some (.int (nI (bf_ct (pDs P Q k) j + 1))), some (.int (nI ((bf_aa (pDs P Q k) j) &&& j))), some (.int (nI ((bf_oo (pDs P Q k) j) ||| j))), some (.int (bf_le (pDs P Q k) j)), some (.int (nI (j + 1)))]) dX9_deadsOf_77 rfl (nI_add _ 1) rfl ?_
          refine bf_goto r.1 (tgt := 24) dX9_deadsOf_80 (by decide) ?_
          have hi := ih (by omega) _ (fun a t q => (bf_un (a := 39) (j := k) (v := nI j) (by omega)).trans (hO a t q))
          have hp : pDs P Q k j = true := c448
          simp only [bf_ct, bf_aa, bf_oo, bf_le, if_pos hp, if_neg h0] at hi
          exact hi
        · have h0 : bf_ct (pDs P Q k) j = 0 := Decidable.not_not.mp (fun q => c449 ((bf_le_ge (by omega)).mpr q))
          refine bf_iload r.1 dX9_deadsOf_68 rfl ?_
          refine bf_goto r.1 (tgt := 75) dX9_deadsOf_70 (by decide) ?_
          refine bf_istore r.1 (L2 := [some (.ref 37), some (.int (nI k)), some (.int (nI wh)), some (.int (nI (pD P k))), some (.int (nI (bf_ct (pDs P Q k) j + 1))), some (.int (nI ((bf_aa (pDs P Q k) j) &&& j))), some (.int (nI ((bf_oo (pDs P Q k) j) ||| j))), some (.int (nI j)), some (.int (nI j))]) dX9_deadsOf_75 rfl ?_
          refine na_inc r (v := j + 1) (L2 := [some (.ref 37), some (.int (nI k)), some (.int (nI wh)), some (.int (nI (pD P k))), some (.int (nI (bf_ct (pDs P Q k) j + 1))), some (.int (nI ((bf_aa (pDs P Q k) j) &&& j))), some (.int (nI ((bf_oo (pDs P Q k) j) ||| j))), some (.int (nI j)), some (.int (nI (j + 1)))]) dX9_deadsOf_77 rfl (nI_add _ 1) rfl ?_
          refine bf_goto r.1 (tgt := 24) dX9_deadsOf_80 (by decide) ?_
          have hi := ih (by omega) _ (fun a t q => (bf_un (a := 39) (j := k) (v := nI j) (by omega)).trans (hO a t q))
          have hp : pDs P Q k j = true := c448
          simp only [bf_ct, bf_aa, bf_oo, bf_le, if_pos hp, if_pos h0] at hi
          exact hi
  exact lo 0 (Nat.zero_le _) D (fun _ _ _ => rfl)
theorem e_X9_deads {d : Nat} (hd : 10 ≤ d) {D : bf_D} {P : bf_Pn} {S : bf_Sh} {Q : bf_Rd} {F : Nat} {T : Int32} (va : vA (P, S, Q, F, T)) (ma : mA D (P, S, Q, F, T)) (k wh : Int32) : bf_Ce d mX9_deads [.ref 37, .int (k), .int (wh)] D (fun r D' => r = some (.int (ox_deads P Q k wh)) ∧ mA D' (P, S, Q, F, T) ∧ bf_fr 37 57 D D') := by
  refine bf_Ce_of 9 hd mo_X9_deads (Nat.le_of_ble_eq_true rfl) (fun e he J r => ?_)
  show J 0 [some (.ref 37), some (.int (k)), some (.int (wh))] [] (bf_MD D)
  obtain ⟨hv, vs, vr, hF⟩ := id va
  obtain ⟨hm, ms, mr, c5, c6⟩ := id ma
  have hn4 := hv.1
  have hx4 := pX_le hv
  have hx0 := pX_pos P
  refine bf_aload_n r.1 dX9_deads_0 rfl ?_
  refine bf_iload_n r.1 dX9_deads_1 rfl ?_
  refine cl_v r (y2 := mX9_noPlace) dX9_deads_2 li_X9_160 mv_X9_noPlace rfl (by decide) [.int (k)] [] rfl (Nat.le_of_ble_eq_true rfl) rfl (c_X9_noPlace (by omega) hv hm _) ?_
  show J 5 [some (.ref 37), some (.int (k)), some (.int (wh))] [.int (if ¬ (0 ≤ k ∧ k < nI (pN P)) then 1 else 0)] (bf_MD D)
  refine nb_eq r (tgt := 10) dX9_deads_5 (by decide) (fun c450 => ?_) (fun c450 => ?_)
  · obtain ⟨k0, hk0, rfl⟩ := rg_in (by omega) (Decidable.not_not.mp c450)
    have wk := rg_s hk0 (by omega)
    refine bf_iload_n r.1 dX9_deads_10 rfl ?_
    refine bf_i2l r.1 dX9_deads_11 ?_
    refine bf_lconst r.1 (v := lN 0) dX9_deads_12 rfl ?_
    refine bf_ldc2 r.1 dX9_deads_13 lc_X9_253 ?_
    refine eq_l (v := lN 3) rfl ?_
    refine cl_s r (y2 := mX9_in) dX9_deads_16 li_X9_80 mv_X9_in [.long (wh.toInt64), .long (lN 0), .long (lN 3)] [] rfl (Nat.le_of_ble_eq_true rfl) rfl (c_X9_in32 (by omega) D wh (h := 3) (m := 4) rfl (by decide)) ?_
    show J 19 [some (.ref 37), some (.int (nI k0)), some (.int (wh))] [.int (if 0 ≤ wh ∧ wh < nI 4 then 1 else 0)] (bf_MD D)
    refine nb_eq r (tgt := 31) dX9_deads_19 (by decide) (fun c451 => ?_) (fun c451 => ?_)
    · have wwh := rg_n c451
      refine bf_bipush r.1 (v := -2) dX9_deads_31 rfl ?_
      have ho : ox_deads P Q (nI k0) wh = -2 := by simp only [ox_deads, wk, wwh, on_n, on_s]
      exact re_i r dX9_deads_33 rfl rfl ⟨by rw [ho], ma, fr_0⟩
    · obtain ⟨wh0, hwh0, rfl⟩ := rg_in (by decide) c451
      have wwh := rg_s hwh0 (by decide)
      refine bf_aload_n r.1 dX9_deads_22 rfl ?_
      refine bf_iload_n r.1 dX9_deads_23 rfl ?_
      refine bf_iload_n r.1 dX9_deads_24 rfl ?_
      refine ce_v r (y2 := mX9_deadsOf) dX9_deads_25 li_X9_255 mv_X9_deadsOf rfl (by decide) [.int (nI k0), .int (nI wh0)] [] rfl (Nat.le_of_ble_eq_true rfl) rfl (e_X9_deadsOf (by omega) va ma hk0 hwh0) (fun res D452 hq452 => ?_)
      obtain ⟨rfl, hma452, hf452⟩ := hq452
      show J 28 [some (.ref 37), some (.int (nI k0)), some (.int (nI wh0))] [.int (ox_deadsN P Q k0 wh0)] (bf_MD D452)
      refine bf_goto r.1 (tgt := 33) dX9_deads_28 (by decide) ?_
      have ho : ox_deads P Q (nI k0) (nI wh0) = ox_deadsN P Q k0 wh0 := by simp only [ox_deads, wk, wwh, on_n, on_s, ox_deadsN]
      exact re_i r dX9_deads_33 rfl rfl ⟨by rw [ho], hma452, hf452⟩
  · have wk := rg_n c450
    refine bf_iconst r.1 (v := -1) dX9_deads_8 rfl ?_
    have ho : ox_deads P Q k wh = -1 := by simp only [ox_deads, wk, on_n, on_s]
    exact re_i r dX9_deads_9 rfl rfl ⟨by rw [ho], ma, fr_0⟩
theorem bf_pc7 {s : Nat} (h : s < 128) : bf_pc s < 8 := by
  have key : ∀ s : Fin 128, bf_pc s.1 < 8 := by decide +kernel
  exact key ⟨s, h⟩
theorem bf_ct_full {p : Nat → Bool} : ∀ n, bf_ct p n = n ↔ ∀ i, i < n → p i = true := by
  intro n
  induction n with
  | zero => exact ⟨fun _ i h => absurd h (Nat.not_lt_zero _), fun _ => rfl⟩
  | succ n ih =>
    have hl := bf_ct_le p n
    simp only [bf_ct]
    by_cases hp : p n = true
    · rw [if_pos hp]
      constructor
      · intro h i hi
        by_cases e : i = n
        · rw [e]; exact hp
        · exact ih.mp (by omega) i (by omega)
      · intro h
        rw [ih.mpr (fun i hi => h i (by omega))]
    · rw [if_neg hp]
      constructor
      · intro h; omega
      · intro h; exact absurd (h n (by omega)) hp
theorem bf_bn_eq {q dd st a b : Nat} (hd : dd < 128) (hs : st < 128) : bf_bn q dd st a = bf_bn q dd st b ↔ bf_cq q dd st a b = 0 := by
  have t7 : ∀ i, i < 7 → Nat.testBit 127 i = true := by decide
  have hi7 : ∀ {x i : Nat}, x < 128 → ¬ i < 7 → x.testBit i = false := fun {x i} hx hi => Nat.testBit_lt_two_pow (Nat.lt_of_lt_of_le hx (by have := Nat.pow_le_pow_right (n := 2) (by decide) (show 7 ≤ i by omega); simpa using this))
  constructor
  · intro h
    apply Nat.eq_of_testBit_eq
    intro i
    rw [Nat.zero_testBit]
    by_cases hi : i < 7
    · have h1 := congrArg (fun x => x.testBit i) h
      simp only [bf_bn_bit hi] at h1
      unfold bf_cq
      rw [Nat.testBit_and, Nat.testBit_xor, Nat.testBit_xor, Nat.testBit_or, t7 i hi]
      generalize (bf_lk (q * 10 + a)).testBit i = x1 at *
      generalize (bf_lk (q * 10 + b)).testBit i = x2 at *
      generalize dd.testBit i = x3 at *
      generalize st.testBit i = x4 at *
      revert h1
      cases x1 <;> cases x2 <;> cases x3 <;> cases x4 <;> decide
    · exact hi7 bf_cq_lt hi
  · intro h
    apply Nat.eq_of_testBit_eq
    intro i
    by_cases hi : i < 7
    · have h1 := congrArg (fun x => x.testBit i) h
      simp only [Nat.zero_testBit] at h1
      unfold bf_cq at h1
      rw [Nat.testBit_and, Nat.testBit_xor, Nat.testBit_xor, Nat.testBit_or, t7 i hi] at h1
      rw [bf_bn_bit hi, bf_bn_bit hi]
      generalize (bf_lk (q * 10 + a)).testBit i = x1 at *
      generalize (bf_lk (q * 10 + b)).testBit i = x2 at *
      generalize dd.testBit i = x3 at *
      generalize st.testBit i = x4 at *
      revert h1
      cases x1 <;> cases x2 <;> cases x3 <;> cases x4 <;> decide
    · rw [hi7 (bf_bn_lt hs) hi, hi7 (bf_bn_lt hs) hi]
theorem pU_clr {P : bf_Pn} {k dd : Nat} (hd : dd < 128) (hs : pT P k < 128) : pU (pSet P k (pK P k) dd (pT P k) (pW P k)) k = 10 ↔ bf_clr (pK P k) dd (pT P k) = true := by
  unfold pU
  rw [bf_ct_full, bf_clr_t]
  constructor
  · intro h a ha b hb e
    have h1 := bf_al_t.mp ((pU_iff ha).mp (of_decide_eq_true (h a ha))) b hb
    have h2 := of_decide_eq_true h1
    rw [pSet_Bk, pSet_Bk] at h2
    apply h2
    rw [bf_bn_eq hd hs]
    unfold bf_cq at e ⊢
    rw [Nat.xor_comm]
    exact e
  · intro h a ha
    refine decide_eq_true ((pU_iff ha).mpr (bf_al_t.mpr (fun b hb => decide_eq_true (fun e => ?_))))
    rw [pSet_Bk, pSet_Bk, bf_bn_eq hd hs] at e
    apply h a ha b hb
    unfold bf_cq at e ⊢
    rw [Nat.xor_comm]
    exact e
theorem pRp_lt {P : bf_Pn} {k : Nat} : ∀ s b, pRp P k s = some b → b < s := by
  intro s
  induction s with
  | zero => intro b h; cases h
  | succ s ih =>
    intro b h
    simp only [pRp] at h
    split at h
    · split at h
      · split at h
        · cases h; omega
        · have := ih b h; omega
      · have := ih b h; omega
    · have := ih b h; omega
theorem e_X9_repair {d : Nat} (hd : 10 ≤ d) {D : bf_D} {P : bf_Pn} {S : bf_Sh} {Q : bf_Rd} {F : Nat} {T : Int32} (va : vA (P, S, Q, F, T)) (ma : mA D (P, S, Q, F, T)) (k : Int32) : bf_Ce d mX9_repair [.ref 37, .int (k)] D (fun r D' => r = some (.int (ox_repair P k)) ∧ mA D' (P, S, Q, F, T) ∧ bf_fr 37 57 D D') := by
  refine bf_Ce_of 9 hd mo_X9_repair (Nat.le_of_ble_eq_true rfl) (fun e he J r => ?_)
  show J 0 [some (.ref 37), some (.int (k)), none, none, none, none] [] (bf_MD D)
  obtain ⟨hv, vs, vr, hF⟩ := id va
  obtain ⟨hm, ms, mr, c5, c6⟩ := id ma
  have hn4 := hv.1
  have hx4 := pX_le hv
  have hx0 := pX_pos P
  refine bf_aload_n r.1 dX9_repair_0 rfl ?_
  refine bf_iload_n r.1 dX9_repair_1 rfl ?_
  refine cl_v r (y2 := mX9_noPlace) dX9_repair_2 li_X9_160 mv_X9_noPlace rfl (by decide) [.int (k)] [] rfl (Nat.le_of_ble_eq_true rfl) rfl (c_X9_noPlace (by omega) hv hm _) ?_
  show J 5 [some (.ref 37), some (.int (k)), none, none, none, none] [.int (if ¬ (0 ≤ k ∧ k < nI (pN P)) then 1 else 0)] (bf_MD D)
  refine nb_eq r (tgt := 10) dX9_repair_5 (by decide) (fun c453 => ?_) (fun c453 => ?_)
  · obtain ⟨k0, hk0, rfl⟩ := rg_in (by omega) (Decidable.not_not.mp c453)
    have wk := rg_s hk0 (by omega)
    refine bf_aload_n r.1 dX9_repair_10 rfl ?_
    refine ig_ref r (b := 39) dX9_repair_11 fl_X9_13 rfl (by decide) rfl ?_
    refine bf_iload_n r.1 dX9_repair_14 rfl ?_
    refine ia_ld r (n := 4) (v := nI (pD P k0)) dX9_repair_15 rfl (by decide) (by omega) (mP_d (P := P) hm hk0) ?_
    refine bf_istore_n r.1 (L2 := [some (.ref 37), some (.int (nI k0)), some (.int (nI (pD P k0))), none, none, none]) dX9_repair_16 rfl ?_
    refine bf_bipush r.1 (v := -9) dX9_repair_17 rfl ?_
    refine bf_istore_n r.1 (L2 := [some (.ref 37), some (.int (nI k0)), some (.int (nI (pD P k0))), some (.int (-9)), none, none]) dX9_repair_19 rfl ?_
    refine bf_iconst r.1 (v := nI 0) dX9_repair_20 rfl ?_
    refine bf_istore r.1 (L2 := [some (.ref 37), some (.int (nI k0)), some (.int (nI (pD P k0))), some (.int (-9)), some (.int (nI 0)), none]) dX9_repair_21 rfl ?_
    have hD := vP_d hv hk0
    have hT := vP_t hv hk0
    have lo : ∀ s : Nat, s ≤ 128 → ∀ D2 : bf_D, (∀ a t, (a ≠ 39 ∨ t ≠ k0) → D2 a t = D a t) → J 23 [some (.ref 37), some (.int (nI k0)), some (.int (nI (pD P k0))), some (.int (bf_oN (pRp P k0 s))), some (.int (nI s)), none] [] (bf_MD D2) := by
      refine bf_down (fun s hle ih => ?_)
      intro D2 hO
      refine bf_iload r.1 dX9_repair_23 rfl ?_
      refine bf_bipush r.1 (v := nI 127) dX9_repair_25 rfl ?_
      refine nc_gt r (tgt := 102) dX9_repair_27 (by decide) (by omega) (by decide) (fun c454 => ?_) (fun c454 => ?_)
      · have es : s = 128 := by omega
        subst es
        refine bf_aload_n r.1 dX9_repair_102 rfl ?_
        refine ig_ref r (b := 39) dX9_repair_103 fl_X9_13 rfl (by decide) rfl ?_
        refine bf_iload_n r.1 dX9_repair_106 rfl ?_
        refine bf_iload_n r.1 dX9_repair_107 rfl ?_
        refine ia_st r (n := 4) dX9_repair_108 rfl (by decide) (by omega) ?_
        refine bf_iload_n r.1 dX9_repair_109 rfl ?_
        have hq : ∀ a t, bf_u D2 39 k0 (nI (pD P k0)) a t = D a t := by
          intro a t
          by_cases e1 : a = 39 ∧ t = k0
          · rw [e1.1, e1.2, bf_us]; exact (mP_d hm hk0).symm
          · rw [bf_un (by omega)]; exact hO a t (by omega)
        have ho : ox_repair P (nI k0) = bf_oN (pRp P k0 128) := by simp only [ox_repair, wk, on_n, on_s]
        exact re_i r dX9_repair_110 rfl rfl ⟨by rw [ho], (mA_q ma hq), (fun a t _ => hq a t)⟩
      · by_cases hd2 : pRp P k0 s = none
        · rw [hd2]
          show J 30 [some (.ref 37), some (.int (nI k0)), some (.int (nI (pD P k0))), some (.int (-9)), some (.int (nI s)), none] [] (bf_MD D2)
          refine bf_iload r.1 dX9_repair_30 rfl ?_
          refine bf_iload_n r.1 dX9_repair_32 rfl ?_
          refine bf_iconst r.1 (v := -1) dX9_repair_33 rfl ?_
          refine bf_ixor r.1 dX9_repair_34 ?_
          refine bf_iand r.1 dX9_repair_35 ?_
          refine eq_i (bf_nand (show s < 128 by omega) hD) ?_
          refine nz_ne r (tgt := 59) dX9_repair_36 (by decide) (show s &&& _ < 2 ^ 31 from Nat.lt_of_le_of_lt Nat.and_le_left (by omega)) (fun c455 => ?_) (fun c455 => ?_)
          · refine bf_iconst r.1 (v := nI 0) dX9_repair_59 rfl ?_
            refine bf_istore r.1 (L2 := [some (.ref 37), some (.int (nI k0)), some (.int (nI (pD P k0))), some (.int (-9)), some (.int (nI s)), some (.int (nI 0))]) dX9_repair_60 rfl ?_
            refine bf_aload_n r.1 dX9_repair_62 rfl ?_
            refine ig_ref r (b := 39) dX9_repair_63 fl_X9_13 rfl (by decide) rfl ?_
            refine bf_iload_n r.1 dX9_repair_66 rfl ?_
            refine bf_iload_n r.1 dX9_repair_67 rfl ?_
            refine bf_iload r.1 dX9_repair_68 rfl ?_
            refine bf_iconst r.1 (v := -1) dX9_repair_70 rfl ?_
            refine bf_ixor r.1 dX9_repair_71 ?_
            refine bf_iand r.1 dX9_repair_72 ?_
            refine eq_i (bf_nand hD (show s < 128 by omega)) ?_
            refine ia_st r (n := 4) dX9_repair_73 rfl (by decide) (by omega) ?_
            refine bf_iload r.1 dX9_repair_74 rfl ?_
            refine nz_eq r (tgt := 94) dX9_repair_76 (by decide) (by decide) (fun c456 => ?_) (fun c456 => ?_)
            · refine bf_iload_n r.1 dX9_repair_94 rfl ?_
              refine bf_istore_n r.1 (L2 := [some (.ref 37), some (.int (nI k0)), some (.int (nI (pD P k0))), some (.int (-9)), some (.int (nI s)), some (.int (nI 0))]) dX9_repair_95 rfl ?_
              refine na_inc r (v := s + 1) (L2 := [some (.ref 37), some (.int (nI k0)), some (.int (nI (pD P k0))), some (.int (-9)), some (.int (nI (s + 1))), some (.int (nI 0))]) dX9_repair_96 rfl (nI_add _ 1) rfl ?_
              refine bf_goto r.1 (tgt := 23) dX9_repair_99 (by decide) ?_
              refine bf_fgt r.1 (i := 5) (L2 := [some (.ref 37), some (.int (nI k0)), some (.int (nI (pD P k0))), some (.int (-9)), some (.int (nI (s + 1))), none]) rfl ?_
              have hi := ih (by omega) _ (fun a t q => (bf_un (a := 39) (j := k0) (v := nI (pD P k0 &&& (127 ^^^ s))) (by omega)).trans (hO a t q))
              have e9 : pRp P k0 (s + 1) = none := by simp only [pRp]; rw [if_neg c455, hd2]
              rw [e9] at hi
              exact hi
            · exact absurd rfl c456
          · refine bf_iload_n r.1 dX9_repair_39 rfl ?_
            refine bf_if_lt r.1 (tgt := 55) dX9_repair_40 (by decide) (fun c457 => ?_) (fun c457 => ?_)
            · refine bf_iconst r.1 (v := nI 1) dX9_repair_55 rfl ?_
              refine bf_goto r.1 (tgt := 60) dX9_repair_56 (by decide) ?_
              refine bf_istore r.1 (L2 := [some (.ref 37), some (.int (nI k0)), some (.int (nI (pD P k0))), some (.int (-9)), some (.int (nI s)), some (.int (nI 1))]) dX9_repair_60 rfl ?_
              refine bf_aload_n r.1 dX9_repair_62 rfl ?_
              refine ig_ref r (b := 39) dX9_repair_63 fl_X9_13 rfl (by decide) rfl ?_
              refine bf_iload_n r.1 dX9_repair_66 rfl ?_
              refine bf_iload_n r.1 dX9_repair_67 rfl ?_
              refine bf_iload r.1 dX9_repair_68 rfl ?_
              refine bf_iconst r.1 (v := -1) dX9_repair_70 rfl ?_
              refine bf_ixor r.1 dX9_repair_71 ?_
              refine bf_iand r.1 dX9_repair_72 ?_
              refine eq_i (bf_nand hD (show s < 128 by omega)) ?_
              refine ia_st r (n := 4) dX9_repair_73 rfl (by decide) (by omega) ?_
              refine bf_iload r.1 dX9_repair_74 rfl ?_
              refine nz_eq r (tgt := 94) dX9_repair_76 (by decide) (by decide) (fun c458 => ?_) (fun c458 => ?_)
              · exact absurd c458 (by decide)
              · refine bf_aload_n r.1 dX9_repair_79 rfl ?_
                refine bf_iload_n r.1 dX9_repair_80 rfl ?_
                refine cl_v r (y2 := mX9_unlikeAt) dX9_repair_81 li_X9_163 mv_X9_unlikeAt rfl (by decide) [.int (nI k0)] [] rfl (Nat.le_of_ble_eq_true rfl) rfl (c_B_unlikeAt (by omega) (vB_set (vB_of hv) (vP_k hv hk0) (show pD P k0 &&& (127 ^^^ s) < 128 from bf_and_lt hD) hk0) (mB_setD (mB_of hm) hn4 (fun a t q => (bf_un (by omega)).trans (hO a t (by omega))) bf_us hk0) hk0) ?_
                show J 84 [some (.ref 37), some (.int (nI k0)), some (.int (nI (pD P k0))), some (.int (-9)), some (.int (nI s)), some (.int (nI 1))] [.int (nI (pU (pSet P k0 (pK P k0) (pD P k0 &&& (127 ^^^ s)) (pT P k0) (pW P k0)) k0))] (bf_MD (bf_u D2 39 k0 (nI (pD P k0 &&& (127 ^^^ s)))))
                refine bf_bipush r.1 (v := nI 10) dX9_repair_84 rfl ?_
                refine nc_ne r (tgt := 94) dX9_repair_86 (by decide) (Nat.lt_of_le_of_lt (bf_ct_le _ 10) (by decide)) (by decide) (fun c459 => ?_) (fun c459 => ?_)
                · refine bf_iload_n r.1 dX9_repair_94 rfl ?_
                  refine bf_istore_n r.1 (L2 := [some (.ref 37), some (.int (nI k0)), some (.int (nI (pD P k0))), some (.int (-9)), some (.int (nI s)), some (.int (nI 1))]) dX9_repair_95 rfl ?_
                  refine na_inc r (v := s + 1) (L2 := [some (.ref 37), some (.int (nI k0)), some (.int (nI (pD P k0))), some (.int (-9)), some (.int (nI (s + 1))), some (.int (nI 1))]) dX9_repair_96 rfl (nI_add _ 1) rfl ?_
                  refine bf_goto r.1 (tgt := 23) dX9_repair_99 (by decide) ?_
                  refine bf_fgt r.1 (i := 5) (L2 := [some (.ref 37), some (.int (nI k0)), some (.int (nI (pD P k0))), some (.int (-9)), some (.int (nI (s + 1))), none]) rfl ?_
                  have hi := ih (by omega) _ (fun a t q => (bf_un (a := 39) (j := k0) (v := nI (pD P k0 &&& (127 ^^^ s))) (by omega)).trans (hO a t q))
                  have e9 : pRp P k0 (s + 1) = none := by simp only [pRp]; rw [if_pos c455, hd2, if_pos (show bf_pc s < bf_rpc none from bf_pc7 (by omega)), if_neg ((fun q => c459 ((pU_clr (bf_and_lt hD) hT).mpr q)))]
                  rw [e9] at hi
                  exact hi
                · refine bf_iload r.1 dX9_repair_89 rfl ?_
                  refine bf_goto r.1 (tgt := 95) dX9_repair_91 (by decide) ?_
                  refine bf_istore_n r.1 (L2 := [some (.ref 37), some (.int (nI k0)), some (.int (nI (pD P k0))), some (.int (nI s)), some (.int (nI s)), some (.int (nI 1))]) dX9_repair_95 rfl ?_
                  refine na_inc r (v := s + 1) (L2 := [some (.ref 37), some (.int (nI k0)), some (.int (nI (pD P k0))), some (.int (nI s)), some (.int (nI (s + 1))), some (.int (nI 1))]) dX9_repair_96 rfl (nI_add _ 1) rfl ?_
                  refine bf_goto r.1 (tgt := 23) dX9_repair_99 (by decide) ?_
                  refine bf_fgt r.1 (i := 5) (L2 := [some (.ref 37), some (.int (nI k0)), some (.int (nI (pD P k0))), some (.int (nI s)), some (.int (nI (s + 1))), none]) rfl ?_
                  have hi := ih (by omega) _ (fun a t q => (bf_un (a := 39) (j := k0) (v := nI (pD P k0 &&& (127 ^^^ s))) (by omega)).trans (hO a t q))
                  have e9 : pRp P k0 (s + 1) = some s := by simp only [pRp]; rw [if_pos c455, hd2, if_pos (show bf_pc s < bf_rpc none from bf_pc7 (by omega)), if_pos ((pU_clr (bf_and_lt hD) hT).mp c459)]
                  rw [e9] at hi
                  exact hi
            · exact absurd (by decide) c457
        · obtain ⟨b, hb⟩ := Option.ne_none_iff_exists'.mp hd2
          have hb1 := pRp_lt s b hb
          rw [hb]
          show J 30 [some (.ref 37), some (.int (nI k0)), some (.int (nI (pD P k0))), some (.int (nI b)), some (.int (nI s)), none] [] (bf_MD D2)
          refine bf_iload r.1 dX9_repair_30 rfl ?_
          refine bf_iload_n r.1 dX9_repair_32 rfl ?_
          refine bf_iconst r.1 (v := -1) dX9_repair_33 rfl ?_
          refine bf_ixor r.1 dX9_repair_34 ?_
          refine bf_iand r.1 dX9_repair_35 ?_
          refine eq_i (bf_nand (show s < 128 by omega) hD) ?_
          refine nz_ne r (tgt := 59) dX9_repair_36 (by decide) (show s &&& _ < 2 ^ 31 from Nat.lt_of_le_of_lt Nat.and_le_left (by omega)) (fun c460 => ?_) (fun c460 => ?_)
          · refine bf_iconst r.1 (v := nI 0) dX9_repair_59 rfl ?_
            refine bf_istore r.1 (L2 := [some (.ref 37), some (.int (nI k0)), some (.int (nI (pD P k0))), some (.int (nI b)), some (.int (nI s)), some (.int (nI 0))]) dX9_repair_60 rfl ?_
            refine bf_aload_n r.1 dX9_repair_62 rfl ?_
            refine ig_ref r (b := 39) dX9_repair_63 fl_X9_13 rfl (by decide) rfl ?_
            refine bf_iload_n r.1 dX9_repair_66 rfl ?_
            refine bf_iload_n r.1 dX9_repair_67 rfl ?_
            refine bf_iload r.1 dX9_repair_68 rfl ?_
            refine bf_iconst r.1 (v := -1) dX9_repair_70 rfl ?_
            refine bf_ixor r.1 dX9_repair_71 ?_
            refine bf_iand r.1 dX9_repair_72 ?_
            refine eq_i (bf_nand hD (show s < 128 by omega)) ?_
            refine ia_st r (n := 4) dX9_repair_73 rfl (by decide) (by omega) ?_
            refine bf_iload r.1 dX9_repair_74 rfl ?_
            refine nz_eq r (tgt := 94) dX9_repair_76 (by decide) (by decide) (fun c461 => ?_) (fun c461 => ?_)
            · refine bf_iload_n r.1 dX9_repair_94 rfl ?_
              refine bf_istore_n r.1 (L2 := [some (.ref 37), some (.int (nI k0)), some (.int (nI (pD P k0))), some (.int (nI b)), some (.int (nI s)), some (.int (nI 0))]) dX9_repair_95 rfl ?_
              refine na_inc r (v := s + 1) (L2 := [some (.ref 37), some (.int (nI k0)), some (.int (nI (pD P k0))), some (.int (nI b)), some (.int (nI (s + 1))), some (.int (nI 0))]) dX9_repair_96 rfl (nI_add _ 1) rfl ?_
              refine bf_goto r.1 (tgt := 23) dX9_repair_99 (by decide) ?_
              refine bf_fgt r.1 (i := 5) (L2 := [some (.ref 37), some (.int (nI k0)), some (.int (nI (pD P k0))), some (.int (nI b)), some (.int (nI (s + 1))), none]) rfl ?_
              have hi := ih (by omega) _ (fun a t q => (bf_un (a := 39) (j := k0) (v := nI (pD P k0 &&& (127 ^^^ s))) (by omega)).trans (hO a t q))
              have e9 : pRp P k0 (s + 1) = some b := by simp only [pRp]; rw [if_neg c460, hb]
              rw [e9] at hi
              exact hi
            · exact absurd rfl c461
          · refine bf_iload_n r.1 dX9_repair_39 rfl ?_
            refine nz_lt r (tgt := 55) dX9_repair_40 (by decide) (by omega) (fun c462 => ?_) (fun c462 => ?_)
            · exact absurd c462 (Nat.not_lt_zero _)
            · refine bf_iload r.1 dX9_repair_43 rfl ?_
              refine cl_s r (y2 := mX9_bits) dX9_repair_45 li_X9_188 mv_X9_bits [.int (nI s)] [] rfl (Nat.le_of_ble_eq_true rfl) rfl (c_X9_bits (by omega) D2 (by omega)) ?_
              show J 48 [some (.ref 37), some (.int (nI k0)), some (.int (nI (pD P k0))), some (.int (nI b)), some (.int (nI s)), none] [.int (nI (bf_pc s))] (bf_MD D2)
              refine bf_iload_n r.1 dX9_repair_48 rfl ?_
              refine cl_s r (y2 := mX9_bits) dX9_repair_49 li_X9_188 mv_X9_bits [.int (nI b)] [.int (nI (bf_pc s))] rfl (Nat.le_of_ble_eq_true rfl) rfl (c_X9_bits (by omega) D2 (by omega)) ?_
              show J 52 [some (.ref 37), some (.int (nI k0)), some (.int (nI (pD P k0))), some (.int (nI b)), some (.int (nI s)), none] [.int (nI (bf_pc b)), .int (nI (bf_pc s))] (bf_MD D2)
              refine nc_ge r (tgt := 59) dX9_repair_52 (by decide) (by have := bf_pc_le s; omega) (by have := bf_pc_le b; omega) (fun c463 => ?_) (fun c463 => ?_)
              · refine bf_iconst r.1 (v := nI 0) dX9_repair_59 rfl ?_
                refine bf_istore r.1 (L2 := [some (.ref 37), some (.int (nI k0)), some (.int (nI (pD P k0))), some (.int (nI b)), some (.int (nI s)), some (.int (nI 0))]) dX9_repair_60 rfl ?_
                refine bf_aload_n r.1 dX9_repair_62 rfl ?_
                refine ig_ref r (b := 39) dX9_repair_63 fl_X9_13 rfl (by decide) rfl ?_
                refine bf_iload_n r.1 dX9_repair_66 rfl ?_
                refine bf_iload_n r.1 dX9_repair_67 rfl ?_
                refine bf_iload r.1 dX9_repair_68 rfl ?_
                refine bf_iconst r.1 (v := -1) dX9_repair_70 rfl ?_
                refine bf_ixor r.1 dX9_repair_71 ?_
                refine bf_iand r.1 dX9_repair_72 ?_
                refine eq_i (bf_nand hD (show s < 128 by omega)) ?_
                refine ia_st r (n := 4) dX9_repair_73 rfl (by decide) (by omega) ?_
                refine bf_iload r.1 dX9_repair_74 rfl ?_
                refine nz_eq r (tgt := 94) dX9_repair_76 (by decide) (by decide) (fun c464 => ?_) (fun c464 => ?_)
                · refine bf_iload_n r.1 dX9_repair_94 rfl ?_
                  refine bf_istore_n r.1 (L2 := [some (.ref 37), some (.int (nI k0)), some (.int (nI (pD P k0))), some (.int (nI b)), some (.int (nI s)), some (.int (nI 0))]) dX9_repair_95 rfl ?_
                  refine na_inc r (v := s + 1) (L2 := [some (.ref 37), some (.int (nI k0)), some (.int (nI (pD P k0))), some (.int (nI b)), some (.int (nI (s + 1))), some (.int (nI 0))]) dX9_repair_96 rfl (nI_add _ 1) rfl ?_
                  refine bf_goto r.1 (tgt := 23) dX9_repair_99 (by decide) ?_
                  refine bf_fgt r.1 (i := 5) (L2 := [some (.ref 37), some (.int (nI k0)), some (.int (nI (pD P k0))), some (.int (nI b)), some (.int (nI (s + 1))), none]) rfl ?_
                  have hi := ih (by omega) _ (fun a t q => (bf_un (a := 39) (j := k0) (v := nI (pD P k0 &&& (127 ^^^ s))) (by omega)).trans (hO a t q))
                  have e9 : pRp P k0 (s + 1) = some b := by simp only [pRp]; rw [if_pos c460, hb, if_neg (show ¬ bf_pc s < bf_rpc (some b) from Nat.not_lt.mpr c463)]
                  rw [e9] at hi
                  exact hi
                · exact absurd rfl c464
              · refine bf_iconst r.1 (v := nI 1) dX9_repair_55 rfl ?_
                refine bf_goto r.1 (tgt := 60) dX9_repair_56 (by decide) ?_
                refine bf_istore r.1 (L2 := [some (.ref 37), some (.int (nI k0)), some (.int (nI (pD P k0))), some (.int (nI b)), some (.int (nI s)), some (.int (nI 1))]) dX9_repair_60 rfl ?_
                refine bf_aload_n r.1 dX9_repair_62 rfl ?_
                refine ig_ref r (b := 39) dX9_repair_63 fl_X9_13 rfl (by decide) rfl ?_
                refine bf_iload_n r.1 dX9_repair_66 rfl ?_
                refine bf_iload_n r.1 dX9_repair_67 rfl ?_
                refine bf_iload r.1 dX9_repair_68 rfl ?_
                refine bf_iconst r.1 (v := -1) dX9_repair_70 rfl ?_
                refine bf_ixor r.1 dX9_repair_71 ?_
                refine bf_iand r.1 dX9_repair_72 ?_
                refine eq_i (bf_nand hD (show s < 128 by omega)) ?_
                refine ia_st r (n := 4) dX9_repair_73 rfl (by decide) (by omega) ?_
                refine bf_iload r.1 dX9_repair_74 rfl ?_
                refine nz_eq r (tgt := 94) dX9_repair_76 (by decide) (by decide) (fun c465 => ?_) (fun c465 => ?_)
                · exact absurd c465 (by decide)
                · refine bf_aload_n r.1 dX9_repair_79 rfl ?_
                  refine bf_iload_n r.1 dX9_repair_80 rfl ?_
                  refine cl_v r (y2 := mX9_unlikeAt) dX9_repair_81 li_X9_163 mv_X9_unlikeAt rfl (by decide) [.int (nI k0)] [] rfl (Nat.le_of_ble_eq_true rfl) rfl (c_B_unlikeAt (by omega) (vB_set (vB_of hv) (vP_k hv hk0) (show pD P k0 &&& (127 ^^^ s) < 128 from bf_and_lt hD) hk0) (mB_setD (mB_of hm) hn4 (fun a t q => (bf_un (by omega)).trans (hO a t (by omega))) bf_us hk0) hk0) ?_
                  show J 84 [some (.ref 37), some (.int (nI k0)), some (.int (nI (pD P k0))), some (.int (nI b)), some (.int (nI s)), some (.int (nI 1))] [.int (nI (pU (pSet P k0 (pK P k0) (pD P k0 &&& (127 ^^^ s)) (pT P k0) (pW P k0)) k0))] (bf_MD (bf_u D2 39 k0 (nI (pD P k0 &&& (127 ^^^ s)))))
                  refine bf_bipush r.1 (v := nI 10) dX9_repair_84 rfl ?_
                  refine nc_ne r (tgt := 94) dX9_repair_86 (by decide) (Nat.lt_of_le_of_lt (bf_ct_le _ 10) (by decide)) (by decide) (fun c466 => ?_) (fun c466 => ?_)
                  · refine bf_iload_n r.1 dX9_repair_94 rfl ?_
                    refine bf_istore_n r.1 (L2 := [some (.ref 37), some (.int (nI k0)), some (.int (nI (pD P k0))), some (.int (nI b)), some (.int (nI s)), some (.int (nI 1))]) dX9_repair_95 rfl ?_
                    refine na_inc r (v := s + 1) (L2 := [some (.ref 37), some (.int (nI k0)), some (.int (nI (pD P k0))), some (.int (nI b)), some (.int (nI (s + 1))), some (.int (nI 1))]) dX9_repair_96 rfl (nI_add _ 1) rfl ?_
                    refine bf_goto r.1 (tgt := 23) dX9_repair_99 (by decide) ?_
                    refine bf_fgt r.1 (i := 5) (L2 := [some (.ref 37), some (.int (nI k0)), some (.int (nI (pD P k0))), some (.int (nI b)), some (.int (nI (s + 1))), none]) rfl ?_
                    have hi := ih (by omega) _ (fun a t q => (bf_un (a := 39) (j := k0) (v := nI (pD P k0 &&& (127 ^^^ s))) (by omega)).trans (hO a t q))
                    have e9 : pRp P k0 (s + 1) = some b := by simp only [pRp]; rw [if_pos c460, hb, if_pos (show bf_pc s < bf_rpc (some b) from c463), if_neg ((fun q => c466 ((pU_clr (bf_and_lt hD) hT).mpr q)))]
                    rw [e9] at hi
                    exact hi
                  · refine bf_iload r.1 dX9_repair_89 rfl ?_
                    refine bf_goto r.1 (tgt := 95) dX9_repair_91 (by decide) ?_
                    refine bf_istore_n r.1 (L2 := [some (.ref 37), some (.int (nI k0)), some (.int (nI (pD P k0))), some (.int (nI s)), some (.int (nI s)), some (.int (nI 1))]) dX9_repair_95 rfl ?_
                    refine na_inc r (v := s + 1) (L2 := [some (.ref 37), some (.int (nI k0)), some (.int (nI (pD P k0))), some (.int (nI s)), some (.int (nI (s + 1))), some (.int (nI 1))]) dX9_repair_96 rfl (nI_add _ 1) rfl ?_
                    refine bf_goto r.1 (tgt := 23) dX9_repair_99 (by decide) ?_
                    refine bf_fgt r.1 (i := 5) (L2 := [some (.ref 37), some (.int (nI k0)), some (.int (nI (pD P k0))), some (.int (nI s)), some (.int (nI (s + 1))), none]) rfl ?_
                    have hi := ih (by omega) _ (fun a t q => (bf_un (a := 39) (j := k0) (v := nI (pD P k0 &&& (127 ^^^ s))) (by omega)).trans (hO a t q))
                    have e9 : pRp P k0 (s + 1) = some s := by simp only [pRp]; rw [if_pos c460, hb, if_pos (show bf_pc s < bf_rpc (some b) from c463), if_pos ((pU_clr (bf_and_lt hD) hT).mp c466)]
                    rw [e9] at hi
                    exact hi
    exact lo 0 (Nat.zero_le _) D (fun _ _ _ => rfl)
  · have wk := rg_n c453
    refine bf_iconst r.1 (v := -1) dX9_repair_8 rfl ?_
    have ho : ox_repair P k = -1 := by simp only [ox_repair, wk, on_n, on_s]
    exact re_i r dX9_repair_9 rfl rfl ⟨by rw [ho], ma, fr_0⟩
