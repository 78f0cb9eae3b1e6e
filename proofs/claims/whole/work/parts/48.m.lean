/-! the order: all rows in their order -/
def cst (g : Nat → Nat → Nat) (p : List Nat) : Nat := bf_sm (fun x => g (p.getD x 0) (p.getD (x + 1) 0)) (p.length - 1)
def stO (g : Nat → Nat → Nat) (st : Nat × List Nat) (p : List Nat) : Nat × List Nat := if st.1 ≤ cst g p then st else (cst g p, p)
def lvK (E : List Nat → Nat → List (List Nat)) (pre : List Nat) (us : Nat) : Nat → List (List Nat)
  | 0 => []
  | k + 1 => lvK E pre us k ++ (if us / 2 ^ k &&& 1 = 0 then E (pre ++ [k]) (us ||| 1 * 2 ^ k) else [])
def lvs (n : Nat) : Nat → List Nat → Nat → List (List Nat)
  | 0, pre, _ => [pre]
  | f + 1, pre, us => lvK (lvs n f) pre us n
theorem cst_app {g : Nat → Nat → Nat} {pre : List Nat} {k : Nat} : cst g (pre ++ [k]) = cst g pre + bf_gp g pre k := by
  unfold cst bf_gp
  rw [List.length_append]
  show bf_sm _ (pre.length + 1 - 1) = _
  rw [Nat.add_sub_cancel]
  by_cases h : pre.length = 0
  · rw [if_pos h, h]; rfl
  · rw [if_neg h]
    obtain ⟨m, hm⟩ : ∃ m, pre.length = m + 1 := ⟨pre.length - 1, by omega⟩
    rw [hm, Nat.add_sub_cancel]
    simp only [bf_sm]
    have e1 : (pre ++ [k]).getD m 0 = pre.getD m 0 := bf_getD_l (by omega)
    have e2 : (pre ++ [k]).getD (m + 1) 0 = k := by rw [← hm]; exact bf_getD_r
    rw [e1, e2]
    congr 1
    refine bf_sm_c (fun x hx => ?_)
    rw [bf_getD_l (by omega), bf_getD_l (by omega)]
theorem lvs_ge {g : Nat → Nat → Nat} {n : Nat} : ∀ f pre us p, p ∈ lvs n f pre us → cst g pre ≤ cst g p := by
  intro f
  induction f with
  | zero => intro pre us p hp; rw [List.mem_singleton.mp hp]; exact Nat.le_refl _
  | succ f ih =>
    intro pre us p hp
    have key : ∀ k, p ∈ lvK (lvs n f) pre us k → cst g pre ≤ cst g p := by
      intro k
      induction k with
      | zero => intro h; exact absurd h List.not_mem_nil
      | succ k ihk =>
        intro h
        simp only [lvK] at h
        rcases List.mem_append.mp h with h | h
        · exact ihk h
        · split at h
          · have := ih _ _ _ h
            rw [cst_app] at this
            omega
          · exact absurd h List.not_mem_nil
    exact key n hp
theorem fold_fix {g : Nat → Nat → Nat} {st : Nat × List Nat} : ∀ l : List (List Nat), (∀ p ∈ l, st.1 ≤ cst g p) → l.foldl (stO g) st = st := by
  intro l
  induction l with
  | nil => intro _; rfl
  | cons p l ih =>
    intro h
    rw [List.foldl_cons, show stO g st p = st from if_pos (h p List.mem_cons_self)]
    exact ih (fun q hq => h q (List.mem_cons_of_mem _ hq))
theorem xE_fold {g : Nat → Nat → Nat} {n : Nat} : ∀ f pre us tg st, tg = cst g pre → xE g n f pre us tg st = (lvs n f pre us).foldl (stO g) st := by
  intro f
  induction f with
  | zero =>
    intro pre us tg st ht
    subst ht
    simp only [xE, lvs, List.foldl_cons, List.foldl_nil]
    rfl
  | succ f ih =>
    intro pre us tg st ht
    simp only [xE]
    by_cases h : st.1 ≤ tg
    · rw [if_pos h, fold_fix _ (fun p hp => Nat.le_trans h (by rw [ht]; exact lvs_ge _ _ _ _ hp))]
    · rw [if_neg h]
      have key : ∀ k, xK g (xE g n f) pre us tg k st = (lvK (lvs n f) pre us k).foldl (stO g) st := by
        intro k
        induction k with
        | zero => rfl
        | succ k ihk =>
          simp only [xK, lvK]
          rw [List.foldl_append, ← ihk]
          by_cases hb : us / 2 ^ k &&& 1 = 0
          · rw [if_pos hb, if_pos hb, ih _ _ _ _ (by rw [cst_app, ht])]
          · rw [if_neg hb, if_neg hb]; rfl
      exact key n
/-- the rows of n places in their order -/
def pms (n : Nat) : List (List Nat) := lvs n n [] 0
theorem xS_fold (g : Nat → Nat → Nat) (n : Nat) : xS g n = (pms n).foldl (stO g) (169, []) := xE_fold n [] 0 0 (169, []) rfl
theorem pms_ok : ∀ n : Fin 7, (pms n.1).all (fun p => decide (p.length = n.1) && p.all (fun x => decide (x < n.1))) = true ∧ pms n.1 ≠ [] := by decide +kernel
theorem pms_len {n : Nat} (hn : n ≤ 6) {p : List Nat} (hp : p ∈ pms n) : p.length = n ∧ ∀ x ∈ p, x < n := by
  have h := List.all_eq_true.mp (pms_ok ⟨n, by omega⟩).1 p hp
  rw [Bool.and_eq_true] at h
  exact ⟨of_decide_eq_true h.1, fun x hx => of_decide_eq_true (List.all_eq_true.mp h.2 x hx)⟩
theorem bf_getD_mem {l : List Nat} {j : Nat} (h : j < l.length) : l.getD j 0 ∈ l := by
  rw [List.getD_eq_getElem?_getD, List.getElem?_eq_getElem h]
  exact List.getElem_mem _
theorem cst_le {g : Nat → Nat → Nat} {n : Nat} (hn : n ≤ 6) (hg : ∀ a b, a < n → b < n → g a b ≤ 28) {p : List Nat} (hp : p ∈ pms n) : cst g p ≤ 140 := by
  obtain ⟨h1, h2⟩ := pms_len hn hp
  unfold cst
  have h := bf_sm_le (f := fun x => g (p.getD x 0) (p.getD (x + 1) 0)) (B := 28) (p.length - 1) (fun x hx => hg _ _ (h2 _ (bf_getD_mem (by omega))) (h2 _ (bf_getD_mem (by omega))))
  omega
theorem fold_mem {g : Nat → Nat → Nat} : ∀ (l : List (List Nat)) (st : Nat × List Nat), l.foldl (stO g) st = st ∨ ((l.foldl (stO g) st).2 ∈ l ∧ (l.foldl (stO g) st).1 = cst g (l.foldl (stO g) st).2) := by
  intro l
  induction l with
  | nil => intro st; exact Or.inl rfl
  | cons p l ih =>
    intro st
    rw [List.foldl_cons]
    rcases ih (stO g st p) with h | ⟨h1, h2⟩
    · rw [h]
      unfold stO
      by_cases c : st.1 ≤ cst g p
      · rw [if_pos c]; exact Or.inl rfl
      · rw [if_neg c]; exact Or.inr ⟨List.mem_cons_self, rfl⟩
    · exact Or.inr ⟨List.mem_cons_of_mem _ h1, h2⟩
theorem xS_len {g : Nat → Nat → Nat} {n : Nat} (hn : n ≤ 6) (hg : ∀ a b, a < n → b < n → g a b ≤ 28) : (xS g n).2.length = n ∧ (xS g n).1 ≤ 140 := by
  rw [xS_fold]
  have hne := (pms_ok ⟨n, by omega⟩).2
  have hne : pms n ≠ [] := hne
  have hcs := fun p hp => cst_le hn hg (p := p) hp
  have hln := fun p hp => pms_len hn (p := p) hp
  cases h : pms n with
  | nil => exact absurd h hne
  | cons p l =>
    rw [h] at hcs hln
    rw [List.foldl_cons]
    have e : stO g (169, []) p = (cst g p, p) := if_neg (by have := hcs p List.mem_cons_self; show ¬ 169 ≤ cst g p; omega)
    rw [e]
    rcases fold_mem (g := g) l (cst g p, p) with h2 | ⟨h2, h3⟩
    · rw [h2]; exact ⟨(hln p List.mem_cons_self).1, hcs p List.mem_cons_self⟩
    · rw [h3]; exact ⟨(hln _ (List.mem_cons_of_mem _ h2)).1, hcs _ (List.mem_cons_of_mem _ h2)⟩
theorem pF_28 {P : bf_Pn} (hv : vP P) (u v : Nat) : pF P u v ≤ 28 := by
  have h := bf_sm_le (f := fun k => bf_pc (pB P k (pG P u k) ^^^ pB P k (pG P v k))) (B := 7) (pN P) (fun k hk => by have := bf_pc7 (bf_xor_lt (pB_lt hv hk (pG P u k)) (pB_lt hv hk (pG P v k))); show bf_pc _ ≤ 7; omega)
  have := hv.1
  unfold pF
  omega
def gF (P : bf_Pn) (c : Nat → Int32) (a b : Nat) : Nat := pF P (bf_cn c a) (bf_cn c b)
def oAns (st : Nat × List Nat) (n : Nat) (wh : Int32) : Int32 := if wh = 0 then nI st.1 else if (wh - nI 10).toNatClampNeg < n then nI (st.2.getD (wh - nI 10).toNatClampNeg 0) else -9
theorem oq_n {wh : Int32} (h : bf_oq wh = true) (h0 : ¬ wh = 0) : ∃ j, j < 6 ∧ wh - nI 10 = nI j ∧ (wh - nI 10).toNatClampNeg = j := by
  unfold bf_oq at h
  rw [decide_eq_false h0, Bool.false_or, Bool.and_eq_true] at h
  have h1 := of_decide_eq_true h.1
  have h2 := of_decide_eq_true h.2
  obtain ⟨m, hm, rfl⟩ := nI_of (x := wh) (fun q => absurd (Int32.lt_of_lt_of_le q (show (0 : Int32) ≤ nI 10 by decide)) (Int32.not_lt.mpr h1))
  have h3 := (nI_leI (by decide) hm).mp h1
  have h4 := (nI_ltI hm (by decide)).mp h2
  refine ⟨m - 10, by omega, pk_sub h3, ?_⟩
  rw [pk_sub h3]
  exact nI_clamp (by omega)
def ox_order (P : bf_Pn) (S : bf_Sh) (Q : bf_Rd) (F : Nat) (T : Int32) (k l i n wh : Int32) : Int32 × bf_St := bf_on (bf_rg k 4) (-1, (P, S, Q, 0, T)) fun k => bf_on (bf_rg l 3) (-2, (P, S, Q, 0, T)) fun l => bf_on (bf_rg n 7) (-2, (P, S, Q, 0, T)) fun n => if bf_oq wh = true then (if pN P = 0 then (-3, (P, S, Q, 0, T)) else if bf_foc (sZ S k) (sL S k) (nI l) i (nI n) = 0 then (if bf_inR (cCl S k i.toNatClampNeg) (pX P) n = true then (oAns (xS (gF P (cCl S k i.toNatClampNeg)) n) n wh, (P, S, Q, 0, T)) else (-2, (P, S, Q, 0, T))) else (-10 - nI (bf_foc (sZ S k) (sL S k) (nI l) i (nI n)), (P, S, Q, bf_foc (sZ S k) (sL S k) (nI l) i (nI n), T))) else (-2, (P, S, Q, 0, T))
theorem e_X8_order {d : Nat} (hd : 10 ≤ d) {D : bf_D} {P : bf_Pn} {S : bf_Sh} {Q : bf_Rd} {F : Nat} {T : Int32} (va : vA (P, S, Q, F, T)) (ca : cA D (P, S, Q, F, T)) (k l i n wh : Int32) : bf_Ce d mX8_order [.ref 0, .int (k), .int (l), .int (i), .int (n), .int (wh)] D (fun r D' => r = some (.int (ox_order P S Q F T k l i n wh).1) ∧ cA D' (ox_order P S Q F T k l i n wh).2 ∧ bf_fr 0 37 D D') := by
  refine bf_Ce_of 9 hd mo_X8_order (Nat.le_of_ble_eq_true rfl) (fun e he J r => ?_)
  show J 0 [some (.ref 0), some (.int (k)), some (.int (l)), some (.int (i)), some (.int (n)), some (.int (wh)), none, none] [] (bf_MD D)
  obtain ⟨hv, vs, vr, hF⟩ := id va
  obtain ⟨hc, cs, cr, c5, c6⟩ := id ca
  have hn4 := hv.1
  have hx4 := pX_le hv
  have hx0 := pX_pos P
  refine bf_aload_n r.1 dX8_order_0 rfl ?_
  refine bf_iconst r.1 (v := nI 0) dX8_order_1 rfl ?_
  refine ip_int r dX8_order_2 fp_X8_46 rfl (by decide) rfl ?_
  replace ca := cA_5 hn4 0 ca
  obtain ⟨hc, cs, cr, c5, c6⟩ := id ca
  refine bf_iload_n r.1 dX8_order_5 rfl ?_
  refine bf_iconst r.1 (v := nI 4) dX8_order_6 rfl ?_
  refine cl_s r (y2 := mX8_isWithin) dX8_order_7 li_X8_50 mv_X8_isWithin [.int (k), .int (nI 4)] [] rfl (Nat.le_of_ble_eq_true rfl) rfl (c_X8_isWithin (by omega) (bf_u D 0 5 (nI 0)) _ _) ?_
  show J 10 [some (.ref 0), some (.int (k)), some (.int (l)), some (.int (i)), some (.int (n)), some (.int (wh)), none, none] [.int (if 0 ≤ k ∧ k < nI 4 then 1 else 0)] (bf_MD (bf_u D 0 5 (nI 0)))
  refine nb_ne r (tgt := 15) dX8_order_10 (by decide) (fun c718 => ?_) (fun c718 => ?_)
  · obtain ⟨k0, hk0, rfl⟩ := rg_in (by decide) c718
    have wk := rg_s hk0 (by decide)
    refine bf_iload_n r.1 dX8_order_15 rfl ?_
    refine bf_iconst r.1 (v := nI 3) dX8_order_16 rfl ?_
    refine cl_s r (y2 := mX8_isWithin) dX8_order_17 li_X8_50 mv_X8_isWithin [.int (l), .int (nI 3)] [] rfl (Nat.le_of_ble_eq_true rfl) rfl (c_X8_isWithin (by omega) (bf_u D 0 5 (nI 0)) _ _) ?_
    show J 20 [some (.ref 0), some (.int (nI k0)), some (.int (l)), some (.int (i)), some (.int (n)), some (.int (wh)), none, none] [.int (if 0 ≤ l ∧ l < nI 3 then 1 else 0)] (bf_MD (bf_u D 0 5 (nI 0)))
    refine nb_eq r (tgt := 41) dX8_order_20 (by decide) (fun c719 => ?_) (fun c719 => ?_)
    · have wl := rg_n c719
      refine bf_bipush r.1 (v := -2) dX8_order_41 rfl ?_
      have ho : ox_order P S Q F T (nI k0) l i n wh = (-2, (P, S, Q, 0, T)) := by simp only [ox_order, wk, wl, on_n, on_s, oAns]
      exact re_i r dX8_order_43 rfl rfl ⟨by rw [ho], by rw [ho]; exact ca, (fr_u fr_0 (by decide) (by decide))⟩
    · obtain ⟨l0, hl0, rfl⟩ := rg_in (by decide) c719
      have wl := rg_s hl0 (by decide)
      refine bf_iload r.1 dX8_order_23 rfl ?_
      refine bf_bipush r.1 (v := nI 7) dX8_order_25 rfl ?_
      refine cl_s r (y2 := mX8_isWithin) dX8_order_27 li_X8_50 mv_X8_isWithin [.int (n), .int (nI 7)] [] rfl (Nat.le_of_ble_eq_true rfl) rfl (c_X8_isWithin (by omega) (bf_u D 0 5 (nI 0)) _ _) ?_
      show J 30 [some (.ref 0), some (.int (nI k0)), some (.int (nI l0)), some (.int (i)), some (.int (n)), some (.int (wh)), none, none] [.int (if 0 ≤ n ∧ n < nI 7 then 1 else 0)] (bf_MD (bf_u D 0 5 (nI 0)))
      refine nb_eq r (tgt := 41) dX8_order_30 (by decide) (fun c720 => ?_) (fun c720 => ?_)
      · have wn := rg_n c720
        refine bf_bipush r.1 (v := -2) dX8_order_41 rfl ?_
        have ho : ox_order P S Q F T (nI k0) (nI l0) i n wh = (-2, (P, S, Q, 0, T)) := by simp only [ox_order, wk, wl, wn, on_n, on_s, oAns]
        exact re_i r dX8_order_43 rfl rfl ⟨by rw [ho], by rw [ho]; exact ca, (fr_u fr_0 (by decide) (by decide))⟩
      · obtain ⟨n0, hn0, rfl⟩ := rg_in (by decide) c720
        have wn := rg_s hn0 (by decide)
        refine bf_iload r.1 dX8_order_33 rfl ?_
        refine cl_s r (y2 := mX8_isOrderQuestion) dX8_order_35 li_X8_175 mv_X8_isOrderQuestion [.int (wh)] [] rfl (Nat.le_of_ble_eq_true rfl) rfl (c_X8_isOrderQuestion (by omega) (bf_u D 0 5 (nI 0)) _) ?_
        show J 38 [some (.ref 0), some (.int (nI k0)), some (.int (nI l0)), some (.int (i)), some (.int (nI n0)), some (.int (wh)), none, none] [.int (if bf_oq wh = true then 1 else 0)] (bf_MD (bf_u D 0 5 (nI 0)))
        refine nb_ne r (tgt := 44) dX8_order_38 (by decide) (fun c721 => ?_) (fun c721 => ?_)
        · refine bf_aload_n r.1 dX8_order_44 rfl ?_
          refine ig_ref r (b := 2) dX8_order_45 fl_X8_20 rfl (by decide) rfl ?_
          refine cl_v r (y2 := mX2_isNone) dX8_order_48 li_X8_122 mv_X2_isNone rfl (by decide) [] [] rfl (Nat.le_of_ble_eq_true rfl) rfl (c_X2_isNone (by omega) hv hc) ?_
          show J 51 [some (.ref 0), some (.int (nI k0)), some (.int (nI l0)), some (.int (i)), some (.int (nI n0)), some (.int (wh)), none, none] [.int (if pN P = 0 then 1 else 0)] (bf_MD (bf_u D 0 5 (nI 0)))
          refine nb_eq r (tgt := 57) dX8_order_51 (by decide) (fun c722 => ?_) (fun c722 => ?_)
          · have h1n : 1 ≤ pN P := by omega
            refine bf_aload_n r.1 dX8_order_57 rfl ?_
            refine ig_ref r (b := 1) dX8_order_58 fl_X8_13 rfl (by decide) rfl ?_
            refine bf_iload_n r.1 dX8_order_61 rfl ?_
            refine aa_ld r (n := 4) (b := 29 + 2 * k0) dX8_order_62 (by decide) rfl (by decide) hk0 (ad_a1 hk0) ?_
            refine bf_astore r.1 (L2 := [some (.ref 0), some (.int (nI k0)), some (.int (nI l0)), some (.int (i)), some (.int (nI n0)), some (.int (wh)), some (.ref (29 + 2 * k0)), none]) dX8_order_63 rfl ?_
            refine bf_aload r.1 dX8_order_65 rfl ?_
            refine bf_iload_n r.1 dX8_order_67 rfl ?_
            refine bf_iload_n r.1 dX8_order_68 rfl ?_
            refine bf_iload r.1 dX8_order_69 rfl ?_
            refine cl_v r (y2 := mX5_faultOfCells) dX8_order_71 li_X8_54 mv_X5_faultOfCells (ad_c29 hk0) (ad_l29 hk0) [.int (nI l0), .int (i), .int (nI n0)] [] rfl (Nat.le_of_ble_eq_true rfl) rfl (c_X5_faultOfCells (by omega) vs cs hk0 (nI l0) i (nI n0)) ?_
            show J 74 [some (.ref 0), some (.int (nI k0)), some (.int (nI l0)), some (.int (i)), some (.int (nI n0)), some (.int (wh)), some (.ref (29 + 2 * k0)), none] [.int (nI (bf_foc (sZ S k0) (sL S k0) (nI l0) i (nI n0)))] (bf_MD (bf_u D 0 5 (nI 0)))
            refine bf_istore r.1 (L2 := [some (.ref 0), some (.int (nI k0)), some (.int (nI l0)), some (.int (i)), some (.int (nI n0)), some (.int (wh)), some (.ref (29 + 2 * k0)), some (.int (nI (bf_foc (sZ S k0) (sL S k0) (nI l0) i (nI n0))))]) dX8_order_74 rfl ?_
            refine bf_iload r.1 dX8_order_76 rfl ?_
            refine nz_eq r (tgt := 88) dX8_order_78 (by decide) (by have := bf_foc_le (sZ S k0) (sL S k0) (nI l0) i (nI n0); omega) (fun c723 => ?_) (fun c723 => ?_)
            · obtain ⟨z, hz, _, q0, _, q2⟩ := bf_foc_0 c723
              have z60 := (vs k0 hk0).2 z hz
              obtain ⟨i0, hi31, hi⟩ := nI_of (x := i) (Int32.not_lt.mpr ((bf_le0 i).mpr q0))
              have ci : i.toNatClampNeg = i0 := (bf_cl_eq hi hi31).1
              have ti : i.toInt = i0 := by rw [hi]; exact nI_toInt hi31
              rw [nI_toInt (by omega)] at q2
              have q3 : i0 + n0 ≤ z := by omega
              refine bf_aload_n r.1 dX8_order_88 rfl ?_
              refine ig_ref r (b := 24) dX8_order_89 fl_X8_41 rfl (by decide) rfl ?_
              refine bf_aload_n r.1 dX8_order_92 rfl ?_
              refine ig_ref r (b := 2) dX8_order_93 fl_X8_20 rfl (by decide) rfl ?_
              refine bf_aload r.1 dX8_order_96 rfl ?_
              refine bf_iload_n r.1 dX8_order_98 rfl ?_
              refine eq_i (v := nI i0) hi ?_
              refine bf_iload r.1 dX8_order_99 rfl ?_
              refine ce_v r (y2 := mX1_fill) dX8_order_101 li_X8_178 mv_X1_fill rfl (by decide) [.ref 2, .ref (29 + 2 * k0), .int (nI i0), .int (nI n0)] [] rfl (Nat.le_of_ble_eq_true rfl) rfl (e_X1_fillB (by omega) hv hc vs cs hk0 hz (by omega) q3) (fun res D724 hq724 => ?_)
              obtain ⟨rfl, hw724, hf724⟩ := hq724
              show J 104 [some (.ref 0), some (.int (nI k0)), some (.int (nI l0)), some (.int (i)), some (.int (nI n0)), some (.int (wh)), some (.ref (29 + 2 * k0)), some (.int (nI (bf_foc (sZ S k0) (sL S k0) (nI l0) i (nI n0))))] [.int (if bf_inR (cCl S k0 i0) (pX P) n0 = true then 1 else 0)] (bf_MD D724)
              replace ca := cA_x hn4 ca hf724
              obtain ⟨hc, cs, cr, c5, c6⟩ := id ca
              refine nb_ne r (tgt := 110) dX8_order_104 (by decide) (fun c725 => ?_) (fun c725 => ?_)
              · have hW := hw724 c725
                have hxl := xS_len (g := (gF P (cCl S k0 i0))) (n := n0) (by omega) (fun a b _ _ => pF_28 hv _ _)
                refine bf_aload_n r.1 dX8_order_110 rfl ?_
                refine ig_ref r (b := 24) dX8_order_111 fl_X8_41 rfl (by decide) rfl ?_
                refine ce_v r (y2 := mX1_search) dX8_order_114 li_X8_179 mv_X1_search rfl (by decide) [] [] rfl (Nat.le_of_ble_eq_true rfl) rfl (e_X1_search (by omega) (g := (gF P (cCl S k0 i0))) (n := n0) (by omega) (fun a b _ _ => Nat.le_trans (pF_28 hv _ _) (by decide)) hW.1 hW.2) (fun res D726 hq726 => ?_)
                obtain ⟨rfl, h5726, hb726, h4726, hf726⟩ := hq726
                show J 117 [some (.ref 0), some (.int (nI k0)), some (.int (nI l0)), some (.int (i)), some (.int (nI n0)), some (.int (wh)), some (.ref (29 + 2 * k0)), some (.int (nI (bf_foc (sZ S k0) (sL S k0) (nI l0) i (nI n0))))] [] (bf_MD D726)
                replace ca := cA_x hn4 ca (fr_w hf726 (by decide) (by decide))
                obtain ⟨hc, cs, cr, c5, c6⟩ := id ca
                refine bf_iload r.1 dX8_order_117 rfl ?_
                refine bf_if_ne r.1 (tgt := 132) dX8_order_119 (by decide) (fun c727 => ?_) (fun c727 => ?_)
                · refine bf_aload_n r.1 dX8_order_132 rfl ?_
                  refine ig_ref r (b := 24) dX8_order_133 fl_X8_41 rfl (by decide) rfl ?_
                  refine bf_iload r.1 dX8_order_136 rfl ?_
                  refine bf_bipush r.1 (v := nI 10) dX8_order_138 rfl ?_
                  refine bf_isub r.1 dX8_order_140 ?_
                  obtain ⟨j0, hj6, ej, cj⟩ := oq_n c721 c727
                  refine eq_i (v := nI j0) ej ?_
                  by_cases hjn : j0 < n0
                  · refine cl_v r (y2 := mX1_placeOf) dX8_order_141 li_X8_185 mv_X1_placeOf rfl (by decide) [.int (nI j0)] [] rfl (Nat.le_of_ble_eq_true rfl) rfl (c_X1_placeOfN (by omega) (by omega) h4726 hjn (hb726 hxl.1 _ hjn)) ?_
                    show J 144 [some (.ref 0), some (.int (nI k0)), some (.int (nI l0)), some (.int (i)), some (.int (nI n0)), some (.int (wh)), some (.ref (29 + 2 * k0)), some (.int (nI (bf_foc (sZ S k0) (sL S k0) (nI l0) i (nI n0))))] [.int (nI ((xS (gF P (cCl S k0 i0)) n0).2.getD j0 0))] (bf_MD D726)
                    have ho : ox_order P S Q F T (nI k0) (nI l0) i (nI n0) wh = (nI ((xS (gF P (cCl S k0 i0)) n0).2.getD j0 0), (P, S, Q, 0, T)) := by simp only [ox_order, wk, wl, wn, if_pos c721, if_neg c722, if_pos c723, ci, if_pos c725, if_neg c727, cj, if_pos hjn, on_n, on_s, oAns]
                    exact re_i r dX8_order_144 rfl rfl ⟨by rw [ho], by rw [ho]; exact ca, (fr_t (fr_t (fr_u fr_0 (by decide) (by decide)) (fr_w hf724 (by decide) (by decide))) (fr_w hf726 (by decide) (by decide)))⟩
                  · refine cl_v r (y2 := mX1_placeOf) dX8_order_141 li_X8_185 mv_X1_placeOf rfl (by decide) [.int (nI j0)] [] rfl (Nat.le_of_ble_eq_true rfl) rfl (c_X1_placeOfO (by omega) (by omega) h4726 (Nat.not_lt.mp hjn) (by omega)) ?_
                    show J 144 [some (.ref 0), some (.int (nI k0)), some (.int (nI l0)), some (.int (i)), some (.int (nI n0)), some (.int (wh)), some (.ref (29 + 2 * k0)), some (.int (nI (bf_foc (sZ S k0) (sL S k0) (nI l0) i (nI n0))))] [.int (-9)] (bf_MD D726)
                    have ho : ox_order P S Q F T (nI k0) (nI l0) i (nI n0) wh = (-9, (P, S, Q, 0, T)) := by simp only [ox_order, wk, wl, wn, if_pos c721, if_neg c722, if_pos c723, ci, if_pos c725, if_neg c727, cj, if_neg hjn, on_n, on_s, oAns]
                    exact re_i r dX8_order_144 rfl rfl ⟨by rw [ho], by rw [ho]; exact ca, (fr_t (fr_t (fr_u fr_0 (by decide) (by decide)) (fr_w hf724 (by decide) (by decide))) (fr_w hf726 (by decide) (by decide)))⟩
                · refine bf_aload_n r.1 dX8_order_122 rfl ?_
                  refine ig_ref r (b := 24) dX8_order_123 fl_X8_41 rfl (by decide) rfl ?_
                  refine cl_v r (y2 := mX1_fewest) dX8_order_126 li_X8_182 mv_X1_fewest rfl (by decide) [] [] rfl (Nat.le_of_ble_eq_true rfl) rfl (c_X1_fewest (by omega) h5726) ?_
                  show J 129 [some (.ref 0), some (.int (nI k0)), some (.int (nI l0)), some (.int (i)), some (.int (nI n0)), some (.int (wh)), some (.ref (29 + 2 * k0)), some (.int (nI (bf_foc (sZ S k0) (sL S k0) (nI l0) i (nI n0))))] [.int (nI ((xS (gF P (cCl S k0 i0)) n0).1))] (bf_MD D726)
                  refine bf_goto r.1 (tgt := 144) dX8_order_129 (by decide) ?_
                  have ho : ox_order P S Q F T (nI k0) (nI l0) i (nI n0) wh = (nI ((xS (gF P (cCl S k0 i0)) n0).1), (P, S, Q, 0, T)) := by simp only [ox_order, wk, wl, wn, if_pos c721, if_neg c722, if_pos c723, ci, if_pos c725, if_pos c727, on_n, on_s, oAns]
                  exact re_i r dX8_order_144 rfl rfl ⟨by rw [ho], by rw [ho]; exact ca, (fr_t (fr_t (fr_u fr_0 (by decide) (by decide)) (fr_w hf724 (by decide) (by decide))) (fr_w hf726 (by decide) (by decide)))⟩
              · refine bf_bipush r.1 (v := -2) dX8_order_107 rfl ?_
                have ho : ox_order P S Q F T (nI k0) (nI l0) i (nI n0) wh = (-2, (P, S, Q, 0, T)) := by simp only [ox_order, wk, wl, wn, if_pos c721, if_neg c722, if_pos c723, ci, if_neg c725, on_n, on_s, oAns]
                exact re_i r dX8_order_109 rfl rfl ⟨by rw [ho], by rw [ho]; exact ca, (fr_t (fr_u fr_0 (by decide) (by decide)) (fr_w hf724 (by decide) (by decide)))⟩
            · refine bf_aload_n r.1 dX8_order_81 rfl ?_
              refine bf_iload r.1 dX8_order_82 rfl ?_
              refine cl_v r (y2 := mX8_faulted) dX8_order_84 li_X8_58 mv_X8_faulted rfl (by decide) [.int (nI (bf_foc (sZ S k0) (sL S k0) (nI l0) i (nI n0)))] [] rfl (Nat.le_of_ble_eq_true rfl) rfl (c_X8_faulted (by omega) (bf_u D 0 5 (nI 0)) _) ?_
              show J 87 [some (.ref 0), some (.int (nI k0)), some (.int (nI l0)), some (.int (i)), some (.int (nI n0)), some (.int (wh)), some (.ref (29 + 2 * k0)), some (.int (nI (bf_foc (sZ S k0) (sL S k0) (nI l0) i (nI n0))))] [.int (-10 - nI (bf_foc (sZ S k0) (sL S k0) (nI l0) i (nI n0)))] (bf_MD (bf_u (bf_u D 0 5 (nI 0)) 0 5 (nI (bf_foc (sZ S k0) (sL S k0) (nI l0) i (nI n0)))))
              have ho : ox_order P S Q F T (nI k0) (nI l0) i (nI n0) wh = (-10 - nI (bf_foc (sZ S k0) (sL S k0) (nI l0) i (nI n0)), (P, S, Q, (bf_foc (sZ S k0) (sL S k0) (nI l0) i (nI n0)), T)) := by simp only [ox_order, wk, wl, wn, if_pos c721, if_neg c722, if_neg c723, on_n, on_s]
              exact re_i r dX8_order_87 rfl rfl ⟨by rw [ho], by rw [ho]; exact (cA_5 hn4 (bf_foc (sZ S k0) (sL S k0) (nI l0) i (nI n0)) ca), (fr_u (fr_u fr_0 (by decide) (by decide)) (by decide) (by decide))⟩
          · refine bf_bipush r.1 (v := -3) dX8_order_54 rfl ?_
            have ho : ox_order P S Q F T (nI k0) (nI l0) i (nI n0) wh = (-3, (P, S, Q, 0, T)) := by simp only [ox_order, wk, wl, wn, if_pos c721, if_pos c722, on_n, on_s, oAns]
            exact re_i r dX8_order_56 rfl rfl ⟨by rw [ho], by rw [ho]; exact ca, (fr_u fr_0 (by decide) (by decide))⟩
        · refine bf_bipush r.1 (v := -2) dX8_order_41 rfl ?_
          have ho : ox_order P S Q F T (nI k0) (nI l0) i (nI n0) wh = (-2, (P, S, Q, 0, T)) := by simp only [ox_order, wk, wl, wn, if_neg c721, on_n, on_s, oAns]
          exact re_i r dX8_order_43 rfl rfl ⟨by rw [ho], by rw [ho]; exact ca, (fr_u fr_0 (by decide) (by decide))⟩
  · have wk := rg_n c718
    refine bf_iconst r.1 (v := -1) dX8_order_13 rfl ?_
    have ho : ox_order P S Q F T k l i n wh = (-1, (P, S, Q, 0, T)) := by simp only [ox_order, wk, on_n, on_s, oAns]
    exact re_i r dX8_order_14 rfl rfl ⟨by rw [ho], by rw [ho]; exact ca, (fr_u fr_0 (by decide) (by decide))⟩
