/-! questions and commands with loops -/
theorem bf_pc_10 (x : Nat) : bf_pc x ≤ 10 := by
  have h : ∀ f x, bf_pcF f x ≤ f := by
    intro f
    induction f with
    | zero => intro x; simp [bf_pcF]
    | succ f ih => intro x; simp only [bf_pcF]; have := ih (x / 2); omega
  exact h 10 x
theorem pFs_le (P : bf_Pn) : ∀ i u, pFs P i u ≤ 10 * i := by
  intro i
  induction i with
  | zero => intro u; simp [pFs]
  | succ i ih =>
    intro u
    simp only [pFs]
    have h1 := bf_pc_10 (pB P i (u % 10) ^^^ pB P i (bf_nx (u % 10)))
    have h2 := ih (u / 10)
    split <;> omega
def bf_mx (f : Nat → Nat) : Nat → Nat
  | 0 => 0
  | n + 1 => if bf_mx f n < f n then f n else bf_mx f n
theorem bf_mx_le {f : Nat → Nat} {m : Nat} (h : ∀ i, f i ≤ m) : ∀ n, bf_mx f n ≤ m := by
  intro n
  induction n with
  | zero => simp [bf_mx]
  | succ n ih =>
    simp only [bf_mx]
    split
    · exact h n
    · exact ih
theorem bf_mx_I {f : Nat → Nat} {n : Nat} (h1 : bf_mx f n < 2 ^ 31) (h2 : f n < 2 ^ 31) : (if nI (bf_mx f n) < nI (f n) then nI (f n) else nI (bf_mx f n)) = nI (bf_mx f (n + 1)) := by
  simp only [bf_mx]
  by_cases h : bf_mx f n < f n
  · rw [if_pos h, if_pos ((nI_ltI h1 h2).mpr h)]
  · rw [if_neg h, if_neg (fun q => h ((nI_ltI h1 h2).mp q))]
def bf_aa (p : Nat → Bool) : Nat → Nat
  | 0 => 127
  | n + 1 => if p n = true then bf_aa p n &&& n else bf_aa p n
def bf_oo (p : Nat → Bool) : Nat → Nat
  | 0 => 0
  | n + 1 => if p n = true then bf_oo p n ||| n else bf_oo p n
theorem bf_ct_le' (p : Nat → Bool) : ∀ n, bf_ct p n ≤ n := by
  intro n
  induction n with
  | zero => simp [bf_ct]
  | succ n ih => simp only [bf_ct]; split <;> omega
def pKd (P : bf_Pn) (Q : bf_Rd) (k : Nat) : Nat := bf_bm (fun q => pSo (pSet P k q (pD P k) (pT P k) (pW P k)) Q) 3
def ox_kinds (P : bf_Pn) (Q : bf_Rd) (k : Int32) : Int32 := bf_on (bf_rg k (pN P)) (-1) fun k => nI (pKd P Q k)
def pDs (P : bf_Pn) (Q : bf_Rd) (k s : Nat) : Bool := pSo (pSet P k (pK P k) s (pT P k) (pW P k)) Q
def ox_deads (P : bf_Pn) (Q : bf_Rd) (k wh : Int32) : Int32 := bf_on (bf_rg k (pN P)) (-1) fun k => bf_on (bf_rg wh 4) (-2) fun wh => if wh = 0 then nI (bf_ct (pDs P Q k) 128) else if bf_ct (pDs P Q k) 128 = 0 then -9 else if nI (wh - 1) = 0 then nI (bf_aa (pDs P Q k) 128) else if nI (wh - 1) = nI 1 then nI (bf_oo (pDs P Q k) 128) else bf_le (pDs P Q k) 128
def pFt (P : bf_Pn) (u t : Nat) : Nat := pFs P (pN P) (u + t)
def ox_counting (P : bf_Pn) (u v wh : Int32) : Int32 := if pN P = 0 then -3 else bf_on (bf_rg u (pX P)) (-2) fun u => bf_on (bf_rg v (pX P)) (-2) fun v => if v < u then -2 else bf_on (bf_rg wh 3) (-2) fun wh => if nI wh = 0 then nI (bf_ct (fun t => decide (pFt P u t = 0)) (v - u)) else if nI wh = nI 1 then nI (bf_sm (pFt P u) (v - u)) else nI (bf_mx (pFt P u) (v - u))
def gP (P : bf_Pn) : Nat → bf_Pn
  | 0 => P
  | j + 1 => pMs (gP P j)
def gC (P : bf_Pn) : Nat → Nat
  | 0 => 0
  | j + 1 => gC P j + pMc (gP P j)
theorem pMk_v : ∀ i u (P : bf_Pn), i ≤ pN P → vP P → vP (pMkP i u P) ∧ pN (pMkP i u P) = pN P := by
  intro i
  induction i with
  | zero => intro u P _ h; exact ⟨h, rfl⟩
  | succ i ih =>
    intro u P hi h
    have h1 : vP (pWr P i (pB P i (u % 10) ^^^ pB P i (bf_nx (u % 10)))) := vP_wr h (by omega)
    simp only [pMkP]
    split
    · exact ih _ _ (show i ≤ pN P by omega) h1
    · exact ⟨h1, rfl⟩
theorem pMs_v {P : bf_Pn} (h : vP P) : vP (pMs P) ∧ pN (pMs P) = pN P := by
  have h1 := pMk_v (pN P) (pS P) P (Nat.le_refl _) h
  have e : pX (pMkP (pN P) (pS P) P) = pX P := by unfold pX; rw [h1.2]
  have h2 : pNx P (pS P) < pX (pMkP (pN P) (pS P) P) := by rw [e]; exact pNx_lt P _
  exact ⟨⟨h1.1.1, h1.1.2.1, h1.1.2.2.1, h2, h1.1.2.2.2.2⟩, h1.2⟩
theorem gP_v {P : bf_Pn} (h : vP P) : ∀ j, vP (gP P j) ∧ pN (gP P j) = pN P := by
  intro j
  induction j with
  | zero => exact ⟨h, rfl⟩
  | succ j ih => have h1 := pMs_v ih.1; exact ⟨h1.1, h1.2.trans ih.2⟩
def bf_r1 (n : Int32) : Option Nat := if nI 1 ≤ n ∧ n ≤ nI 500 then some n.toNatClampNeg else none
theorem r1_l {n : Int32} (h : n < nI 1) : bf_r1 n = none := if_neg (fun q => Int32.not_lt.mpr q.1 h)
theorem r1_h {n : Int32} (h : ¬ n ≤ nI 500) : bf_r1 n = none := if_neg (fun q => h q.2)
theorem r1_i {n : Int32} (h1 : ¬ n < nI 1) (h2 : n ≤ nI 500) : ∃ j, 1 ≤ j ∧ j ≤ 500 ∧ n = nI j ∧ bf_r1 (nI j) = some j := by
  have h3 := Int32.not_lt.mp h1
  obtain ⟨j, hj, rfl⟩ := nI_of (x := n) (fun q => h1 (Int32.lt_of_lt_of_le q (by decide)))
  refine ⟨j, (nI_leI (by decide) hj).mp h3, (nI_leI hj (by decide)).mp h2, rfl, ?_⟩
  unfold bf_r1
  rw [if_pos ⟨h3, h2⟩, (bf_cl_eq rfl hj).1]
def ox_go (P : bf_Pn) (S : bf_Sh) (Q : bf_Rd) (F : Nat) (T : Int32) (n : Int32) : Int32 × bf_St := if pN P = 0 then (-3, (P, S, Q, F, T)) else bf_on (bf_r1 n) (-2, (P, S, Q, F, T)) fun n => (nI (gC P n), (gP P n, S, Q, F, T))
theorem pSd_b {P : bf_Pn} {k b : Nat} : ∀ f st ww u s, pSd P k b f st ww u = some s → st ≤ s ∧ s < st + f := by
  intro f
  induction f with
  | zero => intro st ww u s h; simp [pSd] at h
  | succ f ih =>
    intro st ww u s h
    simp only [pSd] at h
    split at h
    · cases h; omega
    · have := ih _ _ _ _ h; omega
theorem pDy_b {P : bf_Pn} {k b lim s : Nat} (h : pDy P k b lim = some s) : 1 ≤ s ∧ s ≤ lim := by
  unfold pDy at h
  split at h
  · have := pSd_b _ _ _ _ _ h; omega
  · cases h
def fsS (P : bf_Pn) (k b : Nat) (q : Int32 × Int32 × Int32 × Nat) : Int32 × Int32 × Int32 × Nat := bf_on (pDy P k b q.2.2.2) q (fun s => (nI k, nI b, nI s, s - 1))
def fsI (P : bf_Pn) (k : Nat) (q : Int32 × Int32 × Int32 × Nat) : Nat → Int32 × Int32 × Int32 × Nat
  | 0 => q
  | b + 1 => fsS P k b (fsI P k q b)
def fsO (P : bf_Pn) : Nat → Int32 × Int32 × Int32 × Nat
  | 0 => (-9, -9, -9, 1000)
  | k + 1 => fsI P k (fsO P k) 7
theorem fsS_le {P : bf_Pn} {k b : Nat} {q : Int32 × Int32 × Int32 × Nat} (h : q.2.2.2 ≤ 1000) : (fsS P k b q).2.2.2 ≤ 1000 := by
  unfold fsS
  cases e : pDy P k b q.2.2.2 with
  | none => rw [on_n]; exact h
  | some s => rw [on_s]; have := pDy_b e; show s - 1 ≤ 1000; omega
theorem fsI_le {P : bf_Pn} {k : Nat} {q : Int32 × Int32 × Int32 × Nat} (h : q.2.2.2 ≤ 1000) : ∀ b, (fsI P k q b).2.2.2 ≤ 1000 := by
  intro b
  induction b with
  | zero => exact h
  | succ b ih => exact fsS_le ih
theorem fsO_le {P : bf_Pn} : ∀ k, (fsO P k).2.2.2 ≤ 1000 := by
  intro k
  induction k with
  | zero => exact Nat.le_refl _
  | succ k ih => exact fsI_le ih 7
def ox_first (P : bf_Pn) (wh : Int32) : Int32 := bf_on (bf_rg wh 3) (-2) fun wh => if pN P = 0 then -3 else if nI wh = 0 then (fsO P (pN P)).1 else if nI wh = nI 1 then (fsO P (pN P)).2.1 else (fsO P (pN P)).2.2.1
theorem bf_nm9 {n : Nat} (h : n < 2 ^ 31) : ¬ nI n = -9 := by
  intro e
  have h1 := nI_toInt h
  rw [e] at h1
  have : (-9 : Int32).toInt = -9 := by decide
  omega
theorem c_X8_kinds {d : Nat} (hd : 7 ≤ d) {D : bf_D} {P : bf_Pn} (hv : vP P) (hc : cP D P) {Q : bf_Rd} (cr : cR D Q) (vr : vR Q P) (k : Int32) : bf_Cf d mX8_kinds [.ref 0, .int (k)] D (some (.int (ox_kinds P Q k))) D := by
  refine bf_Cf_of 6 hd mo_X8_kinds (Nat.le_of_ble_eq_true rfl) (fun e he J r => ?_)
  show J 0 [some (.ref 0), some (.int (k)), none, none, none] [] (bf_MD D)
  have hn4 := hv.1
  have hx4 := pX_le hv
  have hx0 := pX_pos P
  refine bf_aload_n r.1 dX8_kinds_0 rfl ?_
  refine bf_iload_n r.1 dX8_kinds_1 rfl ?_
  refine cl_v r (y2 := mX8_isPlace) dX8_kinds_2 li_X8_76 mv_X8_isPlace rfl (by decide) [.int (k)] [] rfl (Nat.le_of_ble_eq_true rfl) rfl (c_X8_isPlace (by omega) hv hc _) ?_
  show J 5 [some (.ref 0), some (.int (k)), none, none, none] [.int (if 0 ≤ k ∧ k < nI (pN P) then 1 else 0)] (bf_MD D)
  refine nb_ne r (tgt := 10) dX8_kinds_5 (by decide) (fun c240 => ?_) (fun c240 => ?_)
  · obtain ⟨k0, hk0, rfl⟩ := rg_in (by omega) c240
    have wk := rg_s hk0 (by omega)
    refine bf_aload_n r.1 dX8_kinds_10 rfl ?_
    refine ig_ref r (b := 2) dX8_kinds_11 fl_X8_20 rfl (by decide) rfl ?_
    refine ig_ref r (b := 3) dX8_kinds_14 fl_X8_80 rfl (by decide) rfl ?_
    refine bf_iload_n r.1 dX8_kinds_17 rfl ?_
    refine aa_ld r (n := 4) (b := 6 + 3 * k0) dX8_kinds_18 (by decide) rfl (by decide) (Nat.lt_of_lt_of_le hk0 hn4) (ad_a3 (Nat.lt_of_lt_of_le hk0 hn4)) ?_
    refine ig_int r (v := nI (pD P k0)) dX8_kinds_19 fl_X8_89 (ad_c6 (Nat.lt_of_lt_of_le hk0 hn4)) (ad_l6 (Nat.lt_of_lt_of_le hk0 hn4)) (ad_i6 (Nat.lt_of_lt_of_le hk0 hn4) 4 (by decide)) (cP_d (P := P) hc hk0) ?_
    refine bf_istore_n r.1 (L2 := [some (.ref 0), some (.int (nI k0)), some (.int (nI (pD P k0))), none, none]) dX8_kinds_22 rfl ?_
    refine bf_iconst r.1 (v := nI 0) dX8_kinds_23 rfl ?_
    refine bf_istore_n r.1 (L2 := [some (.ref 0), some (.int (nI k0)), some (.int (nI (pD P k0))), some (.int (nI 0)), none]) dX8_kinds_24 rfl ?_
    refine bf_iconst r.1 (v := nI 0) dX8_kinds_25 rfl ?_
    refine bf_istore r.1 (L2 := [some (.ref 0), some (.int (nI k0)), some (.int (nI (pD P k0))), some (.int (nI 0)), some (.int (nI 0))]) dX8_kinds_26 rfl ?_
    have loop : ∀ j : Nat, j ≤ 3 → J 28 [some (.ref 0), some (.int (nI k0)), some (.int (nI (pD P k0))), some (.int (nI (bf_bm (fun q => pSo (pSet P k0 q (pD P k0) (pT P k0) (pW P k0)) Q) j))), some (.int (nI j))] [] (bf_MD D) := by
      refine bf_down (fun j hle ih => ?_)
      refine bf_iload r.1 dX8_kinds_28 rfl ?_
      refine bf_iconst r.1 (v := nI 3) dX8_kinds_30 rfl ?_
      refine nc_ge r (tgt := 65) dX8_kinds_31 (by decide) (by omega) (by decide) (fun c241 => ?_) (fun c241 => ?_)
      · refine bf_iload_n r.1 dX8_kinds_65 rfl ?_
        have ej : j = 3 := by omega
        subst ej
        exact rt_i r dX8_kinds_66 rfl rfl (by simp only [ox_kinds, wk, on_n, on_s, pKd]) rfl
      · refine bf_aload_n r.1 dX8_kinds_34 rfl ?_
        refine ig_ref r (b := 18) dX8_kinds_35 fl_X8_27 rfl (by decide) rfl ?_
        refine bf_aload_n r.1 dX8_kinds_38 rfl ?_
        refine ig_ref r (b := 2) dX8_kinds_39 fl_X8_20 rfl (by decide) rfl ?_
        refine bf_iload_n r.1 dX8_kinds_42 rfl ?_
        refine bf_iload r.1 dX8_kinds_43 rfl ?_
        refine bf_iload_n r.1 dX8_kinds_45 rfl ?_
        refine cl_v r (y2 := mX4_allAreSo) dX8_kinds_46 li_X8_191 mv_X4_allAreSo rfl (by decide) [.ref 2, .int (nI k0), .int (nI j), .int (nI (pD P k0))] [] rfl (Nat.le_of_ble_eq_true rfl) rfl (c_X4_allAreSo (by omega) hv hc cr vr hk0 (by omega) (vP_d hv hk0)) ?_
        show J 49 [some (.ref 0), some (.int (nI k0)), some (.int (nI (pD P k0))), some (.int (nI (bf_bm (fun q => pSo (pSet P k0 q (pD P k0) (pT P k0) (pW P k0)) Q) j))), some (.int (nI j))] [.int (if pSo (pSet P k0 j (pD P k0) (pT P k0) (pW P k0)) Q = true then 1 else 0)] (bf_MD D)
        refine nb_eq r (tgt := 59) dX8_kinds_49 (by decide) (fun c242 => ?_) (fun c242 => ?_)
        · refine na_inc r (v := j + 1) (L2 := [some (.ref 0), some (.int (nI k0)), some (.int (nI (pD P k0))), some (.int (nI (bf_bm (fun q => pSo (pSet P k0 q (pD P k0) (pT P k0) (pW P k0)) Q) j))), some (.int (nI (j + 1)))]) dX8_kinds_59 rfl (nI_add _ 1) rfl ?_
          refine bf_goto r.1 (tgt := 28) dX8_kinds_62 (by decide) ?_
          have hi := ih c241
          rw [bf_bm_f (p := (fun q => pSo (pSet P k0 q (pD P k0) (pT P k0) (pW P k0)) Q)) c242] at hi
          exact hi
        · refine bf_iload_n r.1 dX8_kinds_52 rfl ?_
          refine bf_iconst r.1 (v := nI 1) dX8_kinds_53 rfl ?_
          refine bf_iload r.1 dX8_kinds_54 rfl ?_
          refine na_shl r dX8_kinds_56 (by omega) (bf_sh1 (by omega)) ?_
          refine na_or r dX8_kinds_57  ?_
          refine bf_istore_n r.1 (L2 := [some (.ref 0), some (.int (nI k0)), some (.int (nI (pD P k0))), some (.int (nI ((bf_bm (fun q => pSo (pSet P k0 q (pD P k0) (pT P k0) (pW P k0)) Q) j) ||| (1 * 2 ^ j)))), some (.int (nI j))]) dX8_kinds_58 rfl ?_
          refine na_inc r (v := j + 1) (L2 := [some (.ref 0), some (.int (nI k0)), some (.int (nI (pD P k0))), some (.int (nI ((bf_bm (fun q => pSo (pSet P k0 q (pD P k0) (pT P k0) (pW P k0)) Q) j) ||| (1 * 2 ^ j)))), some (.int (nI (j + 1)))]) dX8_kinds_59 rfl (nI_add _ 1) rfl ?_
          refine bf_goto r.1 (tgt := 28) dX8_kinds_62 (by decide) ?_
          have hi := ih c241
          rw [bf_bm_t (p := (fun q => pSo (pSet P k0 q (pD P k0) (pT P k0) (pW P k0)) Q)) c242] at hi
          exact hi
    exact loop 0 (by omega) 
  · have wk := rg_n c240
    refine bf_iconst r.1 (v := -1) dX8_kinds_8 rfl ?_
    exact rt_i r dX8_kinds_9 rfl rfl (by simp only [ox_kinds, wk, on_n, on_s]) rfl
theorem c_X8_deads {d : Nat} (hd : 7 ≤ d) {D : bf_D} {P : bf_Pn} (hv : vP P) (hc : cP D P) {Q : bf_Rd} (cr : cR D Q) (vr : vR Q P) (k wh : Int32) : bf_Cf d mX8_deads [.ref 0, .int (k), .int (wh)] D (some (.int (ox_deads P Q k wh))) D := by
  refine bf_Cf_of 6 hd mo_X8_deads (Nat.le_of_ble_eq_true rfl) (fun e he J r => ?_)
  show J 0 [some (.ref 0), some (.int (k)), some (.int (wh)), none, none, none, none, none, none] [] (bf_MD D)
  have hn4 := hv.1
  have hx4 := pX_le hv
  have hx0 := pX_pos P
  refine bf_aload_n r.1 dX8_deads_0 rfl ?_
  refine bf_iload_n r.1 dX8_deads_1 rfl ?_
  refine cl_v r (y2 := mX8_isPlace) dX8_deads_2 li_X8_76 mv_X8_isPlace rfl (by decide) [.int (k)] [] rfl (Nat.le_of_ble_eq_true rfl) rfl (c_X8_isPlace (by omega) hv hc _) ?_
  show J 5 [some (.ref 0), some (.int (k)), some (.int (wh)), none, none, none, none, none, none] [.int (if 0 ≤ k ∧ k < nI (pN P) then 1 else 0)] (bf_MD D)
  refine nb_ne r (tgt := 10) dX8_deads_5 (by decide) (fun c243 => ?_) (fun c243 => ?_)
  · obtain ⟨k0, hk0, rfl⟩ := rg_in (by omega) c243
    have wk := rg_s hk0 (by omega)
    refine bf_iload_n r.1 dX8_deads_10 rfl ?_
    refine bf_iconst r.1 (v := nI 4) dX8_deads_11 rfl ?_
    refine cl_s r (y2 := mX8_isWithin) dX8_deads_12 li_X8_50 mv_X8_isWithin [.int (wh), .int (nI 4)] [] rfl (Nat.le_of_ble_eq_true rfl) rfl (c_X8_isWithin (by omega) D _ _) ?_
    show J 15 [some (.ref 0), some (.int (nI k0)), some (.int (wh)), none, none, none, none, none, none] [.int (if 0 ≤ wh ∧ wh < nI 4 then 1 else 0)] (bf_MD D)
    refine nb_ne r (tgt := 21) dX8_deads_15 (by decide) (fun c244 => ?_) (fun c244 => ?_)
    · obtain ⟨wh0, hwh0, rfl⟩ := rg_in (by decide) c244
      have wwh := rg_s hwh0 (by decide)
      refine bf_aload_n r.1 dX8_deads_21 rfl ?_
      refine ig_ref r (b := 2) dX8_deads_22 fl_X8_20 rfl (by decide) rfl ?_
      refine ig_ref r (b := 3) dX8_deads_25 fl_X8_80 rfl (by decide) rfl ?_
      refine bf_iload_n r.1 dX8_deads_28 rfl ?_
      refine aa_ld r (n := 4) (b := 6 + 3 * k0) dX8_deads_29 (by decide) rfl (by decide) (Nat.lt_of_lt_of_le hk0 hn4) (ad_a3 (Nat.lt_of_lt_of_le hk0 hn4)) ?_
      refine ig_int r (v := nI (pK P k0)) dX8_deads_30 fl_X8_84 (ad_c6 (Nat.lt_of_lt_of_le hk0 hn4)) (ad_l6 (Nat.lt_of_lt_of_le hk0 hn4)) (ad_i6 (Nat.lt_of_lt_of_le hk0 hn4) 3 (by decide)) (cP_k (P := P) hc hk0) ?_
      refine bf_istore_n r.1 (L2 := [some (.ref 0), some (.int (nI k0)), some (.int (nI wh0)), some (.int (nI (pK P k0))), none, none, none, none, none]) dX8_deads_33 rfl ?_
      refine bf_iconst r.1 (v := nI 0) dX8_deads_34 rfl ?_
      refine bf_istore r.1 (L2 := [some (.ref 0), some (.int (nI k0)), some (.int (nI wh0)), some (.int (nI (pK P k0))), some (.int (nI 0)), none, none, none, none]) dX8_deads_35 rfl ?_
      refine bf_bipush r.1 (v := nI 127) dX8_deads_37 rfl ?_
      refine bf_istore r.1 (L2 := [some (.ref 0), some (.int (nI k0)), some (.int (nI wh0)), some (.int (nI (pK P k0))), some (.int (nI 0)), some (.int (nI 127)), none, none, none]) dX8_deads_39 rfl ?_
      refine bf_iconst r.1 (v := nI 0) dX8_deads_41 rfl ?_
      refine bf_istore r.1 (L2 := [some (.ref 0), some (.int (nI k0)), some (.int (nI wh0)), some (.int (nI (pK P k0))), some (.int (nI 0)), some (.int (nI 127)), some (.int (nI 0)), none, none]) dX8_deads_42 rfl ?_
      refine bf_bipush r.1 (v := -9) dX8_deads_44 rfl ?_
      refine bf_istore r.1 (L2 := [some (.ref 0), some (.int (nI k0)), some (.int (nI wh0)), some (.int (nI (pK P k0))), some (.int (nI 0)), some (.int (nI 127)), some (.int (nI 0)), some (.int (-9)), none]) dX8_deads_46 rfl ?_
      refine bf_iconst r.1 (v := nI 0) dX8_deads_48 rfl ?_
      refine bf_istore r.1 (L2 := [some (.ref 0), some (.int (nI k0)), some (.int (nI wh0)), some (.int (nI (pK P k0))), some (.int (nI 0)), some (.int (nI 127)), some (.int (nI 0)), some (.int (-9)), some (.int (nI 0))]) dX8_deads_49 rfl ?_
      have loop : ∀ j : Nat, j ≤ 128 → J 51 [some (.ref 0), some (.int (nI k0)), some (.int (nI wh0)), some (.int (nI (pK P k0))), some (.int (nI (bf_ct (pDs P Q k0) j))), some (.int (nI (bf_aa (pDs P Q k0) j))), some (.int (nI (bf_oo (pDs P Q k0) j))), some (.int (bf_le (pDs P Q k0) j)), some (.int (nI j))] [] (bf_MD D) := by
        refine bf_down (fun j hle ih => ?_)
        refine bf_iload r.1 dX8_deads_51 rfl ?_
        refine bf_sipush r.1 (v := nI 128) dX8_deads_53 rfl ?_
        refine nc_ge r (tgt := 114) dX8_deads_56 (by decide) (by omega) (by decide) (fun c245 => ?_) (fun c245 => ?_)
        · have ej : j = 128 := by omega
          subst ej
          refine bf_iload_n r.1 dX8_deads_114 rfl ?_
          refine nz_ne r (tgt := 121) dX8_deads_115 (by decide) (by omega) (fun c246 => ?_) (fun c246 => ?_)
          · refine bf_iload r.1 dX8_deads_121 rfl ?_
            refine nz_ne r (tgt := 131) dX8_deads_123 (by decide) (by have := bf_ct_le' (pDs P Q k0) 128; omega) (fun c247 => ?_) (fun c247 => ?_)
            · refine bf_iload_n r.1 dX8_deads_131 rfl ?_
              refine bf_iconst r.1 (v := nI 1) dX8_deads_132 rfl ?_
              refine na_sub r dX8_deads_133 (by omega) ?_
              refine bf_iload r.1 dX8_deads_134 rfl ?_
              refine bf_iload r.1 dX8_deads_136 rfl ?_
              refine bf_iload r.1 dX8_deads_138 rfl ?_
              refine cl_s r (y2 := mX8_pick) dX8_deads_140 li_X8_149 mv_X8_pick [.int (nI (wh0 - 1)), .int (nI (bf_aa (pDs P Q k0) 128)), .int (nI (bf_oo (pDs P Q k0) 128)), .int (bf_le (pDs P Q k0) 128)] [] rfl (Nat.le_of_ble_eq_true rfl) rfl (c_X8_pick (by omega) D (nI (wh0 - 1)) (nI (bf_aa (pDs P Q k0) 128)) (nI (bf_oo (pDs P Q k0) 128)) (bf_le (pDs P Q k0) 128)) ?_
              show J 143 [some (.ref 0), some (.int (nI k0)), some (.int (nI wh0)), some (.int (nI (pK P k0))), some (.int (nI (bf_ct (pDs P Q k0) 128))), some (.int (nI (bf_aa (pDs P Q k0) 128))), some (.int (nI (bf_oo (pDs P Q k0) 128))), some (.int (bf_le (pDs P Q k0) 128)), some (.int (nI 128))] [.int (if nI (wh0 - 1) = 0 then nI (bf_aa (pDs P Q k0) 128) else if nI (wh0 - 1) = nI 1 then nI (bf_oo (pDs P Q k0) 128) else bf_le (pDs P Q k0) 128)] (bf_MD D)
              exact rt_i r dX8_deads_143 rfl rfl (by simp only [ox_deads, wk, wwh, if_neg c246, if_neg c247, on_n, on_s]) rfl
            · refine bf_bipush r.1 (v := -9) dX8_deads_126 rfl ?_
              refine bf_goto r.1 (tgt := 143) dX8_deads_128 (by decide) ?_
              exact rt_i r dX8_deads_143 rfl rfl (by simp only [ox_deads, wk, wwh, if_neg c246, if_pos c247, on_n, on_s]) rfl
          · refine bf_iload r.1 dX8_deads_118 rfl ?_
            exact rt_i r dX8_deads_120 rfl rfl (by simp only [ox_deads, wk, wwh, if_pos c246, on_n, on_s]) rfl
        · refine bf_aload_n r.1 dX8_deads_59 rfl ?_
          refine ig_ref r (b := 18) dX8_deads_60 fl_X8_27 rfl (by decide) rfl ?_
          refine bf_aload_n r.1 dX8_deads_63 rfl ?_
          refine ig_ref r (b := 2) dX8_deads_64 fl_X8_20 rfl (by decide) rfl ?_
          refine bf_iload_n r.1 dX8_deads_67 rfl ?_
          refine bf_iload_n r.1 dX8_deads_68 rfl ?_
          refine bf_iload r.1 dX8_deads_69 rfl ?_
          refine cl_v r (y2 := mX4_allAreSo) dX8_deads_71 li_X8_191 mv_X4_allAreSo rfl (by decide) [.ref 2, .int (nI k0), .int (nI (pK P k0)), .int (nI j)] [] rfl (Nat.le_of_ble_eq_true rfl) rfl (c_X4_allAreSo (by omega) hv hc cr vr hk0 (vP_k hv hk0) (by omega)) ?_
          show J 74 [some (.ref 0), some (.int (nI k0)), some (.int (nI wh0)), some (.int (nI (pK P k0))), some (.int (nI (bf_ct (pDs P Q k0) j))), some (.int (nI (bf_aa (pDs P Q k0) j))), some (.int (nI (bf_oo (pDs P Q k0) j))), some (.int (bf_le (pDs P Q k0) j)), some (.int (nI j))] [.int (if pSo (pSet P k0 (pK P k0) j (pT P k0) (pW P k0)) Q = true then 1 else 0)] (bf_MD D)
          refine nb_eq r (tgt := 108) dX8_deads_74 (by decide) (fun c248 => ?_) (fun c248 => ?_)
          · refine na_inc r (v := j + 1) (L2 := [some (.ref 0), some (.int (nI k0)), some (.int (nI wh0)), some (.int (nI (pK P k0))), some (.int (nI (bf_ct (pDs P Q k0) j))), some (.int (nI (bf_aa (pDs P Q k0) j))), some (.int (nI (bf_oo (pDs P Q k0) j))), some (.int (bf_le (pDs P Q k0) j)), some (.int (nI (j + 1)))]) dX8_deads_108 rfl (nI_add _ 1) rfl ?_
            refine bf_goto r.1 (tgt := 51) dX8_deads_111 (by decide) ?_
            have hi := ih c245
            have hp : ¬ pDs P Q k0 j = true := c248
            simp only [bf_ct, bf_aa, bf_oo, bf_le, if_neg hp, Nat.add_zero] at hi
            exact hi
          · refine bf_iload r.1 dX8_deads_77 rfl ?_
            refine nz_ne r (tgt := 87) dX8_deads_79 (by decide) (by have := bf_ct_le' (pDs P Q k0) j; omega) (fun c249 => ?_) (fun c249 => ?_)
            · refine bf_iload r.1 dX8_deads_87 rfl ?_
              refine bf_istore r.1 (L2 := [some (.ref 0), some (.int (nI k0)), some (.int (nI wh0)), some (.int (nI (pK P k0))), some (.int (nI (bf_ct (pDs P Q k0) j))), some (.int (nI (bf_aa (pDs P Q k0) j))), some (.int (nI (bf_oo (pDs P Q k0) j))), some (.int (bf_le (pDs P Q k0) j)), some (.int (nI j))]) dX8_deads_89 rfl ?_
              refine na_inc r (v := bf_ct (pDs P Q k0) j + 1) (L2 := [some (.ref 0), some (.int (nI k0)), some (.int (nI wh0)), some (.int (nI (pK P k0))), some (.int (nI (bf_ct (pDs P Q k0) j + 1))), some (.int (nI (bf_aa (pDs P Q k0) j))), some (.int (nI (bf_oo (pDs P Q k0) j))), some (.int (bf_le (pDs P Q k0) j)), some (.int (nI j))]) dX8_deads_91 rfl (nI_add _ 1) rfl ?_
              refine bf_iload r.1 dX8_deads_94 rfl ?_
              refine bf_iload r.1 dX8_deads_96 rfl ?_
              refine na_and r dX8_deads_98  ?_
              refine bf_istore r.1 (L2 := [some (.ref 0), some (.int (nI k0)), some (.int (nI wh0)), some (.int (nI (pK P k0))), some (.int (nI (bf_ct (pDs P Q k0) j + 1))), some (.int (nI ((bf_aa (pDs P Q k0) j) &&& j))), some (.int (nI (bf_oo (pDs P Q k0) j))), some (.int (bf_le (pDs P Q k0) j)), some (.int (nI j))]) dX8_deads_99 rfl ?_
              refine bf_iload r.1 dX8_deads_101 rfl ?_
              refine bf_iload r.1 dX8_deads_103 rfl ?_
              refine na_or r dX8_deads_105  ?_
              refine bf_istore r.1 (L2 := [some (.ref 0), some (.int (nI k0)), some (.int (nI wh0)), some (.int (nI (pK P k0))), some (.int (nI (bf_ct (pDs P Q k0) j + 1))), some (.int (nI ((bf_aa (pDs P Q k0) j) &&& j))), some (.int (nI ((bf_oo (pDs P Q k0) j) ||| j))), some (.int (bf_le (pDs P Q k0) j)), some (.int (nI j))]) dX8_deads_106 rfl ?_
              refine na_inc r (v := j + 1) (L2 := [some (.ref 0), some (.int (nI k0)), some (.int (nI wh0)), some (.int (nI (pK P k0))), some (.int (nI (bf_ct (pDs P Q k0) j + 1))), some (.int (nI ((bf_aa (pDs P Q k0) j) &&& j))), some (.int (nI ((bf_oo (pDs P Q k0) j) ||| j))), some (.int (bf_le (pDs P Q k0) j)), some (.int (nI (j + 1)))]) dX8_deads_108 rfl (nI_add _ 1) rfl ?_
              refine bf_goto r.1 (tgt := 51) dX8_deads_111 (by decide) ?_
              have hi := ih c245
              have hp : pDs P Q k0 j = true := c248
              simp only [bf_ct, bf_aa, bf_oo, bf_le, if_pos hp, if_neg c249] at hi
              exact hi
            · refine bf_iload r.1 dX8_deads_82 rfl ?_
              refine bf_goto r.1 (tgt := 89) dX8_deads_84 (by decide) ?_
              refine bf_istore r.1 (L2 := [some (.ref 0), some (.int (nI k0)), some (.int (nI wh0)), some (.int (nI (pK P k0))), some (.int (nI (bf_ct (pDs P Q k0) j))), some (.int (nI (bf_aa (pDs P Q k0) j))), some (.int (nI (bf_oo (pDs P Q k0) j))), some (.int (nI j)), some (.int (nI j))]) dX8_deads_89 rfl ?_
              refine na_inc r (v := bf_ct (pDs P Q k0) j + 1) (L2 := [some (.ref 0), some (.int (nI k0)), some (.int (nI wh0)), some (.int (nI (pK P k0))), some (.int (nI (bf_ct (pDs P Q k0) j + 1))), some (.int (nI (bf_aa (pDs P Q k0) j))), some (.int (nI (bf_oo (pDs P Q k0) j))), some (.int (nI j)), some (.int (nI j))]) dX8_deads_91 rfl (nI_add _ 1) rfl ?_
              refine bf_iload r.1 dX8_deads_94 rfl ?_
              refine bf_iload r.1 dX8_deads_96 rfl ?_
              refine na_and r dX8_deads_98  ?_
              refine bf_istore r.1 (L2 := [some (.ref 0), some (.int (nI k0)), some (.int (nI wh0)), some (.int (nI (pK P k0))), some (.int (nI (bf_ct (pDs P Q k0) j + 1))), some (.int (nI ((bf_aa (pDs P Q k0) j) &&& j))), some (.int (nI (bf_oo (pDs P Q k0) j))), some (.int (nI j)), some (.int (nI j))]) dX8_deads_99 rfl ?_
              refine bf_iload r.1 dX8_deads_101 rfl ?_
              refine bf_iload r.1 dX8_deads_103 rfl ?_
              refine na_or r dX8_deads_105  ?_
              refine bf_istore r.1 (L2 := [some (.ref 0), some (.int (nI k0)), some (.int (nI wh0)), some (.int (nI (pK P k0))), some (.int (nI (bf_ct (pDs P Q k0) j + 1))), some (.int (nI ((bf_aa (pDs P Q k0) j) &&& j))), some (.int (nI ((bf_oo (pDs P Q k0) j) ||| j))), some (.int (nI j)), some (.int (nI j))]) dX8_deads_106 rfl ?_
              refine na_inc r (v := j + 1) (L2 := [some (.ref 0), some (.int (nI k0)), some (.int (nI wh0)), some (.int (nI (pK P k0))), some (.int (nI (bf_ct (pDs P Q k0) j + 1))), some (.int (nI ((bf_aa (pDs P Q k0) j) &&& j))), some (.int (nI ((bf_oo (pDs P Q k0) j) ||| j))), some (.int (nI j)), some (.int (nI (j + 1)))]) dX8_deads_108 rfl (nI_add _ 1) rfl ?_
              refine bf_goto r.1 (tgt := 51) dX8_deads_111 (by decide) ?_
              have hi := ih c245
              have hp : pDs P Q k0 j = true := c248
              simp only [bf_ct, bf_aa, bf_oo, bf_le, if_pos hp, if_pos c249] at hi
              exact hi
      exact loop 0 (by omega) 
    · have wwh := rg_n c244
      refine bf_bipush r.1 (v := -2) dX8_deads_18 rfl ?_
      exact rt_i r dX8_deads_20 rfl rfl (by simp only [ox_deads, wk, wwh, on_n, on_s]) rfl
  · have wk := rg_n c243
    refine bf_iconst r.1 (v := -1) dX8_deads_8 rfl ?_
    exact rt_i r dX8_deads_9 rfl rfl (by simp only [ox_deads, wk, on_n, on_s]) rfl
theorem c_X8_counting {d : Nat} (hd : 7 ≤ d) {D : bf_D} {P : bf_Pn} (hv : vP P) (hc : cP D P) (u v wh : Int32) : bf_Cf d mX8_counting [.ref 0, .int (u), .int (v), .int (wh)] D (some (.int (ox_counting P u v wh))) D := by
  refine bf_Cf_of 6 hd mo_X8_counting (Nat.le_of_ble_eq_true rfl) (fun e he J r => ?_)
  show J 0 [some (.ref 0), some (.int (u)), some (.int (v)), some (.int (wh)), none, none, none, none, none] [] (bf_MD D)
  have hn4 := hv.1
  have hx4 := pX_le hv
  have hx0 := pX_pos P
  refine bf_aload_n r.1 dX8_counting_0 rfl ?_
  refine ig_ref r (b := 2) dX8_counting_1 fl_X8_20 rfl (by decide) rfl ?_
  refine cl_v r (y2 := mX2_isNone) dX8_counting_4 li_X8_122 mv_X2_isNone rfl (by decide) [] [] rfl (Nat.le_of_ble_eq_true rfl) rfl (c_X2_isNone (by omega) hv hc) ?_
  show J 7 [some (.ref 0), some (.int (u)), some (.int (v)), some (.int (wh)), none, none, none, none, none] [.int (if pN P = 0 then 1 else 0)] (bf_MD D)
  refine nb_eq r (tgt := 13) dX8_counting_7 (by decide) (fun c250 => ?_) (fun c250 => ?_)
  · have h1n : 1 ≤ pN P := by omega
    refine bf_aload_n r.1 dX8_counting_13 rfl ?_
    refine ig_ref r (b := 2) dX8_counting_14 fl_X8_20 rfl (by decide) rfl ?_
    refine bf_iload_n r.1 dX8_counting_17 rfl ?_
    refine cl_v r (y2 := mX2_isNumber) dX8_counting_18 li_X8_126 mv_X2_isNumber rfl (by decide) [.int (u)] [] rfl (Nat.le_of_ble_eq_true rfl) rfl (c_X2_isNumber (by omega) hv hc _) ?_
    show J 21 [some (.ref 0), some (.int (u)), some (.int (v)), some (.int (wh)), none, none, none, none, none] [.int (if 0 ≤ u ∧ u < nI (pX P) then 1 else 0)] (bf_MD D)
    refine nb_eq r (tgt := 48) dX8_counting_21 (by decide) (fun c251 => ?_) (fun c251 => ?_)
    · have wu := rg_n c251
      refine bf_bipush r.1 (v := -2) dX8_counting_48 rfl ?_
      exact rt_i r dX8_counting_50 rfl rfl (by simp only [ox_counting, if_neg c250, wu, on_n, on_s]) rfl
    · obtain ⟨u0, hu0, rfl⟩ := rg_in (by omega) c251
      have wu := rg_s hu0 (by omega)
      refine bf_aload_n r.1 dX8_counting_24 rfl ?_
      refine ig_ref r (b := 2) dX8_counting_25 fl_X8_20 rfl (by decide) rfl ?_
      refine bf_iload_n r.1 dX8_counting_28 rfl ?_
      refine cl_v r (y2 := mX2_isNumber) dX8_counting_29 li_X8_126 mv_X2_isNumber rfl (by decide) [.int (v)] [] rfl (Nat.le_of_ble_eq_true rfl) rfl (c_X2_isNumber (by omega) hv hc _) ?_
      show J 32 [some (.ref 0), some (.int (nI u0)), some (.int (v)), some (.int (wh)), none, none, none, none, none] [.int (if 0 ≤ v ∧ v < nI (pX P) then 1 else 0)] (bf_MD D)
      refine nb_eq r (tgt := 48) dX8_counting_32 (by decide) (fun c252 => ?_) (fun c252 => ?_)
      · have wv := rg_n c252
        refine bf_bipush r.1 (v := -2) dX8_counting_48 rfl ?_
        exact rt_i r dX8_counting_50 rfl rfl (by simp only [ox_counting, if_neg c250, wu, wv, on_n, on_s]) rfl
      · obtain ⟨v0, hv0, rfl⟩ := rg_in (by omega) c252
        have wv := rg_s hv0 (by omega)
        refine bf_iload_n r.1 dX8_counting_35 rfl ?_
        refine bf_iload_n r.1 dX8_counting_36 rfl ?_
        refine nc_lt r (tgt := 48) dX8_counting_37 (by decide) (by omega) (by omega) (fun c253 => ?_) (fun c253 => ?_)
        · refine bf_bipush r.1 (v := -2) dX8_counting_48 rfl ?_
          exact rt_i r dX8_counting_50 rfl rfl (by simp only [ox_counting, if_neg c250, wu, wv, if_pos c253, on_n, on_s]) rfl
        · have huv : u0 ≤ v0 := c253
          refine bf_iload_n r.1 dX8_counting_40 rfl ?_
          refine bf_iconst r.1 (v := nI 3) dX8_counting_41 rfl ?_
          refine cl_s r (y2 := mX8_isWithin) dX8_counting_42 li_X8_50 mv_X8_isWithin [.int (wh), .int (nI 3)] [] rfl (Nat.le_of_ble_eq_true rfl) rfl (c_X8_isWithin (by omega) D _ _) ?_
          show J 45 [some (.ref 0), some (.int (nI u0)), some (.int (nI v0)), some (.int (wh)), none, none, none, none, none] [.int (if 0 ≤ wh ∧ wh < nI 3 then 1 else 0)] (bf_MD D)
          refine nb_ne r (tgt := 51) dX8_counting_45 (by decide) (fun c254 => ?_) (fun c254 => ?_)
          · obtain ⟨wh0, hwh0, rfl⟩ := rg_in (by decide) c254
            have wwh := rg_s hwh0 (by decide)
            refine bf_iconst r.1 (v := nI 0) dX8_counting_51 rfl ?_
            refine bf_istore r.1 (L2 := [some (.ref 0), some (.int (nI u0)), some (.int (nI v0)), some (.int (nI wh0)), some (.int (nI 0)), none, none, none, none]) dX8_counting_52 rfl ?_
            refine bf_iconst r.1 (v := nI 0) dX8_counting_54 rfl ?_
            refine bf_istore r.1 (L2 := [some (.ref 0), some (.int (nI u0)), some (.int (nI v0)), some (.int (nI wh0)), some (.int (nI 0)), some (.int (nI 0)), none, none, none]) dX8_counting_55 rfl ?_
            refine bf_iconst r.1 (v := nI 0) dX8_counting_57 rfl ?_
            refine bf_istore r.1 (L2 := [some (.ref 0), some (.int (nI u0)), some (.int (nI v0)), some (.int (nI wh0)), some (.int (nI 0)), some (.int (nI 0)), some (.int (nI 0)), none, none]) dX8_counting_58 rfl ?_
            refine bf_iload_n r.1 dX8_counting_60 rfl ?_
            refine bf_istore r.1 (L2 := [some (.ref 0), some (.int (nI u0)), some (.int (nI v0)), some (.int (nI wh0)), some (.int (nI 0)), some (.int (nI 0)), some (.int (nI 0)), some (.int (nI u0)), none]) dX8_counting_61 rfl ?_
            have loop : ∀ t : Nat, t ≤ (v0 - u0) → J 63 [some (.ref 0), some (.int (nI u0)), some (.int (nI v0)), some (.int (nI wh0)), some (.int (nI (bf_ct (fun t => decide (pFt P u0 t = 0)) t))), some (.int (nI (bf_sm (pFt P u0) t))), some (.int (nI (bf_mx (pFt P u0) t))), some (.int (nI (u0 + t))), none] [] (bf_MD D) := by
              refine bf_down (fun t hle ih => ?_)
              have hft : ∀ i, pFt P u0 i ≤ 40 := fun i => by have := pFs_le P (pN P) (u0 + i); unfold pFt; omega
              refine bf_iload r.1 dX8_counting_63 rfl ?_
              refine bf_iload_n r.1 dX8_counting_65 rfl ?_
              refine nc_ge r (tgt := 117) dX8_counting_66 (by decide) (by omega) (by omega) (fun c255 => ?_) (fun c255 => ?_)
              · have ej : t = v0 - u0 := by omega
                subst ej
                refine bf_iload_n r.1 dX8_counting_117 rfl ?_
                refine bf_iload r.1 dX8_counting_118 rfl ?_
                refine bf_iload r.1 dX8_counting_120 rfl ?_
                refine bf_iload r.1 dX8_counting_122 rfl ?_
                refine cl_s r (y2 := mX8_pick) dX8_counting_124 li_X8_149 mv_X8_pick [.int (nI wh0), .int (nI (bf_ct (fun t => decide (pFt P u0 t = 0)) (v0 - u0))), .int (nI (bf_sm (pFt P u0) (v0 - u0))), .int (nI (bf_mx (pFt P u0) (v0 - u0)))] [] rfl (Nat.le_of_ble_eq_true rfl) rfl (c_X8_pick (by omega) D (nI wh0) (nI (bf_ct (fun t => decide (pFt P u0 t = 0)) (v0 - u0))) (nI (bf_sm (pFt P u0) (v0 - u0))) (nI (bf_mx (pFt P u0) (v0 - u0)))) ?_
                show J 127 [some (.ref 0), some (.int (nI u0)), some (.int (nI v0)), some (.int (nI wh0)), some (.int (nI (bf_ct (fun t => decide (pFt P u0 t = 0)) (v0 - u0)))), some (.int (nI (bf_sm (pFt P u0) (v0 - u0)))), some (.int (nI (bf_mx (pFt P u0) (v0 - u0)))), some (.int (nI (u0 + (v0 - u0)))), none] [.int (if nI wh0 = 0 then nI (bf_ct (fun t => decide (pFt P u0 t = 0)) (v0 - u0)) else if nI wh0 = nI 1 then nI (bf_sm (pFt P u0) (v0 - u0)) else nI (bf_mx (pFt P u0) (v0 - u0)))] (bf_MD D)
                exact rt_i r dX8_counting_127 rfl rfl (by simp only [ox_counting, if_neg c250, wu, wv, if_neg (Nat.not_lt.mpr c253), wwh, on_n, on_s]) rfl
              · refine bf_aload_n r.1 dX8_counting_69 rfl ?_
                refine ig_ref r (b := 2) dX8_counting_70 fl_X8_20 rfl (by decide) rfl ?_
                refine bf_iload r.1 dX8_counting_73 rfl ?_
                refine cl_v r (y2 := mX2_flipsOfStep) dX8_counting_75 li_X8_141 mv_X2_flipsOfStep rfl (by decide) [.int (nI (u0 + t))] [] rfl (Nat.le_of_ble_eq_true rfl) rfl (c_X2_flipsOfStep (by omega) hv hc (Nat.one_le_iff_ne_zero.mpr c250) (by omega)) ?_
                show J 78 [some (.ref 0), some (.int (nI u0)), some (.int (nI v0)), some (.int (nI wh0)), some (.int (nI (bf_ct (fun t => decide (pFt P u0 t = 0)) t))), some (.int (nI (bf_sm (pFt P u0) t))), some (.int (nI (bf_mx (pFt P u0) t))), some (.int (nI (u0 + t))), none] [.int (nI (pFt P u0 t))] (bf_MD D)
                refine bf_istore r.1 (L2 := [some (.ref 0), some (.int (nI u0)), some (.int (nI v0)), some (.int (nI wh0)), some (.int (nI (bf_ct (fun t => decide (pFt P u0 t = 0)) t))), some (.int (nI (bf_sm (pFt P u0) t))), some (.int (nI (bf_mx (pFt P u0) t))), some (.int (nI (u0 + t))), some (.int (nI (pFt P u0 t)))]) dX8_counting_78 rfl ?_
                refine bf_iload r.1 dX8_counting_80 rfl ?_
                refine bf_iload r.1 dX8_counting_82 rfl ?_
                refine nz_ne r (tgt := 91) dX8_counting_84 (by decide) (by have := hft t; omega) (fun c256 => ?_) (fun c256 => ?_)
                · refine bf_iconst r.1 (v := nI 0) dX8_counting_91 rfl ?_
                  refine na_add r dX8_counting_92  ?_
                  refine bf_istore r.1 (L2 := [some (.ref 0), some (.int (nI u0)), some (.int (nI v0)), some (.int (nI wh0)), some (.int (nI (bf_ct (fun t => decide (pFt P u0 t = 0)) t + 0))), some (.int (nI (bf_sm (pFt P u0) t))), some (.int (nI (bf_mx (pFt P u0) t))), some (.int (nI (u0 + t))), some (.int (nI (pFt P u0 t)))]) dX8_counting_93 rfl ?_
                  refine bf_iload r.1 dX8_counting_95 rfl ?_
                  refine bf_iload r.1 dX8_counting_97 rfl ?_
                  refine na_add r dX8_counting_99  ?_
                  refine bf_istore r.1 (L2 := [some (.ref 0), some (.int (nI u0)), some (.int (nI v0)), some (.int (nI wh0)), some (.int (nI (bf_ct (fun t => decide (pFt P u0 t = 0)) t + 0))), some (.int (nI (bf_sm (pFt P u0) t + (pFt P u0 t)))), some (.int (nI (bf_mx (pFt P u0) t))), some (.int (nI (u0 + t))), some (.int (nI (pFt P u0 t)))]) dX8_counting_100 rfl ?_
                  refine bf_iload r.1 dX8_counting_102 rfl ?_
                  refine bf_iload r.1 dX8_counting_104 rfl ?_
                  refine cl_max r dX8_counting_106 lw_X8_144 (Nat.le_of_ble_eq_true rfl) ?_
                  refine eq_i (v := nI (bf_mx (pFt P u0) (t + 1))) (bf_mx_I (by have := bf_mx_le hft t; omega) (by have := hft t; omega)) ?_
                  refine bf_istore r.1 (L2 := [some (.ref 0), some (.int (nI u0)), some (.int (nI v0)), some (.int (nI wh0)), some (.int (nI (bf_ct (fun t => decide (pFt P u0 t = 0)) t + 0))), some (.int (nI (bf_sm (pFt P u0) t + (pFt P u0 t)))), some (.int (nI (bf_mx (pFt P u0) (t + 1)))), some (.int (nI (u0 + t))), some (.int (nI (pFt P u0 t)))]) dX8_counting_109 rfl ?_
                  refine na_inc r (v := u0 + t + 1) (L2 := [some (.ref 0), some (.int (nI u0)), some (.int (nI v0)), some (.int (nI wh0)), some (.int (nI (bf_ct (fun t => decide (pFt P u0 t = 0)) t + 0))), some (.int (nI (bf_sm (pFt P u0) t + (pFt P u0 t)))), some (.int (nI (bf_mx (pFt P u0) (t + 1)))), some (.int (nI (u0 + t + 1))), some (.int (nI (pFt P u0 t)))]) dX8_counting_111 rfl (nI_add _ 1) rfl ?_
                  refine bf_goto r.1 (tgt := 63) dX8_counting_114 (by decide) ?_
                  refine bf_fgt r.1 (i := 8) (L2 := [some (.ref 0), some (.int (nI u0)), some (.int (nI v0)), some (.int (nI wh0)), some (.int (nI (bf_ct (fun t => decide (pFt P u0 t = 0)) t + 0))), some (.int (nI (bf_sm (pFt P u0) t + (pFt P u0 t)))), some (.int (nI (bf_mx (pFt P u0) (t + 1)))), some (.int (nI (u0 + t + 1))), none]) rfl ?_
                  have hi := ih (by omega)
                  rw [bf_ct_f (p := (fun t => decide (pFt P u0 t = 0))) (by simpa using c256)] at hi
                  exact hi
                · refine bf_iconst r.1 (v := nI 1) dX8_counting_87 rfl ?_
                  refine bf_goto r.1 (tgt := 92) dX8_counting_88 (by decide) ?_
                  refine na_add r dX8_counting_92  ?_
                  refine bf_istore r.1 (L2 := [some (.ref 0), some (.int (nI u0)), some (.int (nI v0)), some (.int (nI wh0)), some (.int (nI (bf_ct (fun t => decide (pFt P u0 t = 0)) t + 1))), some (.int (nI (bf_sm (pFt P u0) t))), some (.int (nI (bf_mx (pFt P u0) t))), some (.int (nI (u0 + t))), some (.int (nI (pFt P u0 t)))]) dX8_counting_93 rfl ?_
                  refine bf_iload r.1 dX8_counting_95 rfl ?_
                  refine bf_iload r.1 dX8_counting_97 rfl ?_
                  refine na_add r dX8_counting_99  ?_
                  refine bf_istore r.1 (L2 := [some (.ref 0), some (.int (nI u0)), some (.int (nI v0)), some (.int (nI wh0)), some (.int (nI (bf_ct (fun t => decide (pFt P u0 t = 0)) t + 1))), some (.int (nI (bf_sm (pFt P u0) t + (pFt P u0 t)))), some (.int (nI (bf_mx (pFt P u0) t))), some (.int (nI (u0 + t))), some (.int (nI (pFt P u0 t)))]) dX8_counting_100 rfl ?_
                  refine bf_iload r.1 dX8_counting_102 rfl ?_
                  refine bf_iload r.1 dX8_counting_104 rfl ?_
                  refine cl_max r dX8_counting_106 lw_X8_144 (Nat.le_of_ble_eq_true rfl) ?_
                  refine eq_i (v := nI (bf_mx (pFt P u0) (t + 1))) (bf_mx_I (by have := bf_mx_le hft t; omega) (by have := hft t; omega)) ?_
                  refine bf_istore r.1 (L2 := [some (.ref 0), some (.int (nI u0)), some (.int (nI v0)), some (.int (nI wh0)), some (.int (nI (bf_ct (fun t => decide (pFt P u0 t = 0)) t + 1))), some (.int (nI (bf_sm (pFt P u0) t + (pFt P u0 t)))), some (.int (nI (bf_mx (pFt P u0) (t + 1)))), some (.int (nI (u0 + t))), some (.int (nI (pFt P u0 t)))]) dX8_counting_109 rfl ?_
                  refine na_inc r (v := u0 + t + 1) (L2 := [some (.ref 0), some (.int (nI u0)), some (.int (nI v0)), some (.int (nI wh0)), some (.int (nI (bf_ct (fun t => decide (pFt P u0 t = 0)) t + 1))), some (.int (nI (bf_sm (pFt P u0) t + (pFt P u0 t)))), some (.int (nI (bf_mx (pFt P u0) (t + 1)))), some (.int (nI (u0 + t + 1))), some (.int (nI (pFt P u0 t)))]) dX8_counting_111 rfl (nI_add _ 1) rfl ?_
                  refine bf_goto r.1 (tgt := 63) dX8_counting_114 (by decide) ?_
                  refine bf_fgt r.1 (i := 8) (L2 := [some (.ref 0), some (.int (nI u0)), some (.int (nI v0)), some (.int (nI wh0)), some (.int (nI (bf_ct (fun t => decide (pFt P u0 t = 0)) t + 1))), some (.int (nI (bf_sm (pFt P u0) t + (pFt P u0 t)))), some (.int (nI (bf_mx (pFt P u0) (t + 1)))), some (.int (nI (u0 + t + 1))), none]) rfl ?_
                  have hi := ih (by omega)
                  rw [bf_ct_t (p := (fun t => decide (pFt P u0 t = 0))) (by simpa using c256)] at hi
                  exact hi
            exact loop 0 (by omega) 
          · have wwh := rg_n c254
            refine bf_bipush r.1 (v := -2) dX8_counting_48 rfl ?_
            exact rt_i r dX8_counting_50 rfl rfl (by simp only [ox_counting, if_neg c250, wu, wv, if_neg (Nat.not_lt.mpr c253), wwh, on_n, on_s]) rfl
  · refine bf_bipush r.1 (v := -3) dX8_counting_10 rfl ?_
    exact rt_i r dX8_counting_12 rfl rfl (by simp only [ox_counting, if_pos c250, on_n, on_s]) rfl
theorem e_X8_go {d : Nat} (hd : 10 ≤ d) {D : bf_D} {P : bf_Pn} {S : bf_Sh} {Q : bf_Rd} {F : Nat} {T : Int32} (va : vA (P, S, Q, F, T)) (ca : cA D (P, S, Q, F, T)) (n : Int32) : bf_Ce d mX8_go [.ref 0, .int (n)] D (fun r D' => r = some (.int (ox_go P S Q F T n).1) ∧ cA D' (ox_go P S Q F T n).2 ∧ bf_fr 0 37 D D') := by
  refine bf_Ce_of 9 hd mo_X8_go (Nat.le_of_ble_eq_true rfl) (fun e he J r => ?_)
  show J 0 [some (.ref 0), some (.int (n)), none, none] [] (bf_MD D)
  obtain ⟨hv, vs, vr, hF⟩ := id va
  obtain ⟨hc, cs, cr, c5, c6⟩ := id ca
  have hn4 := hv.1
  have hx4 := pX_le hv
  have hx0 := pX_pos P
  refine bf_aload_n r.1 dX8_go_0 rfl ?_
  refine ig_ref r (b := 2) dX8_go_1 fl_X8_20 rfl (by decide) rfl ?_
  refine cl_v r (y2 := mX2_isNone) dX8_go_4 li_X8_122 mv_X2_isNone rfl (by decide) [] [] rfl (Nat.le_of_ble_eq_true rfl) rfl (c_X2_isNone (by omega) hv hc) ?_
  show J 7 [some (.ref 0), some (.int (n)), none, none] [.int (if pN P = 0 then 1 else 0)] (bf_MD D)
  refine nb_eq r (tgt := 13) dX8_go_7 (by decide) (fun c257 => ?_) (fun c257 => ?_)
  · have h1n : 1 ≤ pN P := by omega
    refine bf_iload_n r.1 dX8_go_13 rfl ?_
    refine bf_iconst r.1 (v := nI 1) dX8_go_14 rfl ?_
    refine bf_icmp_lt r.1 (tgt := 25) dX8_go_15 (by decide) (fun c258 => ?_) (fun c258 => ?_)
    · have wn := r1_l c258
      refine bf_bipush r.1 (v := -2) dX8_go_25 rfl ?_
      have ho : ox_go P S Q F T n = (-2, (P, S, Q, F, T)) := by simp only [ox_go, if_neg c257, wn, on_n, on_s]
      exact re_i r dX8_go_27 rfl rfl ⟨by rw [ho], by rw [ho]; exact ca, fr_0⟩
    · refine bf_iload_n r.1 dX8_go_18 rfl ?_
      refine bf_sipush r.1 (v := nI 500) dX8_go_19 rfl ?_
      refine bf_icmp_le r.1 (tgt := 28) dX8_go_22 (by decide) (fun c259 => ?_) (fun c259 => ?_)
      · obtain ⟨n0, hn1, hn5, rfl, wn⟩ := r1_i c258 c259
        refine bf_iconst r.1 (v := nI 0) dX8_go_28 rfl ?_
        refine bf_istore_n r.1 (L2 := [some (.ref 0), some (.int (nI n0)), some (.int (nI 0)), none]) dX8_go_29 rfl ?_
        refine bf_iconst r.1 (v := nI 0) dX8_go_30 rfl ?_
        refine bf_istore_n r.1 (L2 := [some (.ref 0), some (.int (nI n0)), some (.int (nI 0)), some (.int (nI 0))]) dX8_go_31 rfl ?_
        have lo : ∀ j : Nat, j ≤ n0 → ∀ D2 : bf_D, cP D2 (gP P j) → bf_fr 2 18 D D2 → J 32 [some (.ref 0), some (.int (nI n0)), some (.int (nI (gC P j))), some (.int (nI j))] [] (bf_MD D2) := by
          refine bf_down (fun j hle ih => ?_)
          intro D2 hc2 hf2
          refine bf_iload_n r.1 dX8_go_32 rfl ?_
          refine bf_iload_n r.1 dX8_go_33 rfl ?_
          refine nc_ge r (tgt := 53) dX8_go_34 (by decide) (by omega) (by omega) (fun c260 => ?_) (fun c260 => ?_)
          · refine bf_iload_n r.1 dX8_go_53 rfl ?_
            have ej : j = n0 := by omega
            subst ej
            have ho : ox_go P S Q F T (nI j) = (nI (gC P j), (gP P j, S, Q, F, T)) := by simp only [ox_go, if_neg c257, wn, on_n, on_s]
            exact re_i r dX8_go_54 rfl rfl ⟨by rw [ho], by rw [ho]; exact (cA_P ca hc2 hf2), (fr_w hf2 (by decide) (by decide))⟩
          · refine bf_iload_n r.1 dX8_go_37 rfl ?_
            refine bf_aload_n r.1 dX8_go_38 rfl ?_
            refine ig_ref r (b := 2) dX8_go_39 fl_X8_20 rfl (by decide) rfl ?_
            refine ce_v r (y2 := mX2_makeStep) dX8_go_42 li_X8_159 mv_X2_makeStep rfl (by decide) [] [.int (nI (gC P j))] rfl (Nat.le_of_ble_eq_true rfl) rfl (e_X2_makeStep (by omega) (gP_v hv j).1 hc2 (by rw [(gP_v hv j).2]; omega)) (fun res D261 hq261 => ?_)
            obtain ⟨rfl, hc261, hf261⟩ := hq261
            show J 45 [some (.ref 0), some (.int (nI n0)), some (.int (nI (gC P j))), some (.int (nI j))] [.int (nI (pMc (gP P j))), .int (nI (gC P j))] (bf_MD D261)
            refine na_add r dX8_go_45  ?_
            refine bf_istore_n r.1 (L2 := [some (.ref 0), some (.int (nI n0)), some (.int (nI (gC P j + (pMc (gP P j))))), some (.int (nI j))]) dX8_go_46 rfl ?_
            refine na_inc r (v := j + 1) (L2 := [some (.ref 0), some (.int (nI n0)), some (.int (nI (gC P j + (pMc (gP P j))))), some (.int (nI (j + 1)))]) dX8_go_47 rfl (nI_add _ 1) rfl ?_
            refine bf_goto r.1 (tgt := 32) dX8_go_50 (by decide) ?_
            exact ih (by omega) D261 hc261 (fr_t hf2 hf261)
        exact lo 0 (Nat.zero_le _) D hc fr_0
      · have wn := r1_h c259
        refine bf_bipush r.1 (v := -2) dX8_go_25 rfl ?_
        have ho : ox_go P S Q F T n = (-2, (P, S, Q, F, T)) := by simp only [ox_go, if_neg c257, wn, on_n, on_s]
        exact re_i r dX8_go_27 rfl rfl ⟨by rw [ho], by rw [ho]; exact ca, fr_0⟩
  · refine bf_bipush r.1 (v := -3) dX8_go_10 rfl ?_
    have ho : ox_go P S Q F T n = (-3, (P, S, Q, F, T)) := by simp only [ox_go, if_pos c257, on_n, on_s]
    exact re_i r dX8_go_12 rfl rfl ⟨by rw [ho], by rw [ho]; exact ca, fr_0⟩
theorem c_X8_first {d : Nat} (hd : 7 ≤ d) {D : bf_D} {P : bf_Pn} (hv : vP P) (hc : cP D P) (wh : Int32) : bf_Cf d mX8_first [.ref 0, .int (wh)] D (some (.int (ox_first P wh))) D := by
  refine bf_Cf_of 6 hd mo_X8_first (Nat.le_of_ble_eq_true rfl) (fun e he J r => ?_)
  show J 0 [some (.ref 0), some (.int (wh)), none, none, none, none, none, none, none] [] (bf_MD D)
  have hn4 := hv.1
  have hx4 := pX_le hv
  have hx0 := pX_pos P
  refine bf_iload_n r.1 dX8_first_0 rfl ?_
  refine bf_iconst r.1 (v := nI 3) dX8_first_1 rfl ?_
  refine cl_s r (y2 := mX8_isWithin) dX8_first_2 li_X8_50 mv_X8_isWithin [.int (wh), .int (nI 3)] [] rfl (Nat.le_of_ble_eq_true rfl) rfl (c_X8_isWithin (by omega) D _ _) ?_
  show J 5 [some (.ref 0), some (.int (wh)), none, none, none, none, none, none, none] [.int (if 0 ≤ wh ∧ wh < nI 3 then 1 else 0)] (bf_MD D)
  refine nb_ne r (tgt := 11) dX8_first_5 (by decide) (fun c262 => ?_) (fun c262 => ?_)
  · obtain ⟨wh0, hwh0, rfl⟩ := rg_in (by decide) c262
    have wwh := rg_s hwh0 (by decide)
    refine bf_aload_n r.1 dX8_first_11 rfl ?_
    refine ig_ref r (b := 2) dX8_first_12 fl_X8_20 rfl (by decide) rfl ?_
    refine cl_v r (y2 := mX2_isNone) dX8_first_15 li_X8_122 mv_X2_isNone rfl (by decide) [] [] rfl (Nat.le_of_ble_eq_true rfl) rfl (c_X2_isNone (by omega) hv hc) ?_
    show J 18 [some (.ref 0), some (.int (nI wh0)), none, none, none, none, none, none, none] [.int (if pN P = 0 then 1 else 0)] (bf_MD D)
    refine nb_eq r (tgt := 24) dX8_first_18 (by decide) (fun c263 => ?_) (fun c263 => ?_)
    · have h1n : 1 ≤ pN P := by omega
      refine bf_bipush r.1 (v := -9) dX8_first_24 rfl ?_
      refine bf_istore_n r.1 (L2 := [some (.ref 0), some (.int (nI wh0)), some (.int (-9)), none, none, none, none, none, none]) dX8_first_26 rfl ?_
      refine bf_bipush r.1 (v := -9) dX8_first_27 rfl ?_
      refine bf_istore_n r.1 (L2 := [some (.ref 0), some (.int (nI wh0)), some (.int (-9)), some (.int (-9)), none, none, none, none, none]) dX8_first_29 rfl ?_
      refine bf_bipush r.1 (v := -9) dX8_first_30 rfl ?_
      refine bf_istore r.1 (L2 := [some (.ref 0), some (.int (nI wh0)), some (.int (-9)), some (.int (-9)), some (.int (-9)), none, none, none, none]) dX8_first_32 rfl ?_
      refine bf_sipush r.1 (v := nI 1000) dX8_first_34 rfl ?_
      refine bf_istore r.1 (L2 := [some (.ref 0), some (.int (nI wh0)), some (.int (-9)), some (.int (-9)), some (.int (-9)), some (.int (nI 1000)), none, none, none]) dX8_first_37 rfl ?_
      refine bf_iconst r.1 (v := nI 0) dX8_first_39 rfl ?_
      refine bf_istore r.1 (L2 := [some (.ref 0), some (.int (nI wh0)), some (.int (-9)), some (.int (-9)), some (.int (-9)), some (.int (nI 1000)), some (.int (nI 0)), none, none]) dX8_first_40 rfl ?_
      have loop : ∀ k : Nat, k ≤ (pN P) → J 42 [some (.ref 0), some (.int (nI wh0)), some (.int ((fsO P k).1)), some (.int ((fsO P k).2.1)), some (.int ((fsO P k).2.2.1)), some (.int (nI ((fsO P k).2.2.2))), some (.int (nI k)), none, none] [] (bf_MD D) := by
        refine bf_down (fun k hle ih => ?_)
        refine bf_iload r.1 dX8_first_42 rfl ?_
        refine bf_aload_n r.1 dX8_first_44 rfl ?_
        refine ig_ref r (b := 2) dX8_first_45 fl_X8_20 rfl (by decide) rfl ?_
        refine ig_int r (v := nI (pN P)) dX8_first_48 fl_X8_75 rfl (by decide) rfl (cP_n (P := P) hc) ?_
        refine nc_ge r (tgt := 114) dX8_first_51 (by decide) (by omega) (by omega) (fun c264 => ?_) (fun c264 => ?_)
        · have ek : k = pN P := by omega
          subst ek
          refine bf_iload_n r.1 dX8_first_114 rfl ?_
          refine bf_iload_n r.1 dX8_first_115 rfl ?_
          refine bf_iload_n r.1 dX8_first_116 rfl ?_
          refine bf_iload r.1 dX8_first_117 rfl ?_
          refine cl_s r (y2 := mX8_pick) dX8_first_119 li_X8_149 mv_X8_pick [.int (nI wh0), .int ((fsO P (pN P)).1), .int ((fsO P (pN P)).2.1), .int ((fsO P (pN P)).2.2.1)] [] rfl (Nat.le_of_ble_eq_true rfl) rfl (c_X8_pick (by omega) D (nI wh0) ((fsO P (pN P)).1) ((fsO P (pN P)).2.1) ((fsO P (pN P)).2.2.1)) ?_
          show J 122 [some (.ref 0), some (.int (nI wh0)), some (.int ((fsO P (pN P)).1)), some (.int ((fsO P (pN P)).2.1)), some (.int ((fsO P (pN P)).2.2.1)), some (.int (nI ((fsO P (pN P)).2.2.2))), some (.int (nI (pN P))), none, none] [.int (if nI wh0 = 0 then (fsO P (pN P)).1 else if nI wh0 = nI 1 then (fsO P (pN P)).2.1 else (fsO P (pN P)).2.2.1)] (bf_MD D)
          exact rt_i r dX8_first_122 rfl rfl (by simp only [ox_first, wwh, if_neg c263, on_n, on_s]) rfl
        · refine bf_iconst r.1 (v := nI 0) dX8_first_54 rfl ?_
          refine bf_istore r.1 (L2 := [some (.ref 0), some (.int (nI wh0)), some (.int ((fsO P k).1)), some (.int ((fsO P k).2.1)), some (.int ((fsO P k).2.2.1)), some (.int (nI ((fsO P k).2.2.2))), some (.int (nI k)), some (.int (nI 0)), none]) dX8_first_55 rfl ?_
          have ihk := ih
          have hkn : k < pN P := c264
          have lob : ∀ b : Nat, b ≤ 7 → J 57 [some (.ref 0), some (.int (nI wh0)), some (.int ((fsI P k (fsO P k) b).1)), some (.int ((fsI P k (fsO P k) b).2.1)), some (.int ((fsI P k (fsO P k) b).2.2.1)), some (.int (nI ((fsI P k (fsO P k) b).2.2.2))), some (.int (nI k)), some (.int (nI b)), none] [] (bf_MD D) := by
            refine bf_down (fun b hle ih => ?_)
            refine bf_iload r.1 dX8_first_57 rfl ?_
            refine bf_bipush r.1 (v := nI 7) dX8_first_59 rfl ?_
            refine nc_ge r (tgt := 108) dX8_first_61 (by decide) (by omega) (by decide) (fun c265 => ?_) (fun c265 => ?_)
            · have eb : b = 7 := by omega
              subst eb
              refine na_inc r (v := k + 1) (L2 := [some (.ref 0), some (.int (nI wh0)), some (.int ((fsI P k (fsO P k) 7).1)), some (.int ((fsI P k (fsO P k) 7).2.1)), some (.int ((fsI P k (fsO P k) 7).2.2.1)), some (.int (nI ((fsI P k (fsO P k) 7).2.2.2))), some (.int (nI (k + 1))), some (.int (nI 7)), none]) dX8_first_108 rfl (nI_add _ 1) rfl ?_
              refine bf_goto r.1 (tgt := 42) dX8_first_111 (by decide) ?_
              refine bf_fgt r.1 (i := 7) (L2 := [some (.ref 0), some (.int (nI wh0)), some (.int ((fsI P k (fsO P k) 7).1)), some (.int ((fsI P k (fsO P k) 7).2.1)), some (.int ((fsI P k (fsO P k) 7).2.2.1)), some (.int (nI ((fsI P k (fsO P k) 7).2.2.2))), some (.int (nI (k + 1))), none, none]) rfl ?_
              exact ihk (by omega)
            · refine bf_aload_n r.1 dX8_first_64 rfl ?_
              refine ig_ref r (b := 2) dX8_first_65 fl_X8_20 rfl (by decide) rfl ?_
              refine bf_iload r.1 dX8_first_68 rfl ?_
              refine bf_iload r.1 dX8_first_70 rfl ?_
              refine bf_iload r.1 dX8_first_72 rfl ?_
              refine cl_v r (y2 := mX2_stepsToDeath) dX8_first_74 li_X8_162 mv_X2_stepsToDeath rfl (by decide) [.int (nI k), .int (nI b), .int (nI ((fsI P k (fsO P k) b).2.2.2))] [] rfl (Nat.le_of_ble_eq_true rfl) rfl (c_X2_stepsToDeath (by omega) hv hc hkn (by omega) (fsI_le (fsO_le k) b)) ?_
              show J 77 [some (.ref 0), some (.int (nI wh0)), some (.int ((fsI P k (fsO P k) b).1)), some (.int ((fsI P k (fsO P k) b).2.1)), some (.int ((fsI P k (fsO P k) b).2.2.1)), some (.int (nI ((fsI P k (fsO P k) b).2.2.2))), some (.int (nI k)), some (.int (nI b)), none] [.int (bf_oN (pDy P k b ((fsI P k (fsO P k) b).2.2.2)))] (bf_MD D)
              refine bf_istore r.1 (L2 := [some (.ref 0), some (.int (nI wh0)), some (.int ((fsI P k (fsO P k) b).1)), some (.int ((fsI P k (fsO P k) b).2.1)), some (.int ((fsI P k (fsO P k) b).2.2.1)), some (.int (nI ((fsI P k (fsO P k) b).2.2.2))), some (.int (nI k)), some (.int (nI b)), some (.int (bf_oN (pDy P k b ((fsI P k (fsO P k) b).2.2.2))))]) dX8_first_77 rfl ?_
              by_cases hd2 : pDy P k b (fsI P k (fsO P k) b).2.2.2 = none
              · rw [hd2]
                show J 79 [some (.ref 0), some (.int (nI wh0)), some (.int ((fsI P k (fsO P k) b).1)), some (.int ((fsI P k (fsO P k) b).2.1)), some (.int ((fsI P k (fsO P k) b).2.2.1)), some (.int (nI ((fsI P k (fsO P k) b).2.2.2))), some (.int (nI k)), some (.int (nI b)), some (.int (-9))] [] (bf_MD D)
                refine bf_iload r.1 dX8_first_79 rfl ?_
                refine bf_bipush r.1 (v := -9) dX8_first_81 rfl ?_
                refine bf_icmp_eq r.1 (tgt := 102) dX8_first_83 (by decide) (fun c266 => ?_) (fun c266 => ?_)
                · refine na_inc r (v := b + 1) (L2 := [some (.ref 0), some (.int (nI wh0)), some (.int ((fsI P k (fsO P k) b).1)), some (.int ((fsI P k (fsO P k) b).2.1)), some (.int ((fsI P k (fsO P k) b).2.2.1)), some (.int (nI ((fsI P k (fsO P k) b).2.2.2))), some (.int (nI k)), some (.int (nI (b + 1))), some (.int (-9))]) dX8_first_102 rfl (nI_add _ 1) rfl ?_
                  refine bf_goto r.1 (tgt := 57) dX8_first_105 (by decide) ?_
                  refine bf_fgt r.1 (i := 8) (L2 := [some (.ref 0), some (.int (nI wh0)), some (.int ((fsI P k (fsO P k) b).1)), some (.int ((fsI P k (fsO P k) b).2.1)), some (.int ((fsI P k (fsO P k) b).2.2.1)), some (.int (nI ((fsI P k (fsO P k) b).2.2.2))), some (.int (nI k)), some (.int (nI (b + 1))), none]) rfl ?_
                  have hi := ih (by omega)
                  have e9 : fsI P k (fsO P k) (b + 1) = fsI P k (fsO P k) b := by show fsS _ _ _ _ = _; unfold fsS; rw [hd2, on_n]
                  rw [e9] at hi
                  exact hi
                · exact absurd rfl c266
              · obtain ⟨s, hs⟩ := Option.ne_none_iff_exists'.mp hd2
                have hsb := pDy_b hs
                have hsl := fsI_le (P := P) (k := k) (fsO_le (P := P) k) b
                rw [hs]
                show J 79 [some (.ref 0), some (.int (nI wh0)), some (.int ((fsI P k (fsO P k) b).1)), some (.int ((fsI P k (fsO P k) b).2.1)), some (.int ((fsI P k (fsO P k) b).2.2.1)), some (.int (nI ((fsI P k (fsO P k) b).2.2.2))), some (.int (nI k)), some (.int (nI b)), some (.int (nI s))] [] (bf_MD D)
                refine bf_iload r.1 dX8_first_79 rfl ?_
                refine bf_bipush r.1 (v := -9) dX8_first_81 rfl ?_
                refine bf_icmp_eq r.1 (tgt := 102) dX8_first_83 (by decide) (fun c267 => ?_) (fun c267 => ?_)
                · exact absurd c267 (bf_nm9 (by omega))
                · refine bf_iload r.1 dX8_first_86 rfl ?_
                  refine bf_istore_n r.1 (L2 := [some (.ref 0), some (.int (nI wh0)), some (.int (nI k)), some (.int ((fsI P k (fsO P k) b).2.1)), some (.int ((fsI P k (fsO P k) b).2.2.1)), some (.int (nI ((fsI P k (fsO P k) b).2.2.2))), some (.int (nI k)), some (.int (nI b)), some (.int (nI s))]) dX8_first_88 rfl ?_
                  refine bf_iload r.1 dX8_first_89 rfl ?_
                  refine bf_istore_n r.1 (L2 := [some (.ref 0), some (.int (nI wh0)), some (.int (nI k)), some (.int (nI b)), some (.int ((fsI P k (fsO P k) b).2.2.1)), some (.int (nI ((fsI P k (fsO P k) b).2.2.2))), some (.int (nI k)), some (.int (nI b)), some (.int (nI s))]) dX8_first_91 rfl ?_
                  refine bf_iload r.1 dX8_first_92 rfl ?_
                  refine bf_istore r.1 (L2 := [some (.ref 0), some (.int (nI wh0)), some (.int (nI k)), some (.int (nI b)), some (.int (nI s)), some (.int (nI ((fsI P k (fsO P k) b).2.2.2))), some (.int (nI k)), some (.int (nI b)), some (.int (nI s))]) dX8_first_94 rfl ?_
                  refine bf_iload r.1 dX8_first_96 rfl ?_
                  refine bf_iconst r.1 (v := nI 1) dX8_first_98 rfl ?_
                  refine na_sub r dX8_first_99 (by omega) ?_
                  refine bf_istore r.1 (L2 := [some (.ref 0), some (.int (nI wh0)), some (.int (nI k)), some (.int (nI b)), some (.int (nI s)), some (.int (nI (s - 1))), some (.int (nI k)), some (.int (nI b)), some (.int (nI s))]) dX8_first_100 rfl ?_
                  refine na_inc r (v := b + 1) (L2 := [some (.ref 0), some (.int (nI wh0)), some (.int (nI k)), some (.int (nI b)), some (.int (nI s)), some (.int (nI (s - 1))), some (.int (nI k)), some (.int (nI (b + 1))), some (.int (nI s))]) dX8_first_102 rfl (nI_add _ 1) rfl ?_
                  refine bf_goto r.1 (tgt := 57) dX8_first_105 (by decide) ?_
                  refine bf_fgt r.1 (i := 8) (L2 := [some (.ref 0), some (.int (nI wh0)), some (.int (nI k)), some (.int (nI b)), some (.int (nI s)), some (.int (nI (s - 1))), some (.int (nI k)), some (.int (nI (b + 1))), none]) rfl ?_
                  have hi := ih (by omega)
                  have e9 : fsI P k (fsO P k) (b + 1) = (nI k, nI b, nI s, s - 1) := by show fsS _ _ _ _ = _; unfold fsS; rw [hs, on_s]
                  rw [e9] at hi
                  exact hi
          exact lob 0 (by omega)
      exact loop 0 (by omega) 
    · refine bf_bipush r.1 (v := -3) dX8_first_21 rfl ?_
      exact rt_i r dX8_first_23 rfl rfl (by simp only [ox_first, wwh, if_pos c263, on_n, on_s]) rfl
  · have wwh := rg_n c262
    refine bf_bipush r.1 (v := -2) dX8_first_8 rfl ?_
    exact rt_i r dX8_first_10 rfl rfl (by simp only [ox_first, wwh, on_n, on_s]) rfl
