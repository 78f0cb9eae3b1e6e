/-! the whole state; what the questions answer -/
def bf_rg (k : Int32) (n : Nat) : Option Nat := if 0 ≤ k ∧ k < nI n then some k.toNatClampNeg else none
theorem rg_n {k : Int32} {n : Nat} (h : ¬ (0 ≤ k ∧ k < nI n)) : bf_rg k n = none := if_neg h
theorem rg_in {n : Nat} {k : Int32} (hn : n < 2 ^ 31) (h : 0 ≤ k ∧ k < nI n) : ∃ j, j < n ∧ k = nI j := by
  obtain ⟨j, hj, rfl⟩ := nI_of (Int32.not_lt.mpr h.1)
  exact ⟨j, (nI_ltI hj hn).mp h.2, rfl⟩
theorem rg_s {j n : Nat} (h : j < n) (hn : n < 2 ^ 31) : bf_rg (nI j) n = some j := by
  unfold bf_rg
  rw [if_pos ⟨(bf_le0 (nI j)).mpr (by rw [nI_toInt (by omega)]; omega), (nI_ltI (by omega) hn).mpr h⟩]
  rw [(bf_cl_eq rfl (by omega)).1]
def bf_on {α : Type} (o : Option Nat) (e : α) (f : Nat → α) : α := match o with
  | none => e
  | some j => f j
theorem on_n {α : Type} (e : α) (f : Nat → α) : bf_on none e f = e := id rfl
theorem on_s {α : Type} (e : α) (f : Nat → α) (j : Nat) : bf_on (some j) e f = f j := id rfl
abbrev bf_St : Type := bf_Pn × bf_Sh × bf_Rd × Nat × Int32
def vA : bf_St → Prop
  | (P, S, Q, F, _) => vP P ∧ vS S ∧ vR Q P ∧ F ≤ 4
def cA (D : bf_D) : bf_St → Prop
  | (P, S, Q, F, T) => cP D P ∧ cS D S ∧ cR D Q ∧ D 0 5 = nI F ∧ D 0 6 = T
def mA (D : bf_D) : bf_St → Prop
  | (P, S, Q, F, T) => mP D P ∧ mS D S ∧ mR D Q ∧ D 37 0 = nI F ∧ D 37 27 = T
theorem fr_0 {lo hi : Nat} {D : bf_D} : bf_fr lo hi D D := fun _ _ _ => rfl
theorem fr_u {lo hi : Nat} {D D1 : bf_D} {a j : Nat} {v : Int32} (h : bf_fr lo hi D D1) (h1 : lo ≤ a) (h2 : a < hi) : bf_fr lo hi D (bf_u D1 a j v) := fun b i hb => (bf_un (Or.inl (by omega))).trans (h b i hb)
theorem fr_w {lo hi lo2 hi2 : Nat} {D D1 : bf_D} (h : bf_fr lo hi D D1) (h1 : lo2 ≤ lo) (h2 : hi ≤ hi2) : bf_fr lo2 hi2 D D1 := fun b i hb => h b i (by omega)
theorem fr_t {lo hi : Nat} {D D1 D2 : bf_D} (h : bf_fr lo hi D D1) (h2 : bf_fr lo hi D1 D2) : bf_fr lo hi D D2 := fun b i hb => (h2 b i hb).trans (h b i hb)
theorem nw_b {c : Prop} {hc : Decidable c} : narrow .boolean (.int (@ite _ c hc 1 0)) = .int (@ite _ c hc 1 0) := by
  by_cases h : c
  · rw [if_pos h]; decide
  · rw [if_neg h]; decide
theorem cP_fl {D D' : bf_D} {P : bf_Pn} {hi : Nat} (h : cP D P) (hf : bf_fr 0 hi D D') (hh : hi ≤ 2) (hn : pN P ≤ 4) : cP D' P :=
  ⟨⟨(hf _ _ (by omega)).trans (cP_n h), (hf _ _ (by omega)).trans (cP_l h), (hf _ _ (by omega)).trans (cP_s h), (hf _ _ (by omega)).trans (cP_x h)⟩, fun k hk => ⟨(hf _ _ (by omega)).trans (cP_k h hk), (hf _ _ (by omega)).trans (cP_d h hk), (hf _ _ (by omega)).trans (cP_t h hk), fun d hd => (hf _ _ (by omega)).trans (cP_b h hk hd), fun b hb => (hf _ _ (by omega)).trans (cP_w h hk hb)⟩, fun i hi => (hf _ _ (by omega)).trans (cP_lk h hi)⟩
theorem cA_5 {D : bf_D} {P : bf_Pn} {S : bf_Sh} {Q : bf_Rd} {F : Nat} {T : Int32} (hn : pN P ≤ 4) (F' : Nat) (h : cA D (P, S, Q, F, T)) : cA (bf_u D 0 5 (nI F')) (P, S, Q, F', T) := by
  obtain ⟨h1, h2, h3, h4, h5⟩ := h
  have hf : bf_fr 0 1 D (bf_u D 0 5 (nI F')) := fr_u fr_0 (by decide) (by decide)
  exact ⟨cP_fl h1 hf (by decide) hn, cS_fr h2 hf (by decide), cR_fr h3 hf (by decide), bf_us, (bf_un (by decide)).trans h5⟩
theorem cA_6 {D : bf_D} {P : bf_Pn} {S : bf_Sh} {Q : bf_Rd} {F : Nat} {T : Int32} (hn : pN P ≤ 4) (T' : Int32) (h : cA D (P, S, Q, F, T)) : cA (bf_u D 0 6 T') (P, S, Q, F, T') := by
  obtain ⟨h1, h2, h3, h4, h5⟩ := h
  have hf : bf_fr 0 1 D (bf_u D 0 6 T') := fr_u fr_0 (by decide) (by decide)
  exact ⟨cP_fl h1 hf (by decide) hn, cS_fr h2 hf (by decide), cR_fr h3 hf (by decide), (bf_un (by decide)).trans h4, bf_us⟩
theorem c_X8_isPlace {d : Nat} (hd : 2 ≤ d) {D : bf_D} {P : bf_Pn} (hv : vP P) (hc : cP D P) (k : Int32) : bf_Cf d mX8_isPlace [.ref 0, .int (k)] D (some (.int (if 0 ≤ k ∧ k < nI (pN P) then 1 else 0))) D := by
  refine bf_Cf_of 1 hd mo_X8_isPlace (Nat.le_of_ble_eq_true rfl) (fun e he J r => ?_)
  show J 0 [some (.ref 0), some (.int (k))] [] (bf_MD D)
  have hn4 := hv.1
  have hx4 := pX_le hv
  have hx0 := pX_pos P
  refine bf_iload_n r.1 dX8_isPlace_0 rfl ?_
  refine bf_aload_n r.1 dX8_isPlace_1 rfl ?_
  refine ig_ref r (b := 2) dX8_isPlace_2 fl_X8_20 rfl (by decide) rfl ?_
  refine ig_int r (v := nI (pN P)) dX8_isPlace_5 fl_X8_75 rfl (by decide) rfl (cP_n (P := P) hc) ?_
  refine cl_s r (y2 := mX8_isWithin) dX8_isPlace_8 li_X8_50 mv_X8_isWithin [.int (k), .int (nI (pN P))] [] rfl (Nat.le_of_ble_eq_true rfl) rfl (c_X8_isWithin (by omega) D _ _) ?_
  show J 11 [some (.ref 0), some (.int (k))] [.int (if 0 ≤ k ∧ k < nI (pN P) then 1 else 0)] (bf_MD D)
  exact rt_i r dX8_isPlace_11 rfl nw_b rfl rfl
def bf_oq (wh : Int32) : Bool := decide (wh = 0) || (decide (nI 10 ≤ wh) && decide (wh < nI 16))
theorem c_X8_isOrderQuestion {d : Nat} (hd : 1 ≤ d) (D : bf_D) (wh : Int32) : bf_Cf d mX8_isOrderQuestion [.int (wh)] D (some (.int (if bf_oq wh = true then 1 else 0))) D := by
  refine bf_Cf_of 0 hd mo_X8_isOrderQuestion (Nat.le_of_ble_eq_true rfl) (fun e he J r => ?_)
  show J 0 [some (.int (wh))] [] (bf_MD D)
  refine bf_iload_n r.1 dX8_isOrderQuestion_0 rfl ?_
  refine bf_if_eq r.1 (tgt := 16) dX8_isOrderQuestion_1 (by decide) (fun c158 => ?_) (fun c158 => ?_)
  · refine bf_iconst r.1 (v := nI 1) dX8_isOrderQuestion_16 rfl ?_
    refine bf_goto r.1 (tgt := 21) dX8_isOrderQuestion_17 (by decide) ?_
    exact rt_i r dX8_isOrderQuestion_21 rfl (by decide) (if_pos (by unfold bf_oq; rw [decide_eq_true c158]; rfl)).symm rfl
  · refine bf_bipush r.1 (v := nI 10) dX8_isOrderQuestion_4 rfl ?_
    refine bf_iload_n r.1 dX8_isOrderQuestion_6 rfl ?_
    refine bf_icmp_gt r.1 (tgt := 20) dX8_isOrderQuestion_7 (by decide) (fun c159 => ?_) (fun c159 => ?_)
    · refine bf_iconst r.1 (v := nI 0) dX8_isOrderQuestion_20 rfl ?_
      exact rt_i r dX8_isOrderQuestion_21 rfl (by decide) (if_neg (by unfold bf_oq; rw [decide_eq_false c158, decide_eq_false (Int32.not_le.mpr c159), Bool.false_and]; decide)).symm rfl
    · refine bf_iload_n r.1 dX8_isOrderQuestion_10 rfl ?_
      refine bf_bipush r.1 (v := nI 16) dX8_isOrderQuestion_11 rfl ?_
      refine bf_icmp_ge r.1 (tgt := 20) dX8_isOrderQuestion_13 (by decide) (fun c160 => ?_) (fun c160 => ?_)
      · refine bf_iconst r.1 (v := nI 0) dX8_isOrderQuestion_20 rfl ?_
        exact rt_i r dX8_isOrderQuestion_21 rfl (by decide) (if_neg (by unfold bf_oq; rw [decide_eq_false c158, decide_eq_false (Int32.not_lt.mpr c160), Bool.and_false]; decide)).symm rfl
      · refine bf_iconst r.1 (v := nI 1) dX8_isOrderQuestion_16 rfl ?_
        refine bf_goto r.1 (tgt := 21) dX8_isOrderQuestion_17 (by decide) ?_
        exact rt_i r dX8_isOrderQuestion_21 rfl (by decide) (if_pos (by unfold bf_oq; rw [decide_eq_true (Int32.not_lt.mp c159), decide_eq_true (Int32.not_le.mp c160), Bool.and_self, Bool.or_true])).symm rfl
theorem c_X8_faulted {d : Nat} (hd : 1 ≤ d) (D : bf_D) (x : Nat) : bf_Cf d mX8_faulted [.ref 0, .int (nI x)] D (some (.int (-10 - nI x))) (bf_u D 0 5 (nI x)) := by
  refine bf_Cf_of 0 hd mo_X8_faulted (Nat.le_of_ble_eq_true rfl) (fun e he J r => ?_)
  show J 0 [some (.ref 0), some (.int (nI x))] [] (bf_MD D)
  refine bf_aload_n r.1 dX8_faulted_0 rfl ?_
  refine bf_iload_n r.1 dX8_faulted_1 rfl ?_
  refine ip_int r dX8_faulted_2 fp_X8_46 rfl (by decide) rfl ?_
  refine bf_bipush r.1 (v := -10) dX8_faulted_5 rfl ?_
  refine bf_iload_n r.1 dX8_faulted_7 rfl ?_
  refine bf_isub r.1 dX8_faulted_8 ?_
  exact rt_i r dX8_faulted_9 rfl rfl rfl rfl
theorem c_X8_leave {d : Nat} (hd : 1 ≤ d) {D : bf_D} {T : Int32} (c6 : D 0 6 = T) (x : Nat) : bf_Cf d mX8_leave [.ref 0, .int (nI x)] D none (bf_u D 0 6 (nI 31 * T + nI x)) := by
  refine bf_Cf_of 0 hd mo_X8_leave (Nat.le_of_ble_eq_true rfl) (fun e he J r => ?_)
  show J 0 [some (.ref 0), some (.int (nI x))] [] (bf_MD D)
  refine bf_aload_n r.1 dX8_leave_0 rfl ?_
  refine bf_bipush r.1 (v := nI 31) dX8_leave_1 rfl ?_
  refine bf_aload_n r.1 dX8_leave_3 rfl ?_
  refine ig_int r (v := T) dX8_leave_4 fl_X8_247 rfl (by decide) rfl c6 ?_
  refine bf_imul r.1 dX8_leave_7 ?_
  refine bf_iload_n r.1 dX8_leave_8 rfl ?_
  refine bf_iadd r.1 dX8_leave_9 ?_
  refine ip_int r dX8_leave_10 fp_X8_247 rfl (by decide) rfl ?_
  exact rt_v r dX8_leave_13 rfl rfl
def ox_ofPlace (P : bf_Pn) (k wh : Int32) : Int32 := bf_on (bf_rg k (pN P)) (-1) fun k => if wh = nI 0 then nI (pK P k) else if wh = nI 1 then nI (pD P k) else if wh = nI 2 then nI (pT P k) else if wh = nI 3 then nI (pU P k) else if wh = nI 4 then nI (pB P k (pG P (pS P) k)) else -2
def ox_wear (P : bf_Pn) (k b : Int32) : Int32 := bf_on (bf_rg k (pN P)) (-1) fun k => bf_on (bf_rg b 7) (-1) fun b => nI (pW P k b)
def ox_burns (P : bf_Pn) (k x : Int32) : Int32 := bf_on (bf_rg k (pN P)) (-1) fun k => bf_on (bf_rg x 10) (-2) fun x => nI (pB P k x)
def ox_digits (P : bf_Pn) (k x : Int32) : Int32 := bf_on (bf_rg k (pN P)) (-1) fun k => bf_on (bf_rg x 128) (-2) fun x => nI (pM P k x)
def ox_bars (P : bf_Pn) (v : Int32) : Int32 := if pN P = 0 then -3 else bf_on (bf_rg v (pX P)) (-2) fun v => nI (pBr P v)
def ox_alike (P : bf_Pn) (v : Int32) : Int32 := if pN P = 0 then -3 else bf_on (bf_rg v (pX P)) (-2) fun v => nI (pA P v)
def ox_which (P : bf_Pn) (v i : Int32) : Int32 := if pN P = 0 then -3 else bf_on (bf_rg v (pX P)) (-2) fun v => bf_on (bf_rg i 10000) (-2) fun i => bf_oN (pNa P v (pN P) 0 1 i)
def ox_flips (P : bf_Pn) (u v : Int32) : Int32 := if pN P = 0 then -3 else bf_on (bf_rg u (pX P)) (-2) fun u => bf_on (bf_rg v (pX P)) (-2) fun v => nI (pF P u v)
def ox_pictures (P : bf_Pn) : Int32 := if pN P = 0 then -3 else nI (bf_pr (pU P) (pN P))
def pDy (P : bf_Pn) (k b lim : Nat) : Option Nat := if (pD P k ||| pT P k) / 2 ^ b &&& 1 = 0 then pSd P k b lim 1 (pW P k b) (pS P) else none
def ox_dies (P : bf_Pn) (k b : Int32) : Int32 := bf_on (bf_rg k (pN P)) (-1) fun k => bf_on (bf_rg b 7) (-1) fun b => bf_oN (pDy P k b 1000)
def ox_repair (P : bf_Pn) (k : Int32) : Int32 := bf_on (bf_rg k (pN P)) (-1) fun k => bf_oN (pRp P k 128)
def ox_many (P : bf_Pn) (Q : bf_Rd) (wh : Int32) : Int32 := if wh = nI 0 then nI (pN P) else if wh = nI 1 then nI (pL P) else if wh = nI 2 then nI (pS P) else if wh = nI 3 then nI (pDd P) else if wh = nI 4 then nI (rN Q) else -2
theorem c_X8_ofPlace {d : Nat} (hd : 4 ≤ d) {D : bf_D} {P : bf_Pn} (hv : vP P) (hc : cP D P) (k wh : Int32) : bf_Cf d mX8_ofPlace [.ref 0, .int (k), .int (wh)] D (some (.int (ox_ofPlace P k wh))) D := by
  refine bf_Cf_of 3 hd mo_X8_ofPlace (Nat.le_of_ble_eq_true rfl) (fun e he J r => ?_)
  show J 0 [some (.ref 0), some (.int (k)), some (.int (wh)), none] [] (bf_MD D)
  have hn4 := hv.1
  have hx4 := pX_le hv
  have hx0 := pX_pos P
  refine bf_aload_n r.1 dX8_ofPlace_0 rfl ?_
  refine bf_iload_n r.1 dX8_ofPlace_1 rfl ?_
  refine cl_v r (y2 := mX8_isPlace) dX8_ofPlace_2 li_X8_76 mv_X8_isPlace rfl (by decide) [.int (k)] [] rfl (Nat.le_of_ble_eq_true rfl) rfl (c_X8_isPlace (by omega) hv hc _) ?_
  show J 5 [some (.ref 0), some (.int (k)), some (.int (wh)), none] [.int (if 0 ≤ k ∧ k < nI (pN P) then 1 else 0)] (bf_MD D)
  refine nb_ne r (tgt := 10) dX8_ofPlace_5 (by decide) (fun c161 => ?_) (fun c161 => ?_)
  · obtain ⟨k0, hk0, rfl⟩ := rg_in (by omega) c161
    have wk := rg_s hk0 (by omega)
    refine bf_aload_n r.1 dX8_ofPlace_10 rfl ?_
    refine ig_ref r (b := 2) dX8_ofPlace_11 fl_X8_20 rfl (by decide) rfl ?_
    refine ig_ref r (b := 3) dX8_ofPlace_14 fl_X8_80 rfl (by decide) rfl ?_
    refine bf_iload_n r.1 dX8_ofPlace_17 rfl ?_
    refine aa_ld r (n := 4) (b := 6 + 3 * k0) dX8_ofPlace_18 (by decide) rfl (by decide) (Nat.lt_of_lt_of_le hk0 hn4) (ad_a3 (Nat.lt_of_lt_of_le hk0 hn4)) ?_
    refine bf_astore_n r.1 (L2 := [some (.ref 0), some (.int (nI k0)), some (.int (wh)), some (.ref (6 + 3 * k0))]) dX8_ofPlace_19 rfl ?_
    refine bf_iload_n r.1 dX8_ofPlace_20 rfl ?_
    by_cases c162 : wh = nI 0
    · refine bf_tabIn r.1 (off := 35) (tgt := 56) dX8_ofPlace_21 (by rw [c162]; decide) (by rw [c162]; decide) (by rw [c162]; rfl) (by decide) ?_
      refine bf_aload_n r.1 dX8_ofPlace_56 rfl ?_
      refine ig_int r (v := nI (pK P k0)) dX8_ofPlace_57 fl_X8_84 (ad_c6 (Nat.lt_of_lt_of_le hk0 hn4)) (ad_l6 (Nat.lt_of_lt_of_le hk0 hn4)) (ad_i6 (Nat.lt_of_lt_of_le hk0 hn4) 3 (by decide)) (cP_k (P := P) hc hk0) ?_
      exact rt_i r dX8_ofPlace_60 rfl rfl (by simp only [ox_ofPlace, wk, if_pos c162, on_n, on_s]) rfl
    · by_cases c163 : wh = nI 1
      · refine bf_tabIn r.1 (off := 40) (tgt := 61) dX8_ofPlace_21 (by rw [c163]; decide) (by rw [c163]; decide) (by rw [c163]; rfl) (by decide) ?_
        refine bf_aload_n r.1 dX8_ofPlace_61 rfl ?_
        refine ig_int r (v := nI (pD P k0)) dX8_ofPlace_62 fl_X8_89 (ad_c6 (Nat.lt_of_lt_of_le hk0 hn4)) (ad_l6 (Nat.lt_of_lt_of_le hk0 hn4)) (ad_i6 (Nat.lt_of_lt_of_le hk0 hn4) 4 (by decide)) (cP_d (P := P) hc hk0) ?_
        exact rt_i r dX8_ofPlace_65 rfl rfl (by simp only [ox_ofPlace, wk, if_neg c162, if_pos c163, on_n, on_s]) rfl
      · by_cases c164 : wh = nI 2
        · refine bf_tabIn r.1 (off := 45) (tgt := 66) dX8_ofPlace_21 (by rw [c164]; decide) (by rw [c164]; decide) (by rw [c164]; rfl) (by decide) ?_
          refine bf_aload_n r.1 dX8_ofPlace_66 rfl ?_
          refine ig_int r (v := nI (pT P k0)) dX8_ofPlace_67 fl_X8_92 (ad_c6 (Nat.lt_of_lt_of_le hk0 hn4)) (ad_l6 (Nat.lt_of_lt_of_le hk0 hn4)) (ad_i6 (Nat.lt_of_lt_of_le hk0 hn4) 5 (by decide)) (cP_t (P := P) hc hk0) ?_
          exact rt_i r dX8_ofPlace_70 rfl rfl (by simp only [ox_ofPlace, wk, if_neg c162, if_neg c163, if_pos c164, on_n, on_s]) rfl
        · by_cases c165 : wh = nI 3
          · refine bf_tabIn r.1 (off := 50) (tgt := 71) dX8_ofPlace_21 (by rw [c165]; decide) (by rw [c165]; decide) (by rw [c165]; rfl) (by decide) ?_
            refine bf_aload_n r.1 dX8_ofPlace_71 rfl ?_
            refine cl_v r (y2 := mX3_unlikeSets) dX8_ofPlace_72 li_X8_95 mv_X3_unlikeSets (ad_c6 (Nat.lt_of_lt_of_le hk0 hn4)) (ad_l6 (Nat.lt_of_lt_of_le hk0 hn4)) [] [] rfl (Nat.le_of_ble_eq_true rfl) rfl (c_X3_unlikeSets (by omega) hv hc hk0) ?_
            show J 75 [some (.ref 0), some (.int (nI k0)), some (.int (wh)), some (.ref (6 + 3 * k0))] [.int (nI (pU P k0))] (bf_MD D)
            exact rt_i r dX8_ofPlace_75 rfl rfl (by simp only [ox_ofPlace, wk, if_neg c162, if_neg c163, if_neg c164, if_pos c165, on_n, on_s]) rfl
          · by_cases c166 : wh = nI 4
            · refine bf_tabIn r.1 (off := 55) (tgt := 76) dX8_ofPlace_21 (by rw [c166]; decide) (by rw [c166]; decide) (by rw [c166]; rfl) (by decide) ?_
              refine bf_aload_n r.1 dX8_ofPlace_76 rfl ?_
              refine bf_aload_n r.1 dX8_ofPlace_77 rfl ?_
              refine ig_ref r (b := 2) dX8_ofPlace_78 fl_X8_20 rfl (by decide) rfl ?_
              refine bf_aload_n r.1 dX8_ofPlace_81 rfl ?_
              refine ig_ref r (b := 2) dX8_ofPlace_82 fl_X8_20 rfl (by decide) rfl ?_
              refine ig_int r (v := nI (pS P)) dX8_ofPlace_85 fl_X8_99 rfl (by decide) rfl (cP_s (P := P) hc) ?_
              refine bf_iload_n r.1 dX8_ofPlace_88 rfl ?_
              refine cl_v r (y2 := mX2_digitOf) dX8_ofPlace_89 li_X8_102 mv_X2_digitOf rfl (by decide) [.int (nI (pS P)), .int (nI k0)] [.ref (6 + 3 * k0)] rfl (Nat.le_of_ble_eq_true rfl) rfl (c_X2_digitOf (by omega) hv hc (by have := hv.2.2.2.1; omega) hk0) ?_
              show J 92 [some (.ref 0), some (.int (nI k0)), some (.int (wh)), some (.ref (6 + 3 * k0))] [.int (nI (pG P (pS P) k0)), .ref (6 + 3 * k0)] (bf_MD D)
              refine cl_v r (y2 := mX3_lit) dX8_ofPlace_92 li_X8_106 mv_X3_lit (ad_c6 (Nat.lt_of_lt_of_le hk0 hn4)) (ad_l6 (Nat.lt_of_lt_of_le hk0 hn4)) [.int (nI (pG P (pS P) k0))] [] rfl (Nat.le_of_ble_eq_true rfl) rfl (c_X3_lit (by omega) hv hc hk0 (pG_lt P _ _)) ?_
              show J 95 [some (.ref 0), some (.int (nI k0)), some (.int (wh)), some (.ref (6 + 3 * k0))] [.int (nI (pB P k0 (pG P (pS P) k0)))] (bf_MD D)
              exact rt_i r dX8_ofPlace_95 rfl rfl (by simp only [ox_ofPlace, wk, if_neg c162, if_neg c163, if_neg c164, if_neg c165, if_pos c166, on_n, on_s]) rfl
            · refine bf_tabOut r.1 (tgt := 96) dX8_ofPlace_21 (by have q0 := lv_neT c162 (a := 0) (by decide); have q1 := lv_neT c163 (a := 1) (by decide); have q2 := lv_neT c164 (a := 2) (by decide); have q3 := lv_neT c165 (a := 3) (by decide); have q4 := lv_neT c166 (a := 4) (by decide); omega) (by decide) ?_
              refine bf_bipush r.1 (v := -2) dX8_ofPlace_96 rfl ?_
              exact rt_i r dX8_ofPlace_98 rfl rfl (by simp only [ox_ofPlace, wk, if_neg c162, if_neg c163, if_neg c164, if_neg c165, if_neg c166, on_n, on_s]) rfl
  · have wk := rg_n c161
    refine bf_iconst r.1 (v := -1) dX8_ofPlace_8 rfl ?_
    exact rt_i r dX8_ofPlace_9 rfl rfl (by simp only [ox_ofPlace, wk, on_n, on_s]) rfl
theorem c_X8_wear {d : Nat} (hd : 4 ≤ d) {D : bf_D} {P : bf_Pn} (hv : vP P) (hc : cP D P) (k b : Int32) : bf_Cf d mX8_wear [.ref 0, .int (k), .int (b)] D (some (.int (ox_wear P k b))) D := by
  refine bf_Cf_of 3 hd mo_X8_wear (Nat.le_of_ble_eq_true rfl) (fun e he J r => ?_)
  show J 0 [some (.ref 0), some (.int (k)), some (.int (b))] [] (bf_MD D)
  have hn4 := hv.1
  have hx4 := pX_le hv
  have hx0 := pX_pos P
  refine bf_aload_n r.1 dX8_wear_0 rfl ?_
  refine bf_iload_n r.1 dX8_wear_1 rfl ?_
  refine cl_v r (y2 := mX8_isPlace) dX8_wear_2 li_X8_76 mv_X8_isPlace rfl (by decide) [.int (k)] [] rfl (Nat.le_of_ble_eq_true rfl) rfl (c_X8_isPlace (by omega) hv hc _) ?_
  show J 5 [some (.ref 0), some (.int (k)), some (.int (b))] [.int (if 0 ≤ k ∧ k < nI (pN P) then 1 else 0)] (bf_MD D)
  refine nb_eq r (tgt := 34) dX8_wear_5 (by decide) (fun c167 => ?_) (fun c167 => ?_)
  · have wk := rg_n c167
    refine bf_iconst r.1 (v := -1) dX8_wear_34 rfl ?_
    exact rt_i r dX8_wear_35 rfl rfl (by simp only [ox_wear, wk, on_n, on_s]) rfl
  · obtain ⟨k0, hk0, rfl⟩ := rg_in (by omega) c167
    have wk := rg_s hk0 (by omega)
    refine bf_iload_n r.1 dX8_wear_8 rfl ?_
    refine bf_bipush r.1 (v := nI 7) dX8_wear_9 rfl ?_
    refine cl_s r (y2 := mX8_isWithin) dX8_wear_11 li_X8_50 mv_X8_isWithin [.int (b), .int (nI 7)] [] rfl (Nat.le_of_ble_eq_true rfl) rfl (c_X8_isWithin (by omega) D _ _) ?_
    show J 14 [some (.ref 0), some (.int (nI k0)), some (.int (b))] [.int (if 0 ≤ b ∧ b < nI 7 then 1 else 0)] (bf_MD D)
    refine nb_eq r (tgt := 34) dX8_wear_14 (by decide) (fun c168 => ?_) (fun c168 => ?_)
    · have wb := rg_n c168
      refine bf_iconst r.1 (v := -1) dX8_wear_34 rfl ?_
      exact rt_i r dX8_wear_35 rfl rfl (by simp only [ox_wear, wk, wb, on_n, on_s]) rfl
    · obtain ⟨b0, hb0, rfl⟩ := rg_in (by decide) c168
      have wb := rg_s hb0 (by decide)
      refine bf_aload_n r.1 dX8_wear_17 rfl ?_
      refine ig_ref r (b := 2) dX8_wear_18 fl_X8_20 rfl (by decide) rfl ?_
      refine ig_ref r (b := 3) dX8_wear_21 fl_X8_80 rfl (by decide) rfl ?_
      refine bf_iload_n r.1 dX8_wear_24 rfl ?_
      refine aa_ld r (n := 4) (b := 6 + 3 * k0) dX8_wear_25 (by decide) rfl (by decide) (Nat.lt_of_lt_of_le hk0 hn4) (ad_a3 (Nat.lt_of_lt_of_le hk0 hn4)) ?_
      refine ig_ref r (b := (8 + 3 * k0)) dX8_wear_26 fl_X8_109 (ad_c6 (Nat.lt_of_lt_of_le hk0 hn4)) (ad_l6 (Nat.lt_of_lt_of_le hk0 hn4)) (ad_r6_2 (Nat.lt_of_lt_of_le hk0 hn4)) ?_
      refine bf_iload_n r.1 dX8_wear_29 rfl ?_
      refine ia_ld r (n := 7) (v := nI (pW P k0 b0)) dX8_wear_30 (ad_k8 (Nat.lt_of_lt_of_le hk0 hn4)) (ad_l8 (Nat.lt_of_lt_of_le hk0 hn4)) hb0 (cP_w (P := P) hc hk0 hb0) ?_
      refine bf_goto r.1 (tgt := 35) dX8_wear_31 (by decide) ?_
      exact rt_i r dX8_wear_35 rfl rfl (by simp only [ox_wear, wk, wb, on_n, on_s]) rfl
theorem c_X8_burns {d : Nat} (hd : 4 ≤ d) {D : bf_D} {P : bf_Pn} (hv : vP P) (hc : cP D P) (k x : Int32) : bf_Cf d mX8_burns [.ref 0, .int (k), .int (x)] D (some (.int (ox_burns P k x))) D := by
  refine bf_Cf_of 3 hd mo_X8_burns (Nat.le_of_ble_eq_true rfl) (fun e he J r => ?_)
  show J 0 [some (.ref 0), some (.int (k)), some (.int (x))] [] (bf_MD D)
  have hn4 := hv.1
  have hx4 := pX_le hv
  have hx0 := pX_pos P
  refine bf_aload_n r.1 dX8_burns_0 rfl ?_
  refine bf_iload_n r.1 dX8_burns_1 rfl ?_
  refine cl_v r (y2 := mX8_isPlace) dX8_burns_2 li_X8_76 mv_X8_isPlace rfl (by decide) [.int (k)] [] rfl (Nat.le_of_ble_eq_true rfl) rfl (c_X8_isPlace (by omega) hv hc _) ?_
  show J 5 [some (.ref 0), some (.int (k)), some (.int (x))] [.int (if 0 ≤ k ∧ k < nI (pN P) then 1 else 0)] (bf_MD D)
  refine nb_ne r (tgt := 10) dX8_burns_5 (by decide) (fun c169 => ?_) (fun c169 => ?_)
  · obtain ⟨k0, hk0, rfl⟩ := rg_in (by omega) c169
    have wk := rg_s hk0 (by omega)
    refine bf_iload_n r.1 dX8_burns_10 rfl ?_
    refine bf_bipush r.1 (v := nI 10) dX8_burns_11 rfl ?_
    refine cl_s r (y2 := mX8_isWithin) dX8_burns_13 li_X8_50 mv_X8_isWithin [.int (x), .int (nI 10)] [] rfl (Nat.le_of_ble_eq_true rfl) rfl (c_X8_isWithin (by omega) D _ _) ?_
    show J 16 [some (.ref 0), some (.int (nI k0)), some (.int (x))] [.int (if 0 ≤ x ∧ x < nI 10 then 1 else 0)] (bf_MD D)
    refine nb_eq r (tgt := 35) dX8_burns_16 (by decide) (fun c170 => ?_) (fun c170 => ?_)
    · have wx := rg_n c170
      refine bf_bipush r.1 (v := -2) dX8_burns_35 rfl ?_
      exact rt_i r dX8_burns_37 rfl rfl (by simp only [ox_burns, wk, wx, on_n, on_s]) rfl
    · obtain ⟨x0, hx0, rfl⟩ := rg_in (by decide) c170
      have wx := rg_s hx0 (by decide)
      refine bf_aload_n r.1 dX8_burns_19 rfl ?_
      refine ig_ref r (b := 2) dX8_burns_20 fl_X8_20 rfl (by decide) rfl ?_
      refine ig_ref r (b := 3) dX8_burns_23 fl_X8_80 rfl (by decide) rfl ?_
      refine bf_iload_n r.1 dX8_burns_26 rfl ?_
      refine aa_ld r (n := 4) (b := 6 + 3 * k0) dX8_burns_27 (by decide) rfl (by decide) (Nat.lt_of_lt_of_le hk0 hn4) (ad_a3 (Nat.lt_of_lt_of_le hk0 hn4)) ?_
      refine bf_iload_n r.1 dX8_burns_28 rfl ?_
      refine cl_v r (y2 := mX3_lit) dX8_burns_29 li_X8_106 mv_X3_lit (ad_c6 (Nat.lt_of_lt_of_le hk0 hn4)) (ad_l6 (Nat.lt_of_lt_of_le hk0 hn4)) [.int (nI x0)] [] rfl (Nat.le_of_ble_eq_true rfl) rfl (c_X3_lit (by omega) hv hc hk0 hx0) ?_
      show J 32 [some (.ref 0), some (.int (nI k0)), some (.int (nI x0))] [.int (nI (pB P k0 x0))] (bf_MD D)
      refine bf_goto r.1 (tgt := 37) dX8_burns_32 (by decide) ?_
      exact rt_i r dX8_burns_37 rfl rfl (by simp only [ox_burns, wk, wx, on_n, on_s]) rfl
  · have wk := rg_n c169
    refine bf_iconst r.1 (v := -1) dX8_burns_8 rfl ?_
    exact rt_i r dX8_burns_9 rfl rfl (by simp only [ox_burns, wk, on_n, on_s]) rfl
theorem c_X8_digits {d : Nat} (hd : 4 ≤ d) {D : bf_D} {P : bf_Pn} (hv : vP P) (hc : cP D P) (k x : Int32) : bf_Cf d mX8_digits [.ref 0, .int (k), .int (x)] D (some (.int (ox_digits P k x))) D := by
  refine bf_Cf_of 3 hd mo_X8_digits (Nat.le_of_ble_eq_true rfl) (fun e he J r => ?_)
  show J 0 [some (.ref 0), some (.int (k)), some (.int (x))] [] (bf_MD D)
  have hn4 := hv.1
  have hx4 := pX_le hv
  have hx0 := pX_pos P
  refine bf_aload_n r.1 dX8_digits_0 rfl ?_
  refine bf_iload_n r.1 dX8_digits_1 rfl ?_
  refine cl_v r (y2 := mX8_isPlace) dX8_digits_2 li_X8_76 mv_X8_isPlace rfl (by decide) [.int (k)] [] rfl (Nat.le_of_ble_eq_true rfl) rfl (c_X8_isPlace (by omega) hv hc _) ?_
  show J 5 [some (.ref 0), some (.int (k)), some (.int (x))] [.int (if 0 ≤ k ∧ k < nI (pN P) then 1 else 0)] (bf_MD D)
  refine nb_ne r (tgt := 10) dX8_digits_5 (by decide) (fun c171 => ?_) (fun c171 => ?_)
  · obtain ⟨k0, hk0, rfl⟩ := rg_in (by omega) c171
    have wk := rg_s hk0 (by omega)
    refine bf_iload_n r.1 dX8_digits_10 rfl ?_
    refine bf_sipush r.1 (v := nI 128) dX8_digits_11 rfl ?_
    refine cl_s r (y2 := mX8_isWithin) dX8_digits_14 li_X8_50 mv_X8_isWithin [.int (x), .int (nI 128)] [] rfl (Nat.le_of_ble_eq_true rfl) rfl (c_X8_isWithin (by omega) D _ _) ?_
    show J 17 [some (.ref 0), some (.int (nI k0)), some (.int (x))] [.int (if 0 ≤ x ∧ x < nI 128 then 1 else 0)] (bf_MD D)
    refine nb_eq r (tgt := 36) dX8_digits_17 (by decide) (fun c172 => ?_) (fun c172 => ?_)
    · have wx := rg_n c172
      refine bf_bipush r.1 (v := -2) dX8_digits_36 rfl ?_
      exact rt_i r dX8_digits_38 rfl rfl (by simp only [ox_digits, wk, wx, on_n, on_s]) rfl
    · obtain ⟨x0, hx0, rfl⟩ := rg_in (by decide) c172
      have wx := rg_s hx0 (by decide)
      refine bf_aload_n r.1 dX8_digits_20 rfl ?_
      refine ig_ref r (b := 2) dX8_digits_21 fl_X8_20 rfl (by decide) rfl ?_
      refine ig_ref r (b := 3) dX8_digits_24 fl_X8_80 rfl (by decide) rfl ?_
      refine bf_iload_n r.1 dX8_digits_27 rfl ?_
      refine aa_ld r (n := 4) (b := 6 + 3 * k0) dX8_digits_28 (by decide) rfl (by decide) (Nat.lt_of_lt_of_le hk0 hn4) (ad_a3 (Nat.lt_of_lt_of_le hk0 hn4)) ?_
      refine bf_iload_n r.1 dX8_digits_29 rfl ?_
      refine cl_v r (y2 := mX3_digitsOf) dX8_digits_30 li_X8_119 mv_X3_digitsOf (ad_c6 (Nat.lt_of_lt_of_le hk0 hn4)) (ad_l6 (Nat.lt_of_lt_of_le hk0 hn4)) [.int (nI x0)] [] rfl (Nat.le_of_ble_eq_true rfl) rfl (c_X3_digitsOf (by omega) hv hc hk0 (by omega)) ?_
      show J 33 [some (.ref 0), some (.int (nI k0)), some (.int (nI x0))] [.int (nI (pM P k0 x0))] (bf_MD D)
      refine bf_goto r.1 (tgt := 38) dX8_digits_33 (by decide) ?_
      exact rt_i r dX8_digits_38 rfl rfl (by simp only [ox_digits, wk, wx, on_n, on_s]) rfl
  · have wk := rg_n c171
    refine bf_iconst r.1 (v := -1) dX8_digits_8 rfl ?_
    exact rt_i r dX8_digits_9 rfl rfl (by simp only [ox_digits, wk, on_n, on_s]) rfl
theorem c_X8_bars {d : Nat} (hd : 5 ≤ d) {D : bf_D} {P : bf_Pn} (hv : vP P) (hc : cP D P) (v : Int32) : bf_Cf d mX8_bars [.ref 0, .int (v)] D (some (.int (ox_bars P v))) D := by
  refine bf_Cf_of 4 hd mo_X8_bars (Nat.le_of_ble_eq_true rfl) (fun e he J r => ?_)
  show J 0 [some (.ref 0), some (.int (v))] [] (bf_MD D)
  have hn4 := hv.1
  have hx4 := pX_le hv
  have hx0 := pX_pos P
  refine bf_aload_n r.1 dX8_bars_0 rfl ?_
  refine ig_ref r (b := 2) dX8_bars_1 fl_X8_20 rfl (by decide) rfl ?_
  refine cl_v r (y2 := mX2_isNone) dX8_bars_4 li_X8_122 mv_X2_isNone rfl (by decide) [] [] rfl (Nat.le_of_ble_eq_true rfl) rfl (c_X2_isNone (by omega) hv hc) ?_
  show J 7 [some (.ref 0), some (.int (v))] [.int (if pN P = 0 then 1 else 0)] (bf_MD D)
  refine nb_eq r (tgt := 13) dX8_bars_7 (by decide) (fun c173 => ?_) (fun c173 => ?_)
  · have h1n : 1 ≤ pN P := by omega
    refine bf_aload_n r.1 dX8_bars_13 rfl ?_
    refine ig_ref r (b := 2) dX8_bars_14 fl_X8_20 rfl (by decide) rfl ?_
    refine bf_iload_n r.1 dX8_bars_17 rfl ?_
    refine cl_v r (y2 := mX2_isNumber) dX8_bars_18 li_X8_126 mv_X2_isNumber rfl (by decide) [.int (v)] [] rfl (Nat.le_of_ble_eq_true rfl) rfl (c_X2_isNumber (by omega) hv hc _) ?_
    show J 21 [some (.ref 0), some (.int (v))] [.int (if 0 ≤ v ∧ v < nI (pX P) then 1 else 0)] (bf_MD D)
    refine nb_eq r (tgt := 35) dX8_bars_21 (by decide) (fun c174 => ?_) (fun c174 => ?_)
    · have wv := rg_n c174
      refine bf_bipush r.1 (v := -2) dX8_bars_35 rfl ?_
      exact rt_i r dX8_bars_37 rfl rfl (by simp only [ox_bars, if_neg c173, wv, on_n, on_s]) rfl
    · obtain ⟨v0, hv0, rfl⟩ := rg_in (by omega) c174
      have wv := rg_s hv0 (by omega)
      refine bf_aload_n r.1 dX8_bars_24 rfl ?_
      refine ig_ref r (b := 2) dX8_bars_25 fl_X8_20 rfl (by decide) rfl ?_
      refine bf_iload_n r.1 dX8_bars_28 rfl ?_
      refine cl_v r (y2 := mX2_litBars) dX8_bars_29 li_X8_129 mv_X2_litBars rfl (by decide) [.int (nI v0)] [] rfl (Nat.le_of_ble_eq_true rfl) rfl (c_X2_litBars (by omega) hv hc (by omega)) ?_
      show J 32 [some (.ref 0), some (.int (nI v0))] [.int (nI (pBr P v0))] (bf_MD D)
      refine bf_goto r.1 (tgt := 37) dX8_bars_32 (by decide) ?_
      exact rt_i r dX8_bars_37 rfl rfl (by simp only [ox_bars, if_neg c173, wv, on_n, on_s]) rfl
  · refine bf_bipush r.1 (v := -3) dX8_bars_10 rfl ?_
    exact rt_i r dX8_bars_12 rfl rfl (by simp only [ox_bars, if_pos c173, on_n, on_s]) rfl
theorem c_X8_alike {d : Nat} (hd : 6 ≤ d) {D : bf_D} {P : bf_Pn} (hv : vP P) (hc : cP D P) (v : Int32) : bf_Cf d mX8_alike [.ref 0, .int (v)] D (some (.int (ox_alike P v))) D := by
  refine bf_Cf_of 5 hd mo_X8_alike (Nat.le_of_ble_eq_true rfl) (fun e he J r => ?_)
  show J 0 [some (.ref 0), some (.int (v))] [] (bf_MD D)
  have hn4 := hv.1
  have hx4 := pX_le hv
  have hx0 := pX_pos P
  refine bf_aload_n r.1 dX8_alike_0 rfl ?_
  refine ig_ref r (b := 2) dX8_alike_1 fl_X8_20 rfl (by decide) rfl ?_
  refine cl_v r (y2 := mX2_isNone) dX8_alike_4 li_X8_122 mv_X2_isNone rfl (by decide) [] [] rfl (Nat.le_of_ble_eq_true rfl) rfl (c_X2_isNone (by omega) hv hc) ?_
  show J 7 [some (.ref 0), some (.int (v))] [.int (if pN P = 0 then 1 else 0)] (bf_MD D)
  refine nb_eq r (tgt := 13) dX8_alike_7 (by decide) (fun c175 => ?_) (fun c175 => ?_)
  · have h1n : 1 ≤ pN P := by omega
    refine bf_aload_n r.1 dX8_alike_13 rfl ?_
    refine ig_ref r (b := 2) dX8_alike_14 fl_X8_20 rfl (by decide) rfl ?_
    refine bf_iload_n r.1 dX8_alike_17 rfl ?_
    refine cl_v r (y2 := mX2_isNumber) dX8_alike_18 li_X8_126 mv_X2_isNumber rfl (by decide) [.int (v)] [] rfl (Nat.le_of_ble_eq_true rfl) rfl (c_X2_isNumber (by omega) hv hc _) ?_
    show J 21 [some (.ref 0), some (.int (v))] [.int (if 0 ≤ v ∧ v < nI (pX P) then 1 else 0)] (bf_MD D)
    refine nb_eq r (tgt := 35) dX8_alike_21 (by decide) (fun c176 => ?_) (fun c176 => ?_)
    · have wv := rg_n c176
      refine bf_bipush r.1 (v := -2) dX8_alike_35 rfl ?_
      exact rt_i r dX8_alike_37 rfl rfl (by simp only [ox_alike, if_neg c175, wv, on_n, on_s]) rfl
    · obtain ⟨v0, hv0, rfl⟩ := rg_in (by omega) c176
      have wv := rg_s hv0 (by omega)
      refine bf_aload_n r.1 dX8_alike_24 rfl ?_
      refine ig_ref r (b := 2) dX8_alike_25 fl_X8_20 rfl (by decide) rfl ?_
      refine bf_iload_n r.1 dX8_alike_28 rfl ?_
      refine cl_v r (y2 := mX2_countAlike) dX8_alike_29 li_X8_132 mv_X2_countAlike rfl (by decide) [.int (nI v0)] [] rfl (Nat.le_of_ble_eq_true rfl) rfl (c_X2_countAlike (by omega) hv hc (by omega)) ?_
      show J 32 [some (.ref 0), some (.int (nI v0))] [.int (nI (pA P v0))] (bf_MD D)
      refine bf_goto r.1 (tgt := 37) dX8_alike_32 (by decide) ?_
      exact rt_i r dX8_alike_37 rfl rfl (by simp only [ox_alike, if_neg c175, wv, on_n, on_s]) rfl
  · refine bf_bipush r.1 (v := -3) dX8_alike_10 rfl ?_
    exact rt_i r dX8_alike_12 rfl rfl (by simp only [ox_alike, if_pos c175, on_n, on_s]) rfl
theorem c_X8_which {d : Nat} (hd : 7 ≤ d) {D : bf_D} {P : bf_Pn} (hv : vP P) (hc : cP D P) (v i : Int32) : bf_Cf d mX8_which [.ref 0, .int (v), .int (i)] D (some (.int (ox_which P v i))) D := by
  refine bf_Cf_of 6 hd mo_X8_which (Nat.le_of_ble_eq_true rfl) (fun e he J r => ?_)
  show J 0 [some (.ref 0), some (.int (v)), some (.int (i))] [] (bf_MD D)
  have hn4 := hv.1
  have hx4 := pX_le hv
  have hx0 := pX_pos P
  refine bf_aload_n r.1 dX8_which_0 rfl ?_
  refine ig_ref r (b := 2) dX8_which_1 fl_X8_20 rfl (by decide) rfl ?_
  refine cl_v r (y2 := mX2_isNone) dX8_which_4 li_X8_122 mv_X2_isNone rfl (by decide) [] [] rfl (Nat.le_of_ble_eq_true rfl) rfl (c_X2_isNone (by omega) hv hc) ?_
  show J 7 [some (.ref 0), some (.int (v)), some (.int (i))] [.int (if pN P = 0 then 1 else 0)] (bf_MD D)
  refine nb_eq r (tgt := 13) dX8_which_7 (by decide) (fun c177 => ?_) (fun c177 => ?_)
  · have h1n : 1 ≤ pN P := by omega
    refine bf_aload_n r.1 dX8_which_13 rfl ?_
    refine ig_ref r (b := 2) dX8_which_14 fl_X8_20 rfl (by decide) rfl ?_
    refine bf_iload_n r.1 dX8_which_17 rfl ?_
    refine cl_v r (y2 := mX2_isNumber) dX8_which_18 li_X8_126 mv_X2_isNumber rfl (by decide) [.int (v)] [] rfl (Nat.le_of_ble_eq_true rfl) rfl (c_X2_isNumber (by omega) hv hc _) ?_
    show J 21 [some (.ref 0), some (.int (v)), some (.int (i))] [.int (if 0 ≤ v ∧ v < nI (pX P) then 1 else 0)] (bf_MD D)
    refine nb_eq r (tgt := 46) dX8_which_21 (by decide) (fun c178 => ?_) (fun c178 => ?_)
    · have wv := rg_n c178
      refine bf_bipush r.1 (v := -2) dX8_which_46 rfl ?_
      exact rt_i r dX8_which_48 rfl rfl (by simp only [ox_which, if_neg c177, wv, on_n, on_s]) rfl
    · obtain ⟨v0, hv0, rfl⟩ := rg_in (by omega) c178
      have wv := rg_s hv0 (by omega)
      refine bf_iload_n r.1 dX8_which_24 rfl ?_
      refine bf_sipush r.1 (v := nI 10000) dX8_which_25 rfl ?_
      refine cl_s r (y2 := mX8_isWithin) dX8_which_28 li_X8_50 mv_X8_isWithin [.int (i), .int (nI 10000)] [] rfl (Nat.le_of_ble_eq_true rfl) rfl (c_X8_isWithin (by omega) D _ _) ?_
      show J 31 [some (.ref 0), some (.int (nI v0)), some (.int (i))] [.int (if 0 ≤ i ∧ i < nI 10000 then 1 else 0)] (bf_MD D)
      refine nb_eq r (tgt := 46) dX8_which_31 (by decide) (fun c179 => ?_) (fun c179 => ?_)
      · have wi := rg_n c179
        refine bf_bipush r.1 (v := -2) dX8_which_46 rfl ?_
        exact rt_i r dX8_which_48 rfl rfl (by simp only [ox_which, if_neg c177, wv, wi, on_n, on_s]) rfl
      · obtain ⟨i0, hi0, rfl⟩ := rg_in (by decide) c179
        have wi := rg_s hi0 (by decide)
        refine bf_aload_n r.1 dX8_which_34 rfl ?_
        refine ig_ref r (b := 2) dX8_which_35 fl_X8_20 rfl (by decide) rfl ?_
        refine bf_iload_n r.1 dX8_which_38 rfl ?_
        refine bf_iload_n r.1 dX8_which_39 rfl ?_
        refine cl_v r (y2 := mX2_numberAlike) dX8_which_40 li_X8_135 mv_X2_numberAlike rfl (by decide) [.int (nI v0), .int (nI i0)] [] rfl (Nat.le_of_ble_eq_true rfl) rfl (c_X2_numberAlike (by omega) hv hc (Nat.one_le_iff_ne_zero.mpr c177) (by omega) (by omega)) ?_
        show J 43 [some (.ref 0), some (.int (nI v0)), some (.int (nI i0))] [.int (bf_oN (pNa P v0 (pN P) 0 1 i0))] (bf_MD D)
        refine bf_goto r.1 (tgt := 48) dX8_which_43 (by decide) ?_
        exact rt_i r dX8_which_48 rfl rfl (by simp only [ox_which, if_neg c177, wv, wi, on_n, on_s]) rfl
  · refine bf_bipush r.1 (v := -3) dX8_which_10 rfl ?_
    exact rt_i r dX8_which_12 rfl rfl (by simp only [ox_which, if_pos c177, on_n, on_s]) rfl
theorem c_X8_flips {d : Nat} (hd : 5 ≤ d) {D : bf_D} {P : bf_Pn} (hv : vP P) (hc : cP D P) (u v : Int32) : bf_Cf d mX8_flips [.ref 0, .int (u), .int (v)] D (some (.int (ox_flips P u v))) D := by
  refine bf_Cf_of 4 hd mo_X8_flips (Nat.le_of_ble_eq_true rfl) (fun e he J r => ?_)
  show J 0 [some (.ref 0), some (.int (u)), some (.int (v))] [] (bf_MD D)
  have hn4 := hv.1
  have hx4 := pX_le hv
  have hx0 := pX_pos P
  refine bf_aload_n r.1 dX8_flips_0 rfl ?_
  refine ig_ref r (b := 2) dX8_flips_1 fl_X8_20 rfl (by decide) rfl ?_
  refine cl_v r (y2 := mX2_isNone) dX8_flips_4 li_X8_122 mv_X2_isNone rfl (by decide) [] [] rfl (Nat.le_of_ble_eq_true rfl) rfl (c_X2_isNone (by omega) hv hc) ?_
  show J 7 [some (.ref 0), some (.int (u)), some (.int (v))] [.int (if pN P = 0 then 1 else 0)] (bf_MD D)
  refine nb_eq r (tgt := 13) dX8_flips_7 (by decide) (fun c180 => ?_) (fun c180 => ?_)
  · have h1n : 1 ≤ pN P := by omega
    refine bf_aload_n r.1 dX8_flips_13 rfl ?_
    refine ig_ref r (b := 2) dX8_flips_14 fl_X8_20 rfl (by decide) rfl ?_
    refine bf_iload_n r.1 dX8_flips_17 rfl ?_
    refine cl_v r (y2 := mX2_isNumber) dX8_flips_18 li_X8_126 mv_X2_isNumber rfl (by decide) [.int (u)] [] rfl (Nat.le_of_ble_eq_true rfl) rfl (c_X2_isNumber (by omega) hv hc _) ?_
    show J 21 [some (.ref 0), some (.int (u)), some (.int (v))] [.int (if 0 ≤ u ∧ u < nI (pX P) then 1 else 0)] (bf_MD D)
    refine nb_eq r (tgt := 47) dX8_flips_21 (by decide) (fun c181 => ?_) (fun c181 => ?_)
    · have wu := rg_n c181
      refine bf_bipush r.1 (v := -2) dX8_flips_47 rfl ?_
      exact rt_i r dX8_flips_49 rfl rfl (by simp only [ox_flips, if_neg c180, wu, on_n, on_s]) rfl
    · obtain ⟨u0, hu0, rfl⟩ := rg_in (by omega) c181
      have wu := rg_s hu0 (by omega)
      refine bf_aload_n r.1 dX8_flips_24 rfl ?_
      refine ig_ref r (b := 2) dX8_flips_25 fl_X8_20 rfl (by decide) rfl ?_
      refine bf_iload_n r.1 dX8_flips_28 rfl ?_
      refine cl_v r (y2 := mX2_isNumber) dX8_flips_29 li_X8_126 mv_X2_isNumber rfl (by decide) [.int (v)] [] rfl (Nat.le_of_ble_eq_true rfl) rfl (c_X2_isNumber (by omega) hv hc _) ?_
      show J 32 [some (.ref 0), some (.int (nI u0)), some (.int (v))] [.int (if 0 ≤ v ∧ v < nI (pX P) then 1 else 0)] (bf_MD D)
      refine nb_eq r (tgt := 47) dX8_flips_32 (by decide) (fun c182 => ?_) (fun c182 => ?_)
      · have wv := rg_n c182
        refine bf_bipush r.1 (v := -2) dX8_flips_47 rfl ?_
        exact rt_i r dX8_flips_49 rfl rfl (by simp only [ox_flips, if_neg c180, wu, wv, on_n, on_s]) rfl
      · obtain ⟨v0, hv0, rfl⟩ := rg_in (by omega) c182
        have wv := rg_s hv0 (by omega)
        refine bf_aload_n r.1 dX8_flips_35 rfl ?_
        refine ig_ref r (b := 2) dX8_flips_36 fl_X8_20 rfl (by decide) rfl ?_
        refine bf_iload_n r.1 dX8_flips_39 rfl ?_
        refine bf_iload_n r.1 dX8_flips_40 rfl ?_
        refine cl_v r (y2 := mX2_flipsBetween) dX8_flips_41 li_X8_138 mv_X2_flipsBetween rfl (by decide) [.int (nI u0), .int (nI v0)] [] rfl (Nat.le_of_ble_eq_true rfl) rfl (c_X2_flipsBetween (by omega) hv hc (by omega) (by omega)) ?_
        show J 44 [some (.ref 0), some (.int (nI u0)), some (.int (nI v0))] [.int (nI (pF P u0 v0))] (bf_MD D)
        refine bf_goto r.1 (tgt := 49) dX8_flips_44 (by decide) ?_
        exact rt_i r dX8_flips_49 rfl rfl (by simp only [ox_flips, if_neg c180, wu, wv, on_n, on_s]) rfl
  · refine bf_bipush r.1 (v := -3) dX8_flips_10 rfl ?_
    exact rt_i r dX8_flips_12 rfl rfl (by simp only [ox_flips, if_pos c180, on_n, on_s]) rfl
theorem c_X8_pictures {d : Nat} (hd : 5 ≤ d) {D : bf_D} {P : bf_Pn} (hv : vP P) (hc : cP D P) : bf_Cf d mX8_pictures [.ref 0] D (some (.int (ox_pictures P))) D := by
  refine bf_Cf_of 4 hd mo_X8_pictures (Nat.le_of_ble_eq_true rfl) (fun e he J r => ?_)
  show J 0 [some (.ref 0)] [] (bf_MD D)
  have hn4 := hv.1
  have hx4 := pX_le hv
  have hx0 := pX_pos P
  refine bf_aload_n r.1 dX8_pictures_0 rfl ?_
  refine ig_ref r (b := 2) dX8_pictures_1 fl_X8_20 rfl (by decide) rfl ?_
  refine cl_v r (y2 := mX2_isNone) dX8_pictures_4 li_X8_122 mv_X2_isNone rfl (by decide) [] [] rfl (Nat.le_of_ble_eq_true rfl) rfl (c_X2_isNone (by omega) hv hc) ?_
  show J 7 [some (.ref 0)] [.int (if pN P = 0 then 1 else 0)] (bf_MD D)
  refine nb_eq r (tgt := 15) dX8_pictures_7 (by decide) (fun c183 => ?_) (fun c183 => ?_)
  · have h1n : 1 ≤ pN P := by omega
    refine bf_aload_n r.1 dX8_pictures_15 rfl ?_
    refine ig_ref r (b := 2) dX8_pictures_16 fl_X8_20 rfl (by decide) rfl ?_
    refine cl_v r (y2 := mX2_unlikePictures) dX8_pictures_19 li_X8_156 mv_X2_unlikePictures rfl (by decide) [] [] rfl (Nat.le_of_ble_eq_true rfl) rfl (c_X2_unlikePictures (by omega) hv hc) ?_
    show J 22 [some (.ref 0)] [.int (nI (bf_pr (pU P) (pN P)))] (bf_MD D)
    exact rt_i r dX8_pictures_22 rfl rfl (by simp only [ox_pictures, if_neg c183, on_n, on_s]) rfl
  · refine bf_bipush r.1 (v := -3) dX8_pictures_10 rfl ?_
    refine bf_goto r.1 (tgt := 22) dX8_pictures_12 (by decide) ?_
    exact rt_i r dX8_pictures_22 rfl rfl (by simp only [ox_pictures, if_pos c183, on_n, on_s]) rfl
theorem c_X8_dies {d : Nat} (hd : 5 ≤ d) {D : bf_D} {P : bf_Pn} (hv : vP P) (hc : cP D P) (k b : Int32) : bf_Cf d mX8_dies [.ref 0, .int (k), .int (b)] D (some (.int (ox_dies P k b))) D := by
  refine bf_Cf_of 4 hd mo_X8_dies (Nat.le_of_ble_eq_true rfl) (fun e he J r => ?_)
  show J 0 [some (.ref 0), some (.int (k)), some (.int (b))] [] (bf_MD D)
  have hn4 := hv.1
  have hx4 := pX_le hv
  have hx0 := pX_pos P
  refine bf_aload_n r.1 dX8_dies_0 rfl ?_
  refine bf_iload_n r.1 dX8_dies_1 rfl ?_
  refine cl_v r (y2 := mX8_isPlace) dX8_dies_2 li_X8_76 mv_X8_isPlace rfl (by decide) [.int (k)] [] rfl (Nat.le_of_ble_eq_true rfl) rfl (c_X8_isPlace (by omega) hv hc _) ?_
  show J 5 [some (.ref 0), some (.int (k)), some (.int (b))] [.int (if 0 ≤ k ∧ k < nI (pN P) then 1 else 0)] (bf_MD D)
  refine nb_eq r (tgt := 32) dX8_dies_5 (by decide) (fun c184 => ?_) (fun c184 => ?_)
  · have wk := rg_n c184
    refine bf_iconst r.1 (v := -1) dX8_dies_32 rfl ?_
    exact rt_i r dX8_dies_33 rfl rfl (by simp only [ox_dies, wk, on_n, on_s, pDy]) rfl
  · obtain ⟨k0, hk0, rfl⟩ := rg_in (by omega) c184
    have wk := rg_s hk0 (by omega)
    refine bf_iload_n r.1 dX8_dies_8 rfl ?_
    refine bf_bipush r.1 (v := nI 7) dX8_dies_9 rfl ?_
    refine cl_s r (y2 := mX8_isWithin) dX8_dies_11 li_X8_50 mv_X8_isWithin [.int (b), .int (nI 7)] [] rfl (Nat.le_of_ble_eq_true rfl) rfl (c_X8_isWithin (by omega) D _ _) ?_
    show J 14 [some (.ref 0), some (.int (nI k0)), some (.int (b))] [.int (if 0 ≤ b ∧ b < nI 7 then 1 else 0)] (bf_MD D)
    refine nb_eq r (tgt := 32) dX8_dies_14 (by decide) (fun c185 => ?_) (fun c185 => ?_)
    · have wb := rg_n c185
      refine bf_iconst r.1 (v := -1) dX8_dies_32 rfl ?_
      exact rt_i r dX8_dies_33 rfl rfl (by simp only [ox_dies, wk, wb, on_n, on_s, pDy]) rfl
    · obtain ⟨b0, hb0, rfl⟩ := rg_in (by decide) c185
      have wb := rg_s hb0 (by decide)
      refine bf_aload_n r.1 dX8_dies_17 rfl ?_
      refine ig_ref r (b := 2) dX8_dies_18 fl_X8_20 rfl (by decide) rfl ?_
      refine bf_iload_n r.1 dX8_dies_21 rfl ?_
      refine bf_iload_n r.1 dX8_dies_22 rfl ?_
      refine bf_sipush r.1 (v := nI 1000) dX8_dies_23 rfl ?_
      refine cl_v r (y2 := mX2_stepsToDeath) dX8_dies_26 li_X8_162 mv_X2_stepsToDeath rfl (by decide) [.int (nI k0), .int (nI b0), .int (nI 1000)] [] rfl (Nat.le_of_ble_eq_true rfl) rfl (c_X2_stepsToDeath (by omega) hv hc hk0 hb0 (by omega)) ?_
      show J 29 [some (.ref 0), some (.int (nI k0)), some (.int (nI b0))] [.int (bf_oN (if (pD P k0 ||| pT P k0) / 2 ^ b0 &&& 1 = 0 then pSd P k0 b0 1000 1 (pW P k0 b0) (pS P) else none))] (bf_MD D)
      refine bf_goto r.1 (tgt := 33) dX8_dies_29 (by decide) ?_
      exact rt_i r dX8_dies_33 rfl rfl (by simp only [ox_dies, wk, wb, on_n, on_s, pDy]) rfl
theorem c_X8_repair {d : Nat} (hd : 6 ≤ d) {D : bf_D} {P : bf_Pn} (hv : vP P) (hc : cP D P) (k : Int32) : bf_Cf d mX8_repair [.ref 0, .int (k)] D (some (.int (ox_repair P k))) D := by
  refine bf_Cf_of 5 hd mo_X8_repair (Nat.le_of_ble_eq_true rfl) (fun e he J r => ?_)
  show J 0 [some (.ref 0), some (.int (k))] [] (bf_MD D)
  have hn4 := hv.1
  have hx4 := pX_le hv
  have hx0 := pX_pos P
  refine bf_aload_n r.1 dX8_repair_0 rfl ?_
  refine bf_iload_n r.1 dX8_repair_1 rfl ?_
  refine cl_v r (y2 := mX8_isPlace) dX8_repair_2 li_X8_76 mv_X8_isPlace rfl (by decide) [.int (k)] [] rfl (Nat.le_of_ble_eq_true rfl) rfl (c_X8_isPlace (by omega) hv hc _) ?_
  show J 5 [some (.ref 0), some (.int (k))] [.int (if 0 ≤ k ∧ k < nI (pN P) then 1 else 0)] (bf_MD D)
  refine nb_eq r (tgt := 23) dX8_repair_5 (by decide) (fun c186 => ?_) (fun c186 => ?_)
  · have wk := rg_n c186
    refine bf_iconst r.1 (v := -1) dX8_repair_23 rfl ?_
    exact rt_i r dX8_repair_24 rfl rfl (by simp only [ox_repair, wk, on_n, on_s]) rfl
  · obtain ⟨k0, hk0, rfl⟩ := rg_in (by omega) c186
    have wk := rg_s hk0 (by omega)
    refine bf_aload_n r.1 dX8_repair_8 rfl ?_
    refine ig_ref r (b := 2) dX8_repair_9 fl_X8_20 rfl (by decide) rfl ?_
    refine ig_ref r (b := 3) dX8_repair_12 fl_X8_80 rfl (by decide) rfl ?_
    refine bf_iload_n r.1 dX8_repair_15 rfl ?_
    refine aa_ld r (n := 4) (b := 6 + 3 * k0) dX8_repair_16 (by decide) rfl (by decide) (Nat.lt_of_lt_of_le hk0 hn4) (ad_a3 (Nat.lt_of_lt_of_le hk0 hn4)) ?_
    refine cl_v r (y2 := mX3_fewestToMend) dX8_repair_17 li_X8_172 mv_X3_fewestToMend (ad_c6 (Nat.lt_of_lt_of_le hk0 hn4)) (ad_l6 (Nat.lt_of_lt_of_le hk0 hn4)) [] [] rfl (Nat.le_of_ble_eq_true rfl) rfl (c_X3_fewestToMend (by omega) hv hc hk0) ?_
    show J 20 [some (.ref 0), some (.int (nI k0))] [.int (bf_oN (pRp P k0 128))] (bf_MD D)
    refine bf_goto r.1 (tgt := 24) dX8_repair_20 (by decide) ?_
    exact rt_i r dX8_repair_24 rfl rfl (by simp only [ox_repair, wk, on_n, on_s]) rfl
theorem c_X8_many {d : Nat} (hd : 4 ≤ d) {D : bf_D} {P : bf_Pn} (hv : vP P) (hc : cP D P) {Q : bf_Rd} (cr : cR D Q) (wh : Int32) : bf_Cf d mX8_many [.ref 0, .int (wh)] D (some (.int (ox_many P Q wh))) D := by
  refine bf_Cf_of 3 hd mo_X8_many (Nat.le_of_ble_eq_true rfl) (fun e he J r => ?_)
  show J 0 [some (.ref 0), some (.int (wh))] [] (bf_MD D)
  have hn4 := hv.1
  have hx4 := pX_le hv
  have hx0 := pX_pos P
  refine bf_iload_n r.1 dX8_many_0 rfl ?_
  by_cases c187 : wh = nI 0
  · refine bf_tabIn r.1 (off := 35) (tgt := 36) dX8_many_1 (by rw [c187]; decide) (by rw [c187]; decide) (by rw [c187]; rfl) (by decide) ?_
    refine bf_aload_n r.1 dX8_many_36 rfl ?_
    refine ig_ref r (b := 2) dX8_many_37 fl_X8_20 rfl (by decide) rfl ?_
    refine ig_int r (v := nI (pN P)) dX8_many_40 fl_X8_75 rfl (by decide) rfl (cP_n (P := P) hc) ?_
    exact rt_i r dX8_many_43 rfl rfl (by simp only [ox_many, if_pos c187, on_n, on_s]) rfl
  · by_cases c188 : wh = nI 1
    · refine bf_tabIn r.1 (off := 43) (tgt := 44) dX8_many_1 (by rw [c188]; decide) (by rw [c188]; decide) (by rw [c188]; rfl) (by decide) ?_
      refine bf_aload_n r.1 dX8_many_44 rfl ?_
      refine ig_ref r (b := 2) dX8_many_45 fl_X8_20 rfl (by decide) rfl ?_
      refine ig_int r (v := nI (pL P)) dX8_many_48 fl_X8_250 rfl (by decide) rfl (cP_l (P := P) hc) ?_
      exact rt_i r dX8_many_51 rfl rfl (by simp only [ox_many, if_neg c187, if_pos c188, on_n, on_s]) rfl
    · by_cases c189 : wh = nI 2
      · refine bf_tabIn r.1 (off := 51) (tgt := 52) dX8_many_1 (by rw [c189]; decide) (by rw [c189]; decide) (by rw [c189]; rfl) (by decide) ?_
        refine bf_aload_n r.1 dX8_many_52 rfl ?_
        refine ig_ref r (b := 2) dX8_many_53 fl_X8_20 rfl (by decide) rfl ?_
        refine ig_int r (v := nI (pS P)) dX8_many_56 fl_X8_99 rfl (by decide) rfl (cP_s (P := P) hc) ?_
        exact rt_i r dX8_many_59 rfl rfl (by simp only [ox_many, if_neg c187, if_neg c188, if_pos c189, on_n, on_s]) rfl
      · by_cases c190 : wh = nI 3
        · refine bf_tabIn r.1 (off := 59) (tgt := 60) dX8_many_1 (by rw [c190]; decide) (by rw [c190]; decide) (by rw [c190]; rfl) (by decide) ?_
          refine bf_aload_n r.1 dX8_many_60 rfl ?_
          refine ig_ref r (b := 2) dX8_many_61 fl_X8_20 rfl (by decide) rfl ?_
          refine cl_v r (y2 := mX2_deadBars) dX8_many_64 li_X8_253 mv_X2_deadBars rfl (by decide) [] [] rfl (Nat.le_of_ble_eq_true rfl) rfl (c_X2_deadBars (by omega) hv hc) ?_
          show J 67 [some (.ref 0), some (.int (wh))] [.int (nI (pDd P))] (bf_MD D)
          exact rt_i r dX8_many_67 rfl rfl (by simp only [ox_many, if_neg c187, if_neg c188, if_neg c189, if_pos c190, on_n, on_s]) rfl
        · by_cases c191 : wh = nI 4
          · refine bf_tabIn r.1 (off := 67) (tgt := 68) dX8_many_1 (by rw [c191]; decide) (by rw [c191]; decide) (by rw [c191]; rfl) (by decide) ?_
            refine bf_aload_n r.1 dX8_many_68 rfl ?_
            refine ig_ref r (b := 18) dX8_many_69 fl_X8_27 rfl (by decide) rfl ?_
            refine ig_int r (v := nI (rN Q)) dX8_many_72 fl_X8_72 rfl (by decide) rfl cr.1 ?_
            exact rt_i r dX8_many_75 rfl rfl (by simp only [ox_many, if_neg c187, if_neg c188, if_neg c189, if_neg c190, if_pos c191, on_n, on_s]) rfl
          · refine bf_tabOut r.1 (tgt := 76) dX8_many_1 (by have q0 := lv_neT c187 (a := 0) (by decide); have q1 := lv_neT c188 (a := 1) (by decide); have q2 := lv_neT c189 (a := 2) (by decide); have q3 := lv_neT c190 (a := 3) (by decide); have q4 := lv_neT c191 (a := 4) (by decide); omega) (by decide) ?_
            refine bf_bipush r.1 (v := -2) dX8_many_76 rfl ?_
            exact rt_i r dX8_many_78 rfl rfl (by simp only [ox_many, if_neg c187, if_neg c188, if_neg c189, if_neg c190, if_neg c191, on_n, on_s]) rfl
