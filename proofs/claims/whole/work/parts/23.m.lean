/-! readings -/
abbrev bf_Rd : Type := Nat × (Nat → Nat) × (Nat → Nat) × (Nat → Nat)
def rN (Q : bf_Rd) : Nat := Q.1
def rP (Q : bf_Rd) (i : Nat) : Nat := Q.2.1 i
def rG (Q : bf_Rd) (i : Nat) : Nat := Q.2.2.1 i
def rS (Q : bf_Rd) (i : Nat) : Nat := Q.2.2.2 i
def vR (Q : bf_Rd) (P : bf_Pn) : Prop := rN Q ≤ 8 ∧ ∀ i, i < rN Q → rP Q i < pN P ∧ rG Q i < 10 ∧ rS Q i < 128
def cR (D : bf_D) (Q : bf_Rd) : Prop := D 18 3 = nI (rN Q) ∧ ∀ i, i < rN Q → D 19 i = nI (rP Q i) ∧ D 20 i = nI (rG Q i) ∧ D 21 i = nI (rS Q i)
def mR (D : bf_D) (Q : bf_Rd) : Prop := D 37 19 = nI (rN Q) ∧ ∀ i, i < rN Q → D 50 i = nI (rP Q i) ∧ D 51 i = nI (rG Q i) ∧ D 52 i = nI (rS Q i)
def bf_al (p : Nat → Bool) : Nat → Bool
  | 0 => true
  | n + 1 => bf_al p n && p n
theorem bf_al_t {p : Nat → Bool} : ∀ {n : Nat}, bf_al p n = true ↔ ∀ i, i < n → p i = true := by
  intro n
  induction n with
  | zero => simp [bf_al]
  | succ n ih =>
    simp only [bf_al, Bool.and_eq_true, ih]
    constructor
    · rintro ⟨h1, h2⟩ i hi
      by_cases e : i = n
      · rw [e]; exact h2
      · exact h1 i (by omega)
    · intro h
      exact ⟨fun i hi => h i (by omega), h n (by omega)⟩
/-- are all readings so -/
def pSo (P : bf_Pn) (Q : bf_Rd) : Bool := bf_al (fun i => decide (pB P (rP Q i) (rG Q i) = rS Q i)) (rN Q)
theorem c_X4_addF {d : Nat} (hd : 1 ≤ d) {D : bf_D} {Q : bf_Rd} (cr : cR D Q) (h8 : rN Q = 8) {k x s : Nat} : bf_Cf d mX4_add [.ref 18, .int (nI k), .int (nI x), .int (nI s)] D (some (.int (-4))) D := by
  refine bf_Cf_of 0 hd mo_X4_add (Nat.le_of_ble_eq_true rfl) (fun e he J r => ?_)
  show J 0 [some (.ref 18), some (.int (nI k)), some (.int (nI x)), some (.int (nI s))] [] (bf_MD D)
  refine bf_aload_n r.1 dX4_add_0 rfl ?_
  refine ig_int r (v := nI (rN Q)) dX4_add_1 fl_X4_21 rfl (by decide) rfl cr.1 ?_
  refine bf_bipush r.1 (v := nI 8) dX4_add_4 rfl ?_
  refine nc_lt r (tgt := 12) dX4_add_6 (by decide) (by omega) (by decide) (fun c119 => ?_) (fun c119 => ?_)
  · exact absurd c119 (by omega)
  · refine bf_bipush r.1 (v := -4) dX4_add_9 rfl ?_
    exact rt_i r dX4_add_11 rfl rfl rfl rfl
def bf_aD (D : bf_D) (n k x s : Nat) : bf_D := bf_u (bf_u (bf_u (bf_u D 19 n (nI k)) 20 n (nI x)) 21 n (nI s)) 18 3 (nI (n + 1))
theorem c_X4_add {d : Nat} (hd : 1 ≤ d) {D : bf_D} {Q : bf_Rd} (cr : cR D Q) (h8 : rN Q < 8) {k x s : Nat} : bf_Cf d mX4_add [.ref 18, .int (nI k), .int (nI x), .int (nI s)] D (some (.int (nI (rN Q)))) (bf_aD D (rN Q) k x s) := by
  refine bf_Cf_of 0 hd mo_X4_add (Nat.le_of_ble_eq_true rfl) (fun e he J r => ?_)
  show J 0 [some (.ref 18), some (.int (nI k)), some (.int (nI x)), some (.int (nI s))] [] (bf_MD D)
  refine bf_aload_n r.1 dX4_add_0 rfl ?_
  refine ig_int r (v := nI (rN Q)) dX4_add_1 fl_X4_21 rfl (by decide) rfl cr.1 ?_
  refine bf_bipush r.1 (v := nI 8) dX4_add_4 rfl ?_
  refine nc_lt r (tgt := 12) dX4_add_6 (by decide) (by omega) (by decide) (fun c120 => ?_) (fun c120 => ?_)
  · refine bf_aload_n r.1 dX4_add_12 rfl ?_
    refine ig_ref r (b := 19) dX4_add_13 fl_X4_9 rfl (by decide) rfl ?_
    refine bf_aload_n r.1 dX4_add_16 rfl ?_
    refine ig_int r (v := nI (rN Q)) dX4_add_17 fl_X4_21 rfl (by decide) rfl cr.1 ?_
    refine bf_iload_n r.1 dX4_add_20 rfl ?_
    refine ia_st r (n := 8) dX4_add_21 rfl (by decide) (by omega) ?_
    refine bf_aload_n r.1 dX4_add_22 rfl ?_
    refine ig_ref r (b := 20) dX4_add_23 fl_X4_15 rfl (by decide) rfl ?_
    refine bf_aload_n r.1 dX4_add_26 rfl ?_
    refine ig_int r (v := nI (rN Q)) dX4_add_27 fl_X4_21 rfl (by decide) rfl ((bf_un (by omega)).trans (cr.1)) ?_
    refine bf_iload_n r.1 dX4_add_30 rfl ?_
    refine ia_st r (n := 8) dX4_add_31 rfl (by decide) (by omega) ?_
    refine bf_aload_n r.1 dX4_add_32 rfl ?_
    refine ig_ref r (b := 21) dX4_add_33 fl_X4_18 rfl (by decide) rfl ?_
    refine bf_aload_n r.1 dX4_add_36 rfl ?_
    refine ig_int r (v := nI (rN Q)) dX4_add_37 fl_X4_21 rfl (by decide) rfl ((bf_un (by omega)).trans ((bf_un (by omega)).trans (cr.1))) ?_
    refine bf_iload_n r.1 dX4_add_40 rfl ?_
    refine ia_st r (n := 8) dX4_add_41 rfl (by decide) (by omega) ?_
    refine bf_aload_n r.1 dX4_add_42 rfl ?_
    refine bf_dup r.1 dX4_add_43 rfl ?_
    refine ig_int r (v := nI (rN Q)) dX4_add_44 fl_X4_21 rfl (by decide) rfl ((bf_un (by omega)).trans ((bf_un (by omega)).trans ((bf_un (by omega)).trans (cr.1)))) ?_
    refine bf_iconst r.1 (v := nI 1) dX4_add_47 rfl ?_
    refine na_add r dX4_add_48  ?_
    refine ip_int r dX4_add_49 fp_X4_21 rfl (by decide) rfl ?_
    refine bf_aload_n r.1 dX4_add_52 rfl ?_
    refine ig_int r (v := nI (rN Q + 1)) dX4_add_53 fl_X4_21 rfl (by decide) rfl bf_us ?_
    refine bf_iconst r.1 (v := nI 1) dX4_add_56 rfl ?_
    refine na_sub r dX4_add_57 (by omega) ?_
    exact rt_i r dX4_add_58 rfl rfl (by rw [Nat.add_sub_cancel]) rfl
  · exact absurd c120 (by omega)
theorem c_X4_allAreSo {d : Nat} (hd : 4 ≤ d) {D : bf_D} {P : bf_Pn} (hv : vP P) (hc : cP D P){Q : bf_Rd} (cr : cR D Q) (vr : vR Q P) {k q dd : Nat} (hk : k < pN P) (hq : q < 3) (hdd : dd < 128) : bf_Cf d mX4_allAreSo [.ref 18, .ref 2, .int (nI k), .int (nI q), .int (nI dd)] D (some (.int (if pSo (pSet P k q dd (pT P k) (pW P k)) Q = true then 1 else 0))) D := by
  refine bf_Cf_of 3 hd mo_X4_allAreSo (Nat.le_of_ble_eq_true rfl) (fun e he J r => ?_)
  show J 0 [some (.ref 18), some (.ref 2), some (.int (nI k)), some (.int (nI q)), some (.int (nI dd)), none, none, none] [] (bf_MD D)
  have hn4 := hv.1
  have hx4 := pX_le hv
  have hx0 := pX_pos P
  have h8 := vr.1
  refine bf_iconst r.1 (v := nI 0) dX4_allAreSo_0 rfl ?_
  refine bf_istore r.1 (L2 := [some (.ref 18), some (.ref 2), some (.int (nI k)), some (.int (nI q)), some (.int (nI dd)), some (.int (nI 0)), none, none]) dX4_allAreSo_1 rfl ?_
  have loop : ∀ i : Nat, i ≤ (rN Q) → (∀ u, u < i → decide (pB (pSet P k q dd (pT P k) (pW P k)) (rP Q u) (rG Q u) = rS Q u) = true) → J 3 [some (.ref 18), some (.ref 2), some (.int (nI k)), some (.int (nI q)), some (.int (nI dd)), some (.int (nI i)), none, none] [] (bf_MD D) := by
    refine bf_down (fun i hle ih => ?_)
    intro hu
    refine bf_iload r.1 dX4_allAreSo_3 rfl ?_
    refine bf_aload_n r.1 dX4_allAreSo_5 rfl ?_
    refine ig_int r (v := nI (rN Q)) dX4_allAreSo_6 fl_X4_21 rfl (by decide) rfl cr.1 ?_
    refine nc_ge r (tgt := 108) dX4_allAreSo_9 (by decide) (by omega) (by omega) (fun c121 => ?_) (fun c121 => ?_)
    · refine bf_iconst r.1 (v := nI 1) dX4_allAreSo_108 rfl ?_
      exact rt_i r dX4_allAreSo_109 rfl (by decide) (if_pos (bf_al_t.mpr (fun u h => hu u (by omega)))).symm rfl
    · have hri := vr.2 i c121
      refine bf_aload_n r.1 dX4_allAreSo_12 rfl ?_
      refine ig_ref r (b := 19) dX4_allAreSo_13 fl_X4_9 rfl (by decide) rfl ?_
      refine bf_iload r.1 dX4_allAreSo_16 rfl ?_
      refine ia_ld r (n := 8) (v := nI (rP Q i)) dX4_allAreSo_18 rfl (by decide) (by omega) (cr.2 i (by omega)).1 ?_
      refine bf_aload_n r.1 dX4_allAreSo_19 rfl ?_
      refine ig_int r (v := nI (pN P)) dX4_allAreSo_20 fl_X4_25 rfl (by decide) rfl (cP_n (P := P) hc) ?_
      refine cl_s r (y2 := mX8_isWithin) dX4_allAreSo_23 li_X4_28 mv_X8_isWithin [.int (nI (rP Q i)), .int (nI (pN P))] [] rfl (Nat.le_of_ble_eq_true rfl) rfl (c_X8_isWithinN (by omega) D (by omega) (by omega)) ?_
      show J 26 [some (.ref 18), some (.ref 2), some (.int (nI k)), some (.int (nI q)), some (.int (nI dd)), some (.int (nI i)), none, none] [.int (if rP Q i < pN P then 1 else 0)] (bf_MD D)
      refine nb_ne r (tgt := 31) dX4_allAreSo_26 (by decide) (fun c122 => ?_) (fun c122 => ?_)
      · refine bf_aload_n r.1 dX4_allAreSo_31 rfl ?_
        refine ig_ref r (b := 3) dX4_allAreSo_32 fl_X4_32 rfl (by decide) rfl ?_
        refine bf_aload_n r.1 dX4_allAreSo_35 rfl ?_
        refine ig_ref r (b := 19) dX4_allAreSo_36 fl_X4_9 rfl (by decide) rfl ?_
        refine bf_iload r.1 dX4_allAreSo_39 rfl ?_
        refine ia_ld r (n := 8) (v := nI (rP Q i)) dX4_allAreSo_41 rfl (by decide) (by omega) (cr.2 i (by omega)).1 ?_
        refine aa_ld r (n := 4) (b := 6 + 3 * (rP Q i)) dX4_allAreSo_42 (by decide) rfl (by decide) (Nat.lt_of_lt_of_le hri.1 hn4) (ad_a3 (Nat.lt_of_lt_of_le hri.1 hn4)) ?_
        refine bf_astore r.1 (L2 := [some (.ref 18), some (.ref 2), some (.int (nI k)), some (.int (nI q)), some (.int (nI dd)), some (.int (nI i)), some (.ref (6 + 3 * (rP Q i))), none]) dX4_allAreSo_43 rfl ?_
        refine bf_aload_n r.1 dX4_allAreSo_45 rfl ?_
        refine ig_ref r (b := 19) dX4_allAreSo_46 fl_X4_9 rfl (by decide) rfl ?_
        refine bf_iload r.1 dX4_allAreSo_49 rfl ?_
        refine ia_ld r (n := 8) (v := nI (rP Q i)) dX4_allAreSo_51 rfl (by decide) (by omega) (cr.2 i (by omega)).1 ?_
        refine bf_iload_n r.1 dX4_allAreSo_52 rfl ?_
        refine nc_ne r (tgt := 74) dX4_allAreSo_53 (by decide) (by omega) (by omega) (fun c123 => ?_) (fun c123 => ?_)
        · have hb : pB (pSet P k q dd (pT P k) (pW P k)) (rP Q i) (rG Q i) = pB P (rP Q i) (rG Q i) := pSet_Bo c123
          refine bf_aload r.1 dX4_allAreSo_74 rfl ?_
          refine bf_aload_n r.1 dX4_allAreSo_76 rfl ?_
          refine ig_ref r (b := 20) dX4_allAreSo_77 fl_X4_15 rfl (by decide) rfl ?_
          refine bf_iload r.1 dX4_allAreSo_80 rfl ?_
          refine ia_ld r (n := 8) (v := nI (rG Q i)) dX4_allAreSo_82 rfl (by decide) (by omega) (cr.2 i (by omega)).2.1 ?_
          refine cl_v r (y2 := mX3_lit) dX4_allAreSo_83 li_X4_41 mv_X3_lit (ad_c6 (Nat.lt_of_lt_of_le hri.1 hn4)) (ad_l6 (Nat.lt_of_lt_of_le hri.1 hn4)) [.int (nI (rG Q i))] [] rfl (Nat.le_of_ble_eq_true rfl) rfl (c_X3_lit (by omega) hv hc hri.1 hri.2.1) ?_
          show J 86 [some (.ref 18), some (.ref 2), some (.int (nI k)), some (.int (nI q)), some (.int (nI dd)), some (.int (nI i)), some (.ref (6 + 3 * (rP Q i))), none] [.int (nI (pB P (rP Q i) (rG Q i)))] (bf_MD D)
          refine bf_istore r.1 (L2 := [some (.ref 18), some (.ref 2), some (.int (nI k)), some (.int (nI q)), some (.int (nI dd)), some (.int (nI i)), some (.ref (6 + 3 * (rP Q i))), some (.int (nI (pB P (rP Q i) (rG Q i))))]) dX4_allAreSo_86 rfl ?_
          refine bf_iload r.1 dX4_allAreSo_88 rfl ?_
          refine bf_aload_n r.1 dX4_allAreSo_90 rfl ?_
          refine ig_ref r (b := 21) dX4_allAreSo_91 fl_X4_18 rfl (by decide) rfl ?_
          refine bf_iload r.1 dX4_allAreSo_94 rfl ?_
          refine ia_ld r (n := 8) (v := nI (rS Q i)) dX4_allAreSo_96 rfl (by decide) (by omega) (cr.2 i (by omega)).2.2 ?_
          refine nc_eq r (tgt := 102) dX4_allAreSo_97 (by decide) (bf_lt31 (pB_lt hv hri.1 _) (by decide)) (by omega) (fun c124 => ?_) (fun c124 => ?_)
          · refine na_inc r (v := i + 1) (L2 := [some (.ref 18), some (.ref 2), some (.int (nI k)), some (.int (nI q)), some (.int (nI dd)), some (.int (nI (i + 1))), some (.ref (6 + 3 * (rP Q i))), some (.int (nI (pB P (rP Q i) (rG Q i))))]) dX4_allAreSo_102 rfl (nI_add _ 1) rfl ?_
            refine bf_goto r.1 (tgt := 3) dX4_allAreSo_105 (by decide) ?_
            refine bf_fgt r.1 (i := 6) (L2 := [some (.ref 18), some (.ref 2), some (.int (nI k)), some (.int (nI q)), some (.int (nI dd)), some (.int (nI (i + 1))), none, some (.int (nI (pB P (rP Q i) (rG Q i))))]) rfl ?_
            refine bf_fgt r.1 (i := 7) (L2 := [some (.ref 18), some (.ref 2), some (.int (nI k)), some (.int (nI q)), some (.int (nI dd)), some (.int (nI (i + 1))), none, none]) rfl ?_
            exact ih c121 (lt_s hu (decide_eq_true (hb.trans c124)))
          · refine bf_iconst r.1 (v := nI 0) dX4_allAreSo_100 rfl ?_
            exact rt_i r dX4_allAreSo_101 rfl (by decide) (if_neg (fun h => c124 (by have h9 := of_decide_eq_true (bf_al_t.mp h i c121); rw [hb] at h9; exact h9))).symm rfl
        · have hb : pB (pSet P k q dd (pT P k) (pW P k)) (rP Q i) (rG Q i) = bf_bn q dd (pT P (rP Q i)) (rG Q i) := by rw [c123]; exact pSet_Bk
          refine bf_aload r.1 dX4_allAreSo_56 rfl ?_
          refine bf_iload_n r.1 dX4_allAreSo_58 rfl ?_
          refine bf_iload r.1 dX4_allAreSo_59 rfl ?_
          refine bf_aload_n r.1 dX4_allAreSo_61 rfl ?_
          refine ig_ref r (b := 20) dX4_allAreSo_62 fl_X4_15 rfl (by decide) rfl ?_
          refine bf_iload r.1 dX4_allAreSo_65 rfl ?_
          refine ia_ld r (n := 8) (v := nI (rG Q i)) dX4_allAreSo_67 rfl (by decide) (by omega) (cr.2 i (by omega)).2.1 ?_
          refine cl_v r (y2 := mX3_litIf) dX4_allAreSo_68 li_X4_35 mv_X3_litIf (ad_c6 (Nat.lt_of_lt_of_le hri.1 hn4)) (ad_l6 (Nat.lt_of_lt_of_le hri.1 hn4)) [.int (nI q), .int (nI dd), .int (nI (rG Q i))] [] rfl (Nat.le_of_ble_eq_true rfl) rfl (c_X3_litIf (by omega) hc.2.2 (Nat.lt_of_lt_of_le hri.1 hn4) (cP_t (P := P) hc hri.1) hq hdd hri.2.1) ?_
          show J 71 [some (.ref 18), some (.ref 2), some (.int (nI k)), some (.int (nI q)), some (.int (nI dd)), some (.int (nI i)), some (.ref (6 + 3 * (rP Q i))), none] [.int (nI (bf_bn q dd (pT P (rP Q i)) (rG Q i)))] (bf_MD D)
          refine bf_goto r.1 (tgt := 86) dX4_allAreSo_71 (by decide) ?_
          refine bf_istore r.1 (L2 := [some (.ref 18), some (.ref 2), some (.int (nI k)), some (.int (nI q)), some (.int (nI dd)), some (.int (nI i)), some (.ref (6 + 3 * (rP Q i))), some (.int (nI (bf_bn q dd (pT P (rP Q i)) (rG Q i))))]) dX4_allAreSo_86 rfl ?_
          refine bf_iload r.1 dX4_allAreSo_88 rfl ?_
          refine bf_aload_n r.1 dX4_allAreSo_90 rfl ?_
          refine ig_ref r (b := 21) dX4_allAreSo_91 fl_X4_18 rfl (by decide) rfl ?_
          refine bf_iload r.1 dX4_allAreSo_94 rfl ?_
          refine ia_ld r (n := 8) (v := nI (rS Q i)) dX4_allAreSo_96 rfl (by decide) (by omega) (cr.2 i (by omega)).2.2 ?_
          refine nc_eq r (tgt := 102) dX4_allAreSo_97 (by decide) (bf_lt31 (bf_bn_lt (vP_t hv hri.1)) (by decide)) (by omega) (fun c125 => ?_) (fun c125 => ?_)
          · refine na_inc r (v := i + 1) (L2 := [some (.ref 18), some (.ref 2), some (.int (nI k)), some (.int (nI q)), some (.int (nI dd)), some (.int (nI (i + 1))), some (.ref (6 + 3 * (rP Q i))), some (.int (nI (bf_bn q dd (pT P (rP Q i)) (rG Q i))))]) dX4_allAreSo_102 rfl (nI_add _ 1) rfl ?_
            refine bf_goto r.1 (tgt := 3) dX4_allAreSo_105 (by decide) ?_
            refine bf_fgt r.1 (i := 6) (L2 := [some (.ref 18), some (.ref 2), some (.int (nI k)), some (.int (nI q)), some (.int (nI dd)), some (.int (nI (i + 1))), none, some (.int (nI (bf_bn q dd (pT P (rP Q i)) (rG Q i))))]) rfl ?_
            refine bf_fgt r.1 (i := 7) (L2 := [some (.ref 18), some (.ref 2), some (.int (nI k)), some (.int (nI q)), some (.int (nI dd)), some (.int (nI (i + 1))), none, none]) rfl ?_
            exact ih c121 (lt_s hu (decide_eq_true (hb.trans c125)))
          · refine bf_iconst r.1 (v := nI 0) dX4_allAreSo_100 rfl ?_
            exact rt_i r dX4_allAreSo_101 rfl (by decide) (if_neg (fun h => c125 (by have h9 := of_decide_eq_true (bf_al_t.mp h i c121); rw [hb] at h9; exact h9))).symm rfl
      · exact absurd hri.1 c122
  exact loop 0 (by omega) lt_0
/-- does a number look as a row of cells, each told as digits -/
def bf_rw (F : Nat → Nat) (o : Nat) : Nat → Nat → Bool
  | 0, _ => true
  | k + 1, u => decide (¬ F (o + k) / 2 ^ (u % 10) &&& 1 = 0) && bf_rw F o k (u / 10)
theorem c_X6_isRow {d : Nat} (hd : 2 ≤ d) {D : bf_D} {F : Nat → Nat} {n rw u : Nat} (h1 : 1 ≤ n) (hn : n ≤ 4) (hr : rw < 10) (hu : u < 2 ^ 31) (hF : ∀ t, t < rw * n + n → D 23 t = nI (F t) ∧ F t < 1024) : bf_Cf d mX6_isRow [.ref 22, .int (nI n), .int (nI rw), .int (nI u)] D (some (.int (if bf_rw F (rw * n) n u = true then 1 else 0))) D := by
  refine bf_Cf_of 1 hd mo_X6_isRow (Nat.le_of_ble_eq_true rfl) (fun e he J r => ?_)
  show J 0 [some (.ref 22), some (.int (nI n)), some (.int (nI rw)), some (.int (nI u)), none, none, none] [] (bf_MD D)
  have hrn : rw * n ≤ 9 * n := Nat.mul_le_mul_right _ (by omega)
  refine bf_iload_n r.1 dX6_isRow_0 rfl ?_
  refine bf_istore r.1 (L2 := [some (.ref 22), some (.int (nI n)), some (.int (nI rw)), some (.int (nI u)), some (.int (nI u)), none, none]) dX6_isRow_1 rfl ?_
  refine bf_iload_n r.1 dX6_isRow_3 rfl ?_
  refine bf_iconst r.1 (v := nI 1) dX6_isRow_4 rfl ?_
  refine na_sub r dX6_isRow_5 (by omega) ?_
  refine bf_istore r.1 (L2 := [some (.ref 22), some (.int (nI n)), some (.int (nI rw)), some (.int (nI u)), some (.int (nI u)), some (.int (nI (n - 1))), none]) dX6_isRow_6 rfl ?_
  rw [show nI (n - 1) = nI n + Int32.ofInt (-1) from (bf_dec (by omega)).symm]
  have loop : ∀ (k v : Nat), k ≤ n → v < 2 ^ 31 → (if bf_rw F (rw * n) k v = true then (1 : Int32) else 0) = (if bf_rw F (rw * n) n u = true then (1 : Int32) else 0) → J 8 [some (.ref 22), some (.int (nI n)), some (.int (nI rw)), some (.int (nI u)), some (.int (nI v)), some (.int (nI k + Int32.ofInt (-1))), none] [] (bf_MD D) := by
    intro k
    induction k with
    | zero =>
      intro v hs0 hs1 he
      rw [bf_m0]
      refine bf_iload r.1 dX6_isRow_8 rfl ?_
      refine bf_if_lt r.1 (tgt := 67) dX6_isRow_10 (by decide) (fun c126 => ?_) (fun c126 => ?_)
      · refine bf_iconst r.1 (v := nI 1) dX6_isRow_67 rfl ?_
        exact rt_i r dX6_isRow_68 rfl (by decide) he rfl
      · exact absurd (by decide) c126
    | succ k ih =>
      intro v hs0 hs1 he
      rw [bf_ms1]
      have hFk := hF (rw * n + k) (by omega)
      have h10 : v % 10 < 10 := Nat.mod_lt _ (by decide)
      refine bf_iload r.1 dX6_isRow_8 rfl ?_
      refine nz_lt r (tgt := 67) dX6_isRow_10 (by decide) (by omega) (fun c127 => ?_) (fun c127 => ?_)
      · exact absurd c127 (Nat.not_lt_zero _)
      · refine bf_iload_n r.1 dX6_isRow_13 rfl ?_
        refine bf_iload_n r.1 dX6_isRow_14 rfl ?_
        refine na_mul r dX6_isRow_15  ?_
        refine bf_iload r.1 dX6_isRow_16 rfl ?_
        refine na_add r dX6_isRow_18  ?_
        refine bf_istore r.1 (L2 := [some (.ref 22), some (.int (nI n)), some (.int (nI rw)), some (.int (nI u)), some (.int (nI v)), some (.int (nI k)), some (.int (nI (rw * n + k)))]) dX6_isRow_19 rfl ?_
        refine bf_iload r.1 dX6_isRow_21 rfl ?_
        refine bf_aload_n r.1 dX6_isRow_23 rfl ?_
        refine ig_ref r (b := 23) dX6_isRow_24 fl_X6_9 rfl (by decide) rfl ?_
        refine al_en r dX6_isRow_27 rfl (by decide) ?_
        refine cl_s r (y2 := mX8_isWithin) dX6_isRow_28 li_X6_30 mv_X8_isWithin [.int (nI (rw * n + k)), .int (nI 40)] [] rfl (Nat.le_of_ble_eq_true rfl) rfl (c_X8_isWithinN (by omega) D (by omega) (by decide)) ?_
        show J 31 [some (.ref 22), some (.int (nI n)), some (.int (nI rw)), some (.int (nI u)), some (.int (nI v)), some (.int (nI k)), some (.int (nI (rw * n + k)))] [.int (if rw * n + k < 40 then 1 else 0)] (bf_MD D)
        refine nb_eq r (tgt := 52) dX6_isRow_31 (by decide) (fun c128 => ?_) (fun c128 => ?_)
        · exact absurd (by omega) c128
        · refine bf_aload_n r.1 dX6_isRow_34 rfl ?_
          refine ig_ref r (b := 23) dX6_isRow_35 fl_X6_9 rfl (by decide) rfl ?_
          refine bf_iload r.1 dX6_isRow_38 rfl ?_
          refine ia_ld r (n := 40) (v := nI (F (rw * n + k))) dX6_isRow_40 rfl (by decide) (by omega) hFk.1 ?_
          refine bf_iload r.1 dX6_isRow_41 rfl ?_
          refine bf_bipush r.1 (v := nI 10) dX6_isRow_43 rfl ?_
          refine na_rem r dX6_isRow_45 hs1 (by decide) (by decide) ?_
          refine na_shr r dX6_isRow_46 (by omega) (by omega) ?_
          refine bf_iconst r.1 (v := nI 1) dX6_isRow_47 rfl ?_
          refine na_and r dX6_isRow_48  ?_
          refine nz_ne r (tgt := 54) dX6_isRow_49 (by decide) (bf_and1_lt _) (fun c129 => ?_) (fun c129 => ?_)
          · refine bf_iload r.1 dX6_isRow_54 rfl ?_
            refine bf_bipush r.1 (v := nI 10) dX6_isRow_56 rfl ?_
            refine na_div r dX6_isRow_58 hs1 (by decide) (by decide) ?_
            refine bf_istore r.1 (L2 := [some (.ref 22), some (.int (nI n)), some (.int (nI rw)), some (.int (nI u)), some (.int (nI (v / 10))), some (.int (nI k)), some (.int (nI (rw * n + k)))]) dX6_isRow_59 rfl ?_
            refine bf_iinc r.1 (v := nI k + Int32.ofInt (-1)) (L2 := [some (.ref 22), some (.int (nI n)), some (.int (nI rw)), some (.int (nI u)), some (.int (nI (v / 10))), some (.int (nI k + Int32.ofInt (-1))), some (.int (nI (rw * n + k)))]) dX6_isRow_61 rfl rfl rfl ?_
            refine bf_goto r.1 (tgt := 8) dX6_isRow_64 (by decide) ?_
            refine bf_fgt r.1 (i := 6) (L2 := [some (.ref 22), some (.int (nI n)), some (.int (nI rw)), some (.int (nI u)), some (.int (nI (v / 10))), some (.int (nI k + Int32.ofInt (-1))), none]) rfl ?_
            exact ih _ (by omega) (by omega) (by rw [← he, show bf_rw F (rw * n) (k + 1) v = bf_rw F (rw * n) k (v / 10) from by simp only [bf_rw]; rw [decide_eq_true c129, Bool.true_and]])
          · refine bf_iconst r.1 (v := nI 0) dX6_isRow_52 rfl ?_
            exact rt_i r dX6_isRow_53 rfl (by decide) (by rw [← he, show bf_rw F (rw * n) (k + 1) v = false from by simp only [bf_rw]; rw [decide_eq_false (not_not_intro c129)]; rfl]; rfl) rfl
  exact loop n u (Nat.le_refl _) hu rfl
/-- does u begin rows that go on by s -/
def bf_bg (F : Nat → Nat) (n x s : Nat) (u r : Nat) : Bool := bf_al (fun i => decide (u + i * s < x) && bf_rw F (i * n) n (u + i * s)) r
theorem c_X6_isBegin {d : Nat} (hd : 3 ≤ d) {D : bf_D} {P : bf_Pn} (hv : vP P) (hc : cP D P) (h1 : 1 ≤ pN P) {F : Nat → Nat} {rs u s : Nat} (hrs : rs ≤ 10) (hs : s < 100) (hu : u < 10000) (hR : D 22 1 = nI rs) (hF : ∀ t, t < rs * pN P → D 23 t = nI (F t) ∧ F t < 1024) : bf_Cf d mX6_isBegin [.ref 22, .ref 2, .int (nI u), .int (nI s)] D (some (.int (if bf_bg F (pN P) (pX P) s u rs = true then 1 else 0))) D := by
  refine bf_Cf_of 2 hd mo_X6_isBegin (Nat.le_of_ble_eq_true rfl) (fun e he J r => ?_)
  show J 0 [some (.ref 22), some (.ref 2), some (.int (nI u)), some (.int (nI s)), none, none] [] (bf_MD D)
  have hn4 := hv.1
  have hx4 := pX_le hv
  have hx0 := pX_pos P
  refine bf_iload_n r.1 dX6_isBegin_0 rfl ?_
  refine bf_istore r.1 (L2 := [some (.ref 22), some (.ref 2), some (.int (nI u)), some (.int (nI s)), some (.int (nI u)), none]) dX6_isBegin_1 rfl ?_
  refine bf_iconst r.1 (v := nI 0) dX6_isBegin_3 rfl ?_
  refine bf_istore r.1 (L2 := [some (.ref 22), some (.ref 2), some (.int (nI u)), some (.int (nI s)), some (.int (nI u)), some (.int (nI 0))]) dX6_isBegin_4 rfl ?_
  have loop : ∀ i : Nat, i ≤ rs → (∀ j, j < i → (decide (u + j * s < pX P) && bf_rw F (j * pN P) (pN P) (u + j * s)) = true) → J 6 [some (.ref 22), some (.ref 2), some (.int (nI u)), some (.int (nI s)), some (.int (nI (u + i * s))), some (.int (nI i))] [] (bf_MD D) := by
    refine bf_down (fun i hle ih => ?_)
    intro hj
    have his : i * s ≤ 10 * s := Nat.mul_le_mul_right _ (by omega)
    refine bf_iload r.1 dX6_isBegin_6 rfl ?_
    refine bf_aload_n r.1 dX6_isBegin_8 rfl ?_
    refine ig_int r (v := nI rs) dX6_isBegin_9 fl_X6_15 rfl (by decide) rfl hR ?_
    refine nc_ge r (tgt := 53) dX6_isBegin_12 (by decide) (by omega) (by omega) (fun c130 => ?_) (fun c130 => ?_)
    · refine bf_iconst r.1 (v := nI 1) dX6_isBegin_53 rfl ?_
      exact rt_i r dX6_isBegin_54 rfl (by decide) (if_pos (bf_al_t.mpr (fun u h => hj u (by omega)))).symm rfl
    · refine bf_iload r.1 dX6_isBegin_15 rfl ?_
      refine bf_aload_n r.1 dX6_isBegin_17 rfl ?_
      refine ig_int r (v := nI (pX P - 1)) dX6_isBegin_18 fl_X6_43 rfl (by decide) rfl (cP_x (P := P) hc) ?_
      refine nc_gt r (tgt := 39) dX6_isBegin_21 (by decide) (by omega) (by omega) (fun c131 => ?_) (fun c131 => ?_)
      · refine bf_iconst r.1 (v := nI 0) dX6_isBegin_39 rfl ?_
        exact rt_i r dX6_isBegin_40 rfl (by decide) (if_neg (fun h => by have h9 := bf_al_t.mp h i c130; rw [decide_eq_false (by omega)] at h9; cases h9)).symm rfl
      · refine bf_aload_n r.1 dX6_isBegin_24 rfl ?_
        refine bf_aload_n r.1 dX6_isBegin_25 rfl ?_
        refine ig_int r (v := nI (pN P)) dX6_isBegin_26 fl_X6_19 rfl (by decide) rfl (cP_n (P := P) hc) ?_
        refine bf_iload r.1 dX6_isBegin_29 rfl ?_
        refine bf_iload r.1 dX6_isBegin_31 rfl ?_
        refine cl_v r (y2 := mX6_isRow) dX6_isBegin_33 li_X6_54 mv_X6_isRow rfl (by decide) [.int (nI (pN P)), .int (nI i), .int (nI (u + i * s))] [] rfl (Nat.le_of_ble_eq_true rfl) rfl (c_X6_isRow (by omega) (by omega) (by omega) (by omega) (by omega) (fun t ht => hF t (Nat.lt_of_lt_of_le ht (by rw [← Nat.succ_mul]; exact Nat.mul_le_mul_right _ c130)))) ?_
        show J 36 [some (.ref 22), some (.ref 2), some (.int (nI u)), some (.int (nI s)), some (.int (nI (u + i * s))), some (.int (nI i))] [.int (if bf_rw F (i * (pN P)) (pN P) (u + i * s) = true then 1 else 0)] (bf_MD D)
        refine nb_ne r (tgt := 41) dX6_isBegin_36 (by decide) (fun c132 => ?_) (fun c132 => ?_)
        · refine bf_iload r.1 dX6_isBegin_41 rfl ?_
          refine bf_iload_n r.1 dX6_isBegin_43 rfl ?_
          refine na_add r dX6_isBegin_44  ?_
          refine bf_istore r.1 (L2 := [some (.ref 22), some (.ref 2), some (.int (nI u)), some (.int (nI s)), some (.int (nI (u + i * s + s))), some (.int (nI i))]) dX6_isBegin_45 rfl ?_
          refine na_inc r (v := i + 1) (L2 := [some (.ref 22), some (.ref 2), some (.int (nI u)), some (.int (nI s)), some (.int (nI (u + i * s + s))), some (.int (nI (i + 1)))]) dX6_isBegin_47 rfl (nI_add _ 1) rfl ?_
          refine bf_goto r.1 (tgt := 6) dX6_isBegin_50 (by decide) ?_
          have hi := ih c130 (lt_s hj (by rw [Bool.and_eq_true]; exact ⟨decide_eq_true (by omega), c132⟩))
          rw [Nat.succ_mul, ← Nat.add_assoc] at hi
          exact hi
        · refine bf_iconst r.1 (v := nI 0) dX6_isBegin_39 rfl ?_
          exact rt_i r dX6_isBegin_40 rfl (by decide) (if_neg (fun h => by have h9 := bf_al_t.mp h i c130; rw [Bool.and_eq_true] at h9; exact c132 h9.2)).symm rfl
  have h0 := loop 0 (by omega) lt_0
  rw [Nat.zero_mul, Nat.add_zero] at h0
  exact h0
theorem c_X8_pick {d : Nat} (hd : 1 ≤ d) (D : bf_D) (wh a b c : Int32) : bf_Cf d mX8_pick [.int (wh), .int (a), .int (b), .int (c)] D (some (.int (if wh = 0 then a else if wh = nI 1 then b else c))) D := by
  refine bf_Cf_of 0 hd mo_X8_pick (Nat.le_of_ble_eq_true rfl) (fun e he J r => ?_)
  show J 0 [some (.int (wh)), some (.int (a)), some (.int (b)), some (.int (c))] [] (bf_MD D)
  refine bf_iload_n r.1 dX8_pick_0 rfl ?_
  refine bf_if_ne r.1 (tgt := 8) dX8_pick_1 (by decide) (fun c133 => ?_) (fun c133 => ?_)
  · refine bf_iload_n r.1 dX8_pick_8 rfl ?_
    refine bf_iconst r.1 (v := nI 1) dX8_pick_9 rfl ?_
    refine bf_icmp_ne r.1 (tgt := 17) dX8_pick_10 (by decide) (fun c134 => ?_) (fun c134 => ?_)
    · refine bf_iload_n r.1 dX8_pick_17 rfl ?_
      exact rt_i r dX8_pick_18 rfl rfl (by rw [if_neg c133, if_neg c134]) rfl
    · refine bf_iload_n r.1 dX8_pick_13 rfl ?_
      refine bf_goto r.1 (tgt := 18) dX8_pick_14 (by decide) ?_
      exact rt_i r dX8_pick_18 rfl rfl (by rw [if_neg c133, if_pos c134]) rfl
  · refine bf_iload_n r.1 dX8_pick_4 rfl ?_
    refine bf_goto r.1 (tgt := 18) dX8_pick_5 (by decide) ?_
    exact rt_i r dX8_pick_18 rfl rfl (by rw [if_pos c133]) rfl
def bf_le (p : Nat → Bool) : Nat → Int32
  | 0 => -9
  | n + 1 => if p n = true then (if bf_ct p n = 0 then nI n else bf_le p n) else bf_le p n
def bf_gr (p : Nat → Bool) : Nat → Int32
  | 0 => -9
  | n + 1 => if p n = true then nI n else bf_gr p n
def bf_pk (p : Nat → Bool) (n : Nat) (wh : Int32) : Int32 := if wh = 0 then nI (bf_ct p n) else if wh = nI 1 then bf_le p n else bf_gr p n
theorem c_X6_begins {d : Nat} (hd : 4 ≤ d) {D : bf_D} {P : bf_Pn} (hv : vP P) (hc : cP D P) (h1 : 1 ≤ pN P) {F : Nat → Nat} {rs s : Nat} (hrs : rs ≤ 10) (hs : s < 100) (hR : D 22 1 = nI rs) (hF : ∀ t, t < rs * pN P → D 23 t = nI (F t) ∧ F t < 1024) (wh : Int32) : bf_Cf d mX6_begins [.ref 22, .ref 2, .int (nI s), .int (wh)] D (some (.int (bf_pk (fun u => bf_bg F (pN P) (pX P) s u rs) (pX P) wh))) D := by
  refine bf_Cf_of 3 hd mo_X6_begins (Nat.le_of_ble_eq_true rfl) (fun e he J r => ?_)
  show J 0 [some (.ref 22), some (.ref 2), some (.int (nI s)), some (.int (wh)), none, none, none, none] [] (bf_MD D)
  have hn4 := hv.1
  have hx4 := pX_le hv
  have hx0 := pX_pos P
  refine bf_iconst r.1 (v := nI 0) dX6_begins_0 rfl ?_
  refine bf_istore r.1 (L2 := [some (.ref 22), some (.ref 2), some (.int (nI s)), some (.int (wh)), some (.int (nI 0)), none, none, none]) dX6_begins_1 rfl ?_
  refine bf_bipush r.1 (v := -9) dX6_begins_3 rfl ?_
  refine bf_istore r.1 (L2 := [some (.ref 22), some (.ref 2), some (.int (nI s)), some (.int (wh)), some (.int (nI 0)), some (.int (-9)), none, none]) dX6_begins_5 rfl ?_
  refine bf_bipush r.1 (v := -9) dX6_begins_7 rfl ?_
  refine bf_istore r.1 (L2 := [some (.ref 22), some (.ref 2), some (.int (nI s)), some (.int (wh)), some (.int (nI 0)), some (.int (-9)), some (.int (-9)), none]) dX6_begins_9 rfl ?_
  refine bf_iconst r.1 (v := nI 0) dX6_begins_11 rfl ?_
  refine bf_istore r.1 (L2 := [some (.ref 22), some (.ref 2), some (.int (nI s)), some (.int (wh)), some (.int (nI 0)), some (.int (-9)), some (.int (-9)), some (.int (nI 0))]) dX6_begins_12 rfl ?_
  have loop : ∀ u : Nat, u ≤ (pX P) → J 14 [some (.ref 22), some (.ref 2), some (.int (nI s)), some (.int (wh)), some (.int (nI (bf_ct (fun u => bf_bg F (pN P) (pX P) s u rs) u))), some (.int (bf_le (fun u => bf_bg F (pN P) (pX P) s u rs) u)), some (.int (bf_gr (fun u => bf_bg F (pN P) (pX P) s u rs) u)), some (.int (nI u))] [] (bf_MD D) := by
    refine bf_down (fun u hle ih => ?_)
    have hct := bf_ct_le (fun u => bf_bg F (pN P) (pX P) s u rs) u
    refine bf_iload r.1 dX6_begins_14 rfl ?_
    refine bf_aload_n r.1 dX6_begins_16 rfl ?_
    refine ig_int r (v := nI (pX P - 1)) dX6_begins_17 fl_X6_43 rfl (by decide) rfl (cP_x (P := P) hc) ?_
    refine nc_gt r (tgt := 61) dX6_begins_20 (by decide) (by omega) (by omega) (fun c135 => ?_) (fun c135 => ?_)
    · refine bf_iload_n r.1 dX6_begins_61 rfl ?_
      refine bf_iload r.1 dX6_begins_62 rfl ?_
      refine bf_iload r.1 dX6_begins_64 rfl ?_
      refine bf_iload r.1 dX6_begins_66 rfl ?_
      refine cl_s r (y2 := mX8_pick) dX6_begins_68 li_X6_50 mv_X8_pick [.int (wh), .int (nI (bf_ct (fun u => bf_bg F (pN P) (pX P) s u rs) u)), .int (bf_le (fun u => bf_bg F (pN P) (pX P) s u rs) u), .int (bf_gr (fun u => bf_bg F (pN P) (pX P) s u rs) u)] [] rfl (Nat.le_of_ble_eq_true rfl) rfl (c_X8_pick (by omega) D wh (nI (bf_ct (fun u => bf_bg F (pN P) (pX P) s u rs) u)) (bf_le (fun u => bf_bg F (pN P) (pX P) s u rs) u) (bf_gr (fun u => bf_bg F (pN P) (pX P) s u rs) u)) ?_
      show J 71 [some (.ref 22), some (.ref 2), some (.int (nI s)), some (.int (wh)), some (.int (nI (bf_ct (fun u => bf_bg F (pN P) (pX P) s u rs) u))), some (.int (bf_le (fun u => bf_bg F (pN P) (pX P) s u rs) u)), some (.int (bf_gr (fun u => bf_bg F (pN P) (pX P) s u rs) u)), some (.int (nI u))] [.int (if wh = 0 then nI (bf_ct (fun u => bf_bg F (pN P) (pX P) s u rs) u) else if wh = nI 1 then bf_le (fun u => bf_bg F (pN P) (pX P) s u rs) u else bf_gr (fun u => bf_bg F (pN P) (pX P) s u rs) u)] (bf_MD D)
      have eu : u = pX P := by omega
      subst eu
      exact rt_i r dX6_begins_71 rfl rfl rfl rfl
    · refine bf_aload_n r.1 dX6_begins_23 rfl ?_
      refine bf_aload_n r.1 dX6_begins_24 rfl ?_
      refine bf_iload r.1 dX6_begins_25 rfl ?_
      refine bf_iload_n r.1 dX6_begins_27 rfl ?_
      refine cl_v r (y2 := mX6_isBegin) dX6_begins_28 li_X6_46 mv_X6_isBegin rfl (by decide) [.ref 2, .int (nI u), .int (nI s)] [] rfl (Nat.le_of_ble_eq_true rfl) rfl (c_X6_isBegin (by omega) hv hc h1 hrs hs (by omega) hR hF) ?_
      show J 31 [some (.ref 22), some (.ref 2), some (.int (nI s)), some (.int (wh)), some (.int (nI (bf_ct (fun u => bf_bg F (pN P) (pX P) s u rs) u))), some (.int (bf_le (fun u => bf_bg F (pN P) (pX P) s u rs) u)), some (.int (bf_gr (fun u => bf_bg F (pN P) (pX P) s u rs) u)), some (.int (nI u))] [.int (if bf_bg F (pN P) (pX P) s u rs = true then 1 else 0)] (bf_MD D)
      refine nb_eq r (tgt := 55) dX6_begins_31 (by decide) (fun c136 => ?_) (fun c136 => ?_)
      · refine na_inc r (v := u + 1) (L2 := [some (.ref 22), some (.ref 2), some (.int (nI s)), some (.int (wh)), some (.int (nI (bf_ct (fun u => bf_bg F (pN P) (pX P) s u rs) u))), some (.int (bf_le (fun u => bf_bg F (pN P) (pX P) s u rs) u)), some (.int (bf_gr (fun u => bf_bg F (pN P) (pX P) s u rs) u)), some (.int (nI (u + 1)))]) dX6_begins_55 rfl (nI_add _ 1) rfl ?_
        refine bf_goto r.1 (tgt := 14) dX6_begins_58 (by decide) ?_
        have hi := ih (by omega)
        rw [bf_ct_f (p := (fun u => bf_bg F (pN P) (pX P) s u rs)) (n := u) c136, Nat.add_zero] at hi
        simp only [bf_le, bf_gr] at hi
        rw [if_neg c136, if_neg c136] at hi
        exact hi
      · refine bf_iload r.1 dX6_begins_34 rfl ?_
        refine nz_ne r (tgt := 44) dX6_begins_36 (by decide) (by omega) (fun c137 => ?_) (fun c137 => ?_)
        · refine bf_iload r.1 dX6_begins_44 rfl ?_
          refine bf_istore r.1 (L2 := [some (.ref 22), some (.ref 2), some (.int (nI s)), some (.int (wh)), some (.int (nI (bf_ct (fun u => bf_bg F (pN P) (pX P) s u rs) u))), some (.int (bf_le (fun u => bf_bg F (pN P) (pX P) s u rs) u)), some (.int (bf_gr (fun u => bf_bg F (pN P) (pX P) s u rs) u)), some (.int (nI u))]) dX6_begins_46 rfl ?_
          refine bf_iload r.1 dX6_begins_48 rfl ?_
          refine bf_istore r.1 (L2 := [some (.ref 22), some (.ref 2), some (.int (nI s)), some (.int (wh)), some (.int (nI (bf_ct (fun u => bf_bg F (pN P) (pX P) s u rs) u))), some (.int (bf_le (fun u => bf_bg F (pN P) (pX P) s u rs) u)), some (.int (nI u)), some (.int (nI u))]) dX6_begins_50 rfl ?_
          refine na_inc r (v := bf_ct (fun u => bf_bg F (pN P) (pX P) s u rs) u + 1) (L2 := [some (.ref 22), some (.ref 2), some (.int (nI s)), some (.int (wh)), some (.int (nI (bf_ct (fun u => bf_bg F (pN P) (pX P) s u rs) u + 1))), some (.int (bf_le (fun u => bf_bg F (pN P) (pX P) s u rs) u)), some (.int (nI u)), some (.int (nI u))]) dX6_begins_52 rfl (nI_add _ 1) rfl ?_
          refine na_inc r (v := u + 1) (L2 := [some (.ref 22), some (.ref 2), some (.int (nI s)), some (.int (wh)), some (.int (nI (bf_ct (fun u => bf_bg F (pN P) (pX P) s u rs) u + 1))), some (.int (bf_le (fun u => bf_bg F (pN P) (pX P) s u rs) u)), some (.int (nI u)), some (.int (nI (u + 1)))]) dX6_begins_55 rfl (nI_add _ 1) rfl ?_
          refine bf_goto r.1 (tgt := 14) dX6_begins_58 (by decide) ?_
          have hi := ih (by omega)
          rw [bf_ct_t (p := (fun u => bf_bg F (pN P) (pX P) s u rs)) (n := u) c136] at hi
          simp only [bf_le, bf_gr] at hi
          rw [if_pos c136, if_pos c136, if_neg c137] at hi
          exact hi
        · refine bf_iload r.1 dX6_begins_39 rfl ?_
          refine bf_goto r.1 (tgt := 46) dX6_begins_41 (by decide) ?_
          refine bf_istore r.1 (L2 := [some (.ref 22), some (.ref 2), some (.int (nI s)), some (.int (wh)), some (.int (nI (bf_ct (fun u => bf_bg F (pN P) (pX P) s u rs) u))), some (.int (nI u)), some (.int (bf_gr (fun u => bf_bg F (pN P) (pX P) s u rs) u)), some (.int (nI u))]) dX6_begins_46 rfl ?_
          refine bf_iload r.1 dX6_begins_48 rfl ?_
          refine bf_istore r.1 (L2 := [some (.ref 22), some (.ref 2), some (.int (nI s)), some (.int (wh)), some (.int (nI (bf_ct (fun u => bf_bg F (pN P) (pX P) s u rs) u))), some (.int (nI u)), some (.int (nI u)), some (.int (nI u))]) dX6_begins_50 rfl ?_
          refine na_inc r (v := bf_ct (fun u => bf_bg F (pN P) (pX P) s u rs) u + 1) (L2 := [some (.ref 22), some (.ref 2), some (.int (nI s)), some (.int (wh)), some (.int (nI (bf_ct (fun u => bf_bg F (pN P) (pX P) s u rs) u + 1))), some (.int (nI u)), some (.int (nI u)), some (.int (nI u))]) dX6_begins_52 rfl (nI_add _ 1) rfl ?_
          refine na_inc r (v := u + 1) (L2 := [some (.ref 22), some (.ref 2), some (.int (nI s)), some (.int (wh)), some (.int (nI (bf_ct (fun u => bf_bg F (pN P) (pX P) s u rs) u + 1))), some (.int (nI u)), some (.int (nI u)), some (.int (nI (u + 1)))]) dX6_begins_55 rfl (nI_add _ 1) rfl ?_
          refine bf_goto r.1 (tgt := 14) dX6_begins_58 (by decide) ?_
          have hi := ih (by omega)
          rw [bf_ct_t (p := (fun u => bf_bg F (pN P) (pX P) s u rs)) (n := u) c136] at hi
          simp only [bf_le, bf_gr] at hi
          rw [if_pos c136, if_pos c136, if_pos c137] at hi
          exact hi
  exact loop 0 (by omega) 
