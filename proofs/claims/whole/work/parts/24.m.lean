theorem cP_fr {D D' : bf_D} {P : bf_Pn} {lo hi : Nat} (h : cP D P) (hf : bf_fr lo hi D D') (hh : 18 ≤ lo) (hn : pN P ≤ 4) : cP D' P :=
  ⟨⟨(hf _ _ (by omega)).trans (cP_n h), (hf _ _ (by omega)).trans (cP_l h), (hf _ _ (by omega)).trans (cP_s h), (hf _ _ (by omega)).trans (cP_x h)⟩, fun k hk => ⟨(hf _ _ (by omega)).trans (cP_k h hk), (hf _ _ (by omega)).trans (cP_d h hk), (hf _ _ (by omega)).trans (cP_t h hk), fun d hd => (hf _ _ (by omega)).trans (cP_b h hk hd), fun b hb => (hf _ _ (by omega)).trans (cP_w h hk hb)⟩, fun i hi => (hf _ _ (by omega)).trans (cP_lk h hi)⟩
theorem cR_fr {D D' : bf_D} {Q : bf_Rd} {lo hi : Nat} (h : cR D Q) (hf : bf_fr lo hi D D') (hh : 22 ≤ lo ∨ hi ≤ 18) : cR D' Q :=
  ⟨(hf _ _ (by omega)).trans h.1, fun i hi => ⟨(hf _ _ (by omega)).trans (h.2 i hi).1, (hf _ _ (by omega)).trans (h.2 i hi).2.1, (hf _ _ (by omega)).trans (h.2 i hi).2.2⟩⟩
theorem bf_fr_fd {lo hi : Nat} {D D' : bf_D} {b : Nat} {f : Nat → Int32} {n : Nat} (h : bf_fr lo hi D D') (hb : lo ≤ b ∧ b < hi) : bf_fr lo hi D (bf_fd D' b f n) := fun a j ha => (bf_fd_out (by omega)).trans (h a j ha)
theorem bf_modA {t n : Nat} (h : t % n + 1 < n) : (t + 1) % n = t % n + 1 := by
  rw [Nat.add_mod, Nat.mod_eq_of_lt (show 1 < n by omega), Nat.mod_eq_of_lt h]
theorem bf_modB {t n : Nat} (h0 : 0 < n) (h : n ≤ t % n + 1) : (t + 1) % n = 0 := by
  have h1 := Nat.mod_lt t h0
  have e : t % n = n - 1 := by omega
  rw [Nat.add_mod, e]
  rcases Nat.lt_or_ge 1 n with h2 | h2
  · rw [Nat.mod_eq_of_lt h2, show n - 1 + 1 = n by omega, Nat.mod_self]
  · have : n = 1 := by omega
    subst this; rfl
/-- cells that are sets, as numbers -/
def bf_cn (c : Nat → Int32) (t : Nat) : Nat := (c t).toNatClampNeg
def bf_sF (P : bf_Pn) (c : Nat → Int32) (t : Nat) : Nat := pM P (t % pN P) (bf_cn c t)
def bf_fD (D : bf_D) (P : bf_Pn) (c : Nat → Int32) (n t : Nat) : bf_D := bf_fd (bf_u D 22 1 (nI n)) 23 (fun t => nI (bf_sF P c t)) t
theorem e_X6_fill {d : Nat} (hd : 4 ≤ d) {D0 : bf_D} {P : bf_Pn} (hv : vP P) (hc0 : cP D0 P) (h1 : 1 ≤ pN P) {S : bf_Sh} (vs : vS S) (cs0 : cS D0 S) {k : Nat} (hk : k < 4) {n i z : Nat} (hz : sZ S k = some z) (hn : n ≤ 10) (hi : i + n * pN P ≤ z) : bf_Ce d mX6_fill [.ref 22, .ref 2, .ref (29 + 2 * k), .int (nI i), .int (nI n)] D0 (fun r D' => bf_fr 22 24 D0 D' ∧ ((r = some (.int 1) ∧ (∀ t, t < n * pN P → 0 ≤ (fun u => sC S k (i + u)) t ∧ (fun u => sC S k (i + u)) t < nI 128) ∧ D' 22 1 = nI n ∧ ∀ t, t < n * pN P → D' 23 t = nI (bf_sF P (fun u => sC S k (i + u)) t)) ∨ (r = some (.int 0) ∧ ¬ ∀ t, t < n * pN P → 0 ≤ (fun u => sC S k (i + u)) t ∧ (fun u => sC S k (i + u)) t < nI 128))) := by
  refine bf_Ce_of 3 hd mo_X6_fill (Nat.le_of_ble_eq_true rfl) (fun e he J r => ?_)
  show J 0 [some (.ref 22), some (.ref 2), some (.ref (29 + 2 * k)), some (.int (nI i)), some (.int (nI n)), none, none, none] [] (bf_MD D0)
  have hn4 := hv.1
  have hx4 := pX_le hv
  have h60 := (vs k hk).2 z hz
  have hnp : n * pN P ≤ 10 * pN P := Nat.mul_le_mul_right _ hn
  have hc := hc0
  have cs := cs0
  refine bf_aload_n r.1 dX6_fill_0 rfl ?_
  refine bf_iload r.1 dX6_fill_1 rfl ?_
  refine ip_int r dX6_fill_3 fp_X6_15 rfl (by decide) rfl ?_
  refine bf_iconst r.1 (v := nI 0) dX6_fill_6 rfl ?_
  refine bf_istore r.1 (L2 := [some (.ref 22), some (.ref 2), some (.ref (29 + 2 * k)), some (.int (nI i)), some (.int (nI n)), some (.int (nI 0)), none, none]) dX6_fill_7 rfl ?_
  refine bf_iconst r.1 (v := nI 0) dX6_fill_9 rfl ?_
  refine bf_istore r.1 (L2 := [some (.ref 22), some (.ref 2), some (.ref (29 + 2 * k)), some (.int (nI i)), some (.int (nI n)), some (.int (nI 0)), some (.int (nI 0)), none]) dX6_fill_10 rfl ?_
  have loop : ∀ t : Nat, t ≤ (n * pN P) → (∀ u, u < t → 0 ≤ (fun u => sC S k (i + u)) u ∧ (fun u => sC S k (i + u)) u < nI 128) → J 12 [some (.ref 22), some (.ref 2), some (.ref (29 + 2 * k)), some (.int (nI i)), some (.int (nI n)), some (.int (nI (t % pN P))), some (.int (nI t)), none] [] (bf_MD (bf_fD D0 P (fun u => sC S k (i + u)) n t)) := by
    refine bf_down (fun t hle ih => ?_)
    intro hu
    have hf : bf_fr 22 24 D0 (bf_fD D0 P (fun u => sC S k (i + u)) n t) := bf_fr_fd (bf_fr_u bf_fr_rf (by omega)) (by omega)
    have hc := cP_fr hc0 hf (by decide) hn4
    have cs := cS_fr cs0 hf (by decide)
    have hkm : t % pN P < pN P := Nat.mod_lt _ h1
    refine bf_iload r.1 dX6_fill_12 rfl ?_
    refine bf_iload r.1 dX6_fill_14 rfl ?_
    refine bf_aload_n r.1 dX6_fill_16 rfl ?_
    refine ig_int r (v := nI (pN P)) dX6_fill_17 fl_X6_19 rfl (by decide) rfl (cP_n (P := P) hc) ?_
    refine na_mul r dX6_fill_20  ?_
    refine nc_ge r (tgt := 103) dX6_fill_21 (by decide) (by omega) (by omega) (fun c138 => ?_) (fun c138 => ?_)
    · refine bf_iconst r.1 (v := nI 1) dX6_fill_103 rfl ?_
      have et : t = n * pN P := by omega
      subst et
      exact re_i r dX6_fill_104 rfl (by decide) ⟨hf, Or.inl ⟨rfl, hu, (bf_fd_out (by omega)).trans bf_us, fun t ht => bf_fd_in ht⟩⟩
    · refine bf_iload r.1 dX6_fill_24 rfl ?_
      refine bf_aload_n r.1 dX6_fill_26 rfl ?_
      refine ig_ref r (b := 23) dX6_fill_27 fl_X6_9 rfl (by decide) rfl ?_
      refine al_en r dX6_fill_30 rfl (by decide) ?_
      refine nc_ge r (tgt := 103) dX6_fill_31 (by decide) (by omega) (by decide) (fun c139 => ?_) (fun c139 => ?_)
      · exact absurd c139 (by omega)
      · refine bf_aload_n r.1 dX6_fill_34 rfl ?_
        refine bf_iload_n r.1 dX6_fill_35 rfl ?_
        refine bf_iload r.1 dX6_fill_36 rfl ?_
        refine na_add r dX6_fill_38  ?_
        refine cl_v r (y2 := mX5_read) dX6_fill_39 li_X6_24 mv_X5_read (ad_c29 hk) (ad_l29 hk) [.int (nI (i + t))] [] rfl (Nat.le_of_ble_eq_true rfl) rfl (c_X5_read (by omega) vs cs hk hz (by omega)) ?_
        show J 42 [some (.ref 22), some (.ref 2), some (.ref (29 + 2 * k)), some (.int (nI i)), some (.int (nI n)), some (.int (nI (t % pN P))), some (.int (nI t)), none] [.int (sC S k (i + t))] (bf_MD (bf_fD D0 P (fun u => sC S k (i + u)) n t))
        refine bf_istore r.1 (L2 := [some (.ref 22), some (.ref 2), some (.ref (29 + 2 * k)), some (.int (nI i)), some (.int (nI n)), some (.int (nI (t % pN P))), some (.int (nI t)), some (.int (sC S k (i + t)))]) dX6_fill_42 rfl ?_
        refine bf_iload r.1 dX6_fill_44 rfl ?_
        refine bf_sipush r.1 (v := nI 128) dX6_fill_46 rfl ?_
        refine cl_s r (y2 := mX8_isWithin) dX6_fill_49 li_X6_30 mv_X8_isWithin [.int (sC S k (i + t)), .int (nI 128)] [] rfl (Nat.le_of_ble_eq_true rfl) rfl (c_X8_isWithin (by omega) (bf_fD D0 P (fun u => sC S k (i + u)) n t) _ _) ?_
        show J 52 [some (.ref 22), some (.ref 2), some (.ref (29 + 2 * k)), some (.int (nI i)), some (.int (nI n)), some (.int (nI (t % pN P))), some (.int (nI t)), some (.int (sC S k (i + t)))] [.int (if 0 ≤ sC S k (i + t) ∧ sC S k (i + t) < nI 128 then 1 else 0)] (bf_MD (bf_fD D0 P (fun u => sC S k (i + u)) n t))
        refine nb_ne r (tgt := 57) dX6_fill_52 (by decide) (fun c140 => ?_) (fun c140 => ?_)
        · obtain ⟨x, hx, ex⟩ := bf_wi (by decide) c140
          have hcx : bf_cn (fun u => sC S k (i + u)) t = x := by unfold bf_cn; show (sC S k (i + t)).toNatClampNeg = x; rw [ex]; exact nI_clamp (by omega)
          rw [ex]
          refine bf_aload_n r.1 dX6_fill_57 rfl ?_
          refine ig_ref r (b := 23) dX6_fill_58 fl_X6_9 rfl (by decide) rfl ?_
          refine bf_iload r.1 dX6_fill_61 rfl ?_
          refine bf_aload_n r.1 dX6_fill_63 rfl ?_
          refine ig_ref r (b := 3) dX6_fill_64 fl_X6_34 rfl (by decide) rfl ?_
          refine bf_iload r.1 dX6_fill_67 rfl ?_
          refine aa_ld r (n := 4) (b := 6 + 3 * (t % pN P)) dX6_fill_69 (by decide) rfl (by decide) (Nat.lt_of_lt_of_le hkm hn4) (ad_a3 (Nat.lt_of_lt_of_le hkm hn4)) ?_
          refine bf_iload r.1 dX6_fill_70 rfl ?_
          refine cl_v r (y2 := mX3_digitsOf) dX6_fill_72 li_X6_38 mv_X3_digitsOf (ad_c6 (Nat.lt_of_lt_of_le hkm hn4)) (ad_l6 (Nat.lt_of_lt_of_le hkm hn4)) [.int (nI x)] [.int (nI t), .ref 23] rfl (Nat.le_of_ble_eq_true rfl) rfl (c_X3_digitsOf (by omega) hv hc hkm (by omega)) ?_
          show J 75 [some (.ref 22), some (.ref 2), some (.ref (29 + 2 * k)), some (.int (nI i)), some (.int (nI n)), some (.int (nI (t % pN P))), some (.int (nI t)), some (.int (nI x))] [.int (nI (pM P (t % pN P) x)), .int (nI t), .ref 23] (bf_MD (bf_fD D0 P (fun u => sC S k (i + u)) n t))
          refine eq_i (v := nI (bf_sF P (fun u => sC S k (i + u)) t)) (by unfold bf_sF; rw [hcx]) ?_
          refine ia_st r (n := 40) dX6_fill_75 rfl (by decide) (by omega) ?_
          refine bf_iload r.1 dX6_fill_76 rfl ?_
          refine bf_iconst r.1 (v := nI 1) dX6_fill_78 rfl ?_
          refine na_add r dX6_fill_79  ?_
          refine bf_aload_n r.1 dX6_fill_80 rfl ?_
          refine ig_int r (v := nI (pN P)) dX6_fill_81 fl_X6_19 rfl (by decide) rfl ((bf_un (by omega)).trans (cP_n hc)) ?_
          refine nc_ge r (tgt := 94) dX6_fill_84 (by decide) (by omega) (by omega) (fun c141 => ?_) (fun c141 => ?_)
          · refine bf_iconst r.1 (v := nI 0) dX6_fill_94 rfl ?_
            refine bf_istore r.1 (L2 := [some (.ref 22), some (.ref 2), some (.ref (29 + 2 * k)), some (.int (nI i)), some (.int (nI n)), some (.int (nI 0)), some (.int (nI t)), some (.int (nI x))]) dX6_fill_95 rfl ?_
            refine na_inc r (v := t + 1) (L2 := [some (.ref 22), some (.ref 2), some (.ref (29 + 2 * k)), some (.int (nI i)), some (.int (nI n)), some (.int (nI 0)), some (.int (nI (t + 1))), some (.int (nI x))]) dX6_fill_97 rfl (nI_add _ 1) rfl ?_
            refine bf_goto r.1 (tgt := 12) dX6_fill_100 (by decide) ?_
            refine bf_fgt r.1 (i := 7) (L2 := [some (.ref 22), some (.ref 2), some (.ref (29 + 2 * k)), some (.int (nI i)), some (.int (nI n)), some (.int (nI 0)), some (.int (nI (t + 1))), none]) rfl ?_
            have hi2 := ih c138 (lt_s hu c140)
            rw [bf_modB (by omega) c141] at hi2
            exact hi2
          · refine bf_iload r.1 dX6_fill_87 rfl ?_
            refine bf_iconst r.1 (v := nI 1) dX6_fill_89 rfl ?_
            refine na_add r dX6_fill_90  ?_
            refine bf_goto r.1 (tgt := 95) dX6_fill_91 (by decide) ?_
            refine bf_istore r.1 (L2 := [some (.ref 22), some (.ref 2), some (.ref (29 + 2 * k)), some (.int (nI i)), some (.int (nI n)), some (.int (nI (t % pN P + 1))), some (.int (nI t)), some (.int (nI x))]) dX6_fill_95 rfl ?_
            refine na_inc r (v := t + 1) (L2 := [some (.ref 22), some (.ref 2), some (.ref (29 + 2 * k)), some (.int (nI i)), some (.int (nI n)), some (.int (nI (t % pN P + 1))), some (.int (nI (t + 1))), some (.int (nI x))]) dX6_fill_97 rfl (nI_add _ 1) rfl ?_
            refine bf_goto r.1 (tgt := 12) dX6_fill_100 (by decide) ?_
            refine bf_fgt r.1 (i := 7) (L2 := [some (.ref 22), some (.ref 2), some (.ref (29 + 2 * k)), some (.int (nI i)), some (.int (nI n)), some (.int (nI (t % pN P + 1))), some (.int (nI (t + 1))), none]) rfl ?_
            have hi2 := ih c138 (lt_s hu c140)
            rw [bf_modA c141] at hi2
            exact hi2
        · refine bf_iconst r.1 (v := nI 0) dX6_fill_55 rfl ?_
          exact re_i r dX6_fill_56 rfl (by decide) ⟨hf, Or.inr ⟨rfl, fun h => c140 (h t c138)⟩⟩
  have h0 := loop 0 (by omega) lt_0
  rw [Nat.zero_mod] at h0
  exact h0
theorem e_X1_fill {d : Nat} (hd : 4 ≤ d) {D0 : bf_D} {P : bf_Pn} (hv : vP P) (hc0 : cP D0 P) {S : bf_Sh} (vs : vS S) (cs0 : cS D0 S) {k : Nat} (hk : k < 4) {n i z : Nat} (hz : sZ S k = some z) (hn : n ≤ 6) (hi : i + n ≤ z) : bf_Ce d mX1_fill [.ref 24, .ref 2, .ref (29 + 2 * k), .int (nI i), .int (nI n)] D0 (fun r D' => bf_fr 24 29 D0 D' ∧ ((r = some (.int 1) ∧ (∀ t, t < n → 0 ≤ (fun u => sC S k (i + u)) t ∧ (fun u => sC S k (i + u)) t < nI (pX P)) ∧ D' 24 4 = nI n ∧ ∀ a, a < n → ∀ b, b < n → D' 26 (a * 6 + b) = nI (pF P (bf_cn (fun u => sC S k (i + u)) a) (bf_cn (fun u => sC S k (i + u)) b))) ∨ (r = some (.int 0) ∧ ¬ ∀ t, t < n → 0 ≤ (fun u => sC S k (i + u)) t ∧ (fun u => sC S k (i + u)) t < nI (pX P)))) := by
  refine bf_Ce_of 3 hd mo_X1_fill (Nat.le_of_ble_eq_true rfl) (fun e he J r => ?_)
  show J 0 [some (.ref 24), some (.ref 2), some (.ref (29 + 2 * k)), some (.int (nI i)), some (.int (nI n)), none, none] [] (bf_MD D0)
  have hn4 := hv.1
  have hx4 := pX_le hv
  have h60 := (vs k hk).2 z hz
  have hc := hc0
  have cs := cs0
  refine bf_aload_n r.1 dX1_fill_0 rfl ?_
  refine bf_iload r.1 dX1_fill_1 rfl ?_
  refine bf_bipush r.1 (v := nI 6) dX1_fill_3 rfl ?_
  refine cl_min r dX1_fill_5 lw_X1_24 (Nat.le_of_ble_eq_true rfl) ?_
  refine eq_i (v := nI n) ?_ ?_
  · by_cases h : nI 6 < nI n
    · exact absurd ((nI_ltI (by decide) (by omega)).mp h) (by omega)
    · rw [if_neg h]
  refine ip_int r dX1_fill_8 fp_X1_30 rfl (by decide) rfl ?_
  refine bf_iconst r.1 (v := nI 0) dX1_fill_11 rfl ?_
  refine bf_istore r.1 (L2 := [some (.ref 24), some (.ref 2), some (.ref (29 + 2 * k)), some (.int (nI i)), some (.int (nI n)), some (.int (nI 0)), none]) dX1_fill_12 rfl ?_
  have loop : ∀ t : Nat, t ≤ n → (∀ u, u < t → 0 ≤ (fun u => sC S k (i + u)) u ∧ (fun u => sC S k (i + u)) u < nI (pX P)) → J 14 [some (.ref 24), some (.ref 2), some (.ref (29 + 2 * k)), some (.int (nI i)), some (.int (nI n)), some (.int (nI t)), none] [] (bf_MD (bf_fd (bf_u D0 24 4 (nI n)) 25 (fun u => sC S k (i + u)) t)) := by
    refine bf_down (fun t hle ih => ?_)
    intro hu
    have hf : bf_fr 24 29 D0 (bf_fd (bf_u D0 24 4 (nI n)) 25 (fun u => sC S k (i + u)) t) := bf_fr_fd (bf_fr_u bf_fr_rf (by omega)) (by omega)
    have hc := cP_fr hc0 hf (by decide) hn4
    have cs := cS_fr cs0 hf (by decide)
    refine bf_iload r.1 dX1_fill_14 rfl ?_
    refine bf_aload_n r.1 dX1_fill_16 rfl ?_
    refine ig_int r (v := nI n) dX1_fill_17 fl_X1_30 rfl (by decide) rfl ((bf_fd_out (by omega)).trans bf_us) ?_
    refine nc_ge r (tgt := 60) dX1_fill_20 (by decide) (by omega) (by omega) (fun c142 => ?_) (fun c142 => ?_)
    · refine bf_iconst r.1 (v := nI 0) dX1_fill_60 rfl ?_
      refine bf_istore r.1 (L2 := [some (.ref 24), some (.ref 2), some (.ref (29 + 2 * k)), some (.int (nI i)), some (.int (nI n)), some (.int (nI 0)), none]) dX1_fill_61 rfl ?_
      have et : n = t := by omega
      subst et
      have hnum : ∀ u, u < n → ∃ y, y < pX P ∧ sC S k (i + u) = nI y ∧ bf_cn (fun u => sC S k (i + u)) u = y := fun u h => by
        obtain ⟨y, hy, ey⟩ := bf_wi (show pX P < 2 ^ 31 by omega) (hu u h)
        exact ⟨y, hy, ey, by unfold bf_cn; rw [ey]; exact nI_clamp (by omega)⟩
      have hnb : ∀ u, u < n → (bf_fd (bf_u D0 24 4 (nI n)) 25 (fun u => sC S k (i + u)) n) 25 u = nI (bf_cn (fun u => sC S k (i + u)) u) ∧ bf_cn (fun u => sC S k (i + u)) u < pX P := fun u h => by
        obtain ⟨y, hy, ey, ec⟩ := hnum u h
        exact ⟨by rw [bf_fd_in h, ec]; exact ey, by rw [ec]; exact hy⟩
      have h24 : (bf_fd (bf_u D0 24 4 (nI n)) 25 (fun u => sC S k (i + u)) n) 24 4 = nI n := (bf_fd_out (by omega)).trans bf_us
      generalize hDg : bf_fd (bf_u D0 24 4 (nI n)) 25 (fun u => sC S k (i + u)) n = D1 at hf hc cs hnb h24 ⊢
      have lo : ∀ a : Nat, a ≤ n → ∀ D : bf_D, bf_fr 26 27 D1 D → (∀ a1, a1 < a → ∀ b, b < n → D 26 (a1 * 6 + b) = nI (pF P (bf_cn (fun u => sC S k (i + u)) a1) (bf_cn (fun u => sC S k (i + u)) b))) → J 63 [some (.ref 24), some (.ref 2), some (.ref (29 + 2 * k)), some (.int (nI i)), some (.int (nI n)), some (.int (nI a)), none] [] (bf_MD D) := by
        refine bf_down (fun a hle ih => ?_)
        intro D hfD hg
        refine bf_iload r.1 dX1_fill_63 rfl ?_
        refine bf_aload_n r.1 dX1_fill_65 rfl ?_
        refine ig_int r (v := nI n) dX1_fill_66 fl_X1_30 rfl (by decide) rfl ((hfD _ _ (by omega)).trans h24) ?_
        refine nc_ge r (tgt := 127) dX1_fill_69 (by decide) (by omega) (by omega) (fun c143 => ?_) (fun c143 => ?_)
        · refine bf_iconst r.1 (v := nI 1) dX1_fill_127 rfl ?_
          exact re_i r dX1_fill_128 rfl (by decide) ⟨bf_fr_tr hf (bf_fr_w hfD (by decide) (by decide)), Or.inl ⟨rfl, hu, (hfD _ _ (by omega)).trans h24, fun a1 h1 => hg a1 (by omega)⟩⟩
        · refine bf_iconst r.1 (v := nI 0) dX1_fill_72 rfl ?_
          refine bf_istore r.1 (L2 := [some (.ref 24), some (.ref 2), some (.ref (29 + 2 * k)), some (.int (nI i)), some (.int (nI n)), some (.int (nI a)), some (.int (nI 0))]) dX1_fill_73 rfl ?_
          have ih0 := ih
          have li : ∀ b : Nat, b ≤ n → ∀ D2 : bf_D, bf_fr 26 27 D1 D2 → (∀ a1, a1 < a → ∀ b1, b1 < n → D2 26 (a1 * 6 + b1) = nI (pF P (bf_cn (fun u => sC S k (i + u)) a1) (bf_cn (fun u => sC S k (i + u)) b1))) → (∀ b1, b1 < b → D2 26 (a * 6 + b1) = nI (pF P (bf_cn (fun u => sC S k (i + u)) a) (bf_cn (fun u => sC S k (i + u)) b1))) → J 75 [some (.ref 24), some (.ref 2), some (.ref (29 + 2 * k)), some (.int (nI i)), some (.int (nI n)), some (.int (nI a)), some (.int (nI b))] [] (bf_MD D2) := by
            refine bf_down (fun b hle2 ih => ?_)
            intro D2 hfD2 hg2 hb
            have hc := cP_fr hc (bf_fr_w hfD2 (Nat.le_refl _) (Nat.le_refl _)) (by decide) hn4
            refine bf_iload r.1 dX1_fill_75 rfl ?_
            refine bf_aload_n r.1 dX1_fill_77 rfl ?_
            refine ig_int r (v := nI n) dX1_fill_78 fl_X1_30 rfl (by decide) rfl ((hfD2 _ _ (by omega)).trans h24) ?_
            refine nc_ge r (tgt := 121) dX1_fill_81 (by decide) (by omega) (by omega) (fun c144 => ?_) (fun c144 => ?_)
            · refine na_inc r (v := a + 1) (L2 := [some (.ref 24), some (.ref 2), some (.ref (29 + 2 * k)), some (.int (nI i)), some (.int (nI n)), some (.int (nI (a + 1))), some (.int (nI b))]) dX1_fill_121 rfl (nI_add _ 1) rfl ?_
              refine bf_goto r.1 (tgt := 63) dX1_fill_124 (by decide) ?_
              refine bf_fgt r.1 (i := 6) (L2 := [some (.ref 24), some (.ref 2), some (.ref (29 + 2 * k)), some (.int (nI i)), some (.int (nI n)), some (.int (nI (a + 1))), none]) rfl ?_
              refine ih0 (by omega) _ hfD2 (fun a1 h1 b1 h2 => ?_)
              by_cases e1 : a1 = a
              · subst e1; exact hb b1 (by omega)
              · exact hg2 a1 (by omega) b1 h2
            · refine bf_aload_n r.1 dX1_fill_84 rfl ?_
              refine ig_ref r (b := 26) dX1_fill_85 fl_X1_15 rfl (by decide) rfl ?_
              refine bf_iload r.1 dX1_fill_88 rfl ?_
              refine bf_bipush r.1 (v := nI 6) dX1_fill_90 rfl ?_
              refine na_mul r dX1_fill_92  ?_
              refine bf_iload r.1 dX1_fill_93 rfl ?_
              refine na_add r dX1_fill_95  ?_
              refine bf_aload_n r.1 dX1_fill_96 rfl ?_
              refine bf_aload_n r.1 dX1_fill_97 rfl ?_
              refine ig_ref r (b := 25) dX1_fill_98 fl_X1_9 rfl (by decide) rfl ?_
              refine bf_iload r.1 dX1_fill_101 rfl ?_
              refine ia_ld r (n := 6) (v := nI (bf_cn (fun u => sC S k (i + u)) a)) dX1_fill_103 rfl (by decide) (by omega) ((hfD2 _ _ (by omega)).trans (hnb _ (by omega)).1) ?_
              refine bf_aload_n r.1 dX1_fill_104 rfl ?_
              refine ig_ref r (b := 25) dX1_fill_105 fl_X1_9 rfl (by decide) rfl ?_
              refine bf_iload r.1 dX1_fill_108 rfl ?_
              refine ia_ld r (n := 6) (v := nI (bf_cn (fun u => sC S k (i + u)) b)) dX1_fill_110 rfl (by decide) (by omega) ((hfD2 _ _ (by omega)).trans (hnb _ (by omega)).1) ?_
              refine cl_v r (y2 := mX2_flipsBetween) dX1_fill_111 li_X1_46 mv_X2_flipsBetween rfl (by decide) [.int (nI (bf_cn (fun u => sC S k (i + u)) a)), .int (nI (bf_cn (fun u => sC S k (i + u)) b))] [.int (nI (a * 6 + b)), .ref 26] rfl (Nat.le_of_ble_eq_true rfl) rfl (c_X2_flipsBetween (by omega) hv hc (by have := (hnb a (by omega)).2; omega) (by have := (hnb b (by omega)).2; omega)) ?_
              show J 114 [some (.ref 24), some (.ref 2), some (.ref (29 + 2 * k)), some (.int (nI i)), some (.int (nI n)), some (.int (nI a)), some (.int (nI b))] [.int (nI (pF P (bf_cn (fun u => sC S k (i + u)) a) (bf_cn (fun u => sC S k (i + u)) b))), .int (nI (a * 6 + b)), .ref 26] (bf_MD D2)
              refine ia_st r (n := 36) dX1_fill_114 rfl (by decide) (by omega) ?_
              refine na_inc r (v := b + 1) (L2 := [some (.ref 24), some (.ref 2), some (.ref (29 + 2 * k)), some (.int (nI i)), some (.int (nI n)), some (.int (nI a)), some (.int (nI (b + 1)))]) dX1_fill_115 rfl (nI_add _ 1) rfl ?_
              refine bf_goto r.1 (tgt := 75) dX1_fill_118 (by decide) ?_
              refine ih (by omega) _ (bf_fr_u hfD2 (by omega)) (fun a1 h1 b1 h2 => (bf_un (by omega)).trans (hg2 a1 h1 b1 h2)) (fun b1 h2 => ?_)
              by_cases e1 : b1 = b
              · subst e1; exact bf_us
              · exact (bf_un (by omega)).trans (hb b1 (by omega))
          exact li 0 (Nat.zero_le _) D hfD hg lt_0
      exact lo 0 (Nat.zero_le _) D1 bf_fr_rf lt_0
    · refine bf_aload_n r.1 dX1_fill_23 rfl ?_
      refine ig_ref r (b := 25) dX1_fill_24 fl_X1_9 rfl (by decide) rfl ?_
      refine bf_iload r.1 dX1_fill_27 rfl ?_
      refine bf_aload_n r.1 dX1_fill_29 rfl ?_
      refine bf_iload_n r.1 dX1_fill_30 rfl ?_
      refine bf_iload r.1 dX1_fill_31 rfl ?_
      refine na_add r dX1_fill_33  ?_
      refine cl_v r (y2 := mX5_read) dX1_fill_34 li_X1_34 mv_X5_read (ad_c29 hk) (ad_l29 hk) [.int (nI (i + t))] [.int (nI t), .ref 25] rfl (Nat.le_of_ble_eq_true rfl) rfl (c_X5_read (by omega) vs cs hk hz (by omega)) ?_
      show J 37 [some (.ref 24), some (.ref 2), some (.ref (29 + 2 * k)), some (.int (nI i)), some (.int (nI n)), some (.int (nI t)), none] [.int (sC S k (i + t)), .int (nI t), .ref 25] (bf_MD (bf_fd (bf_u D0 24 4 (nI n)) 25 (fun u => sC S k (i + u)) t))
      refine ia_st r (n := 6) dX1_fill_37 rfl (by decide) (by omega) ?_
      have hf2 : bf_fr 24 29 D0 (bf_u (bf_fd (bf_u D0 24 4 (nI n)) 25 (fun u => sC S k (i + u)) t) 25 t (sC S k (i + t))) := bf_fr_u hf (by omega)
      have hc := cP_fr hc0 hf2 (by decide) hn4
      refine bf_aload_n r.1 dX1_fill_38 rfl ?_
      refine bf_aload_n r.1 dX1_fill_39 rfl ?_
      refine ig_ref r (b := 25) dX1_fill_40 fl_X1_9 rfl (by decide) rfl ?_
      refine bf_iload r.1 dX1_fill_43 rfl ?_
      refine ia_ld r (n := 6) (v := sC S k (i + t)) dX1_fill_45 rfl (by decide) (by omega) bf_us ?_
      refine cl_v r (y2 := mX2_isNumber) dX1_fill_46 li_X1_40 mv_X2_isNumber rfl (by decide) [.int (sC S k (i + t))] [] rfl (Nat.le_of_ble_eq_true rfl) rfl (c_X2_isNumber (by omega) hv hc _) ?_
      show J 49 [some (.ref 24), some (.ref 2), some (.ref (29 + 2 * k)), some (.int (nI i)), some (.int (nI n)), some (.int (nI t)), none] [.int (if 0 ≤ sC S k (i + t) ∧ sC S k (i + t) < nI (pX P) then 1 else 0)] (bf_MD (bf_u (bf_fd (bf_u D0 24 4 (nI n)) 25 (fun u => sC S k (i + u)) t) 25 t (sC S k (i + t))))
      refine nb_ne r (tgt := 54) dX1_fill_49 (by decide) (fun c145 => ?_) (fun c145 => ?_)
      · refine na_inc r (v := t + 1) (L2 := [some (.ref 24), some (.ref 2), some (.ref (29 + 2 * k)), some (.int (nI i)), some (.int (nI n)), some (.int (nI (t + 1))), none]) dX1_fill_54 rfl (nI_add _ 1) rfl ?_
        refine bf_goto r.1 (tgt := 14) dX1_fill_57 (by decide) ?_
        exact ih c142 (lt_s hu c145)
      · refine bf_iconst r.1 (v := nI 0) dX1_fill_52 rfl ?_
        exact re_i r dX1_fill_53 rfl (by decide) ⟨hf2, Or.inr ⟨rfl, fun h => c145 (h t c142)⟩⟩
  exact loop 0 (by omega) lt_0
