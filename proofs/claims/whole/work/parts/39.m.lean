/-! the reference: what is kept and brought back; when a bar dies -/
def kpR (D D' : bf_D) (n : Nat) : Prop := D' 37 13 = D 37 3 ∧ (∀ k, k < n → D' 45 k = D 39 k) ∧ (∀ x, x < 28 → D' 46 x = D 41 x) ∧ ∀ a j, a ≠ 45 → a ≠ 46 → (a ≠ 37 ∨ j ≠ 13) → D' a j = D a j
def bkR (D D' : bf_D) (n : Nat) : Prop := D' 37 3 = D 37 13 ∧ (∀ k, k < n → D' 39 k = D 45 k) ∧ (∀ x, x < 28 → D' 41 x = D 46 x) ∧ ∀ a j, a ≠ 39 → a ≠ 41 → (a ≠ 37 ∨ j ≠ 3) → D' a j = D a j
theorem kp_bk {D D1 D3 D4 : bf_D} {n : Nat} (h1 : kpR D D1 n) (h2 : ∀ a j, a ≠ 39 → a ≠ 41 → (a ≠ 37 ∨ j ≠ 3) → D3 a j = D1 a j) (h3 : bkR D3 D4 n) : ∀ a j, a ≠ 45 → a ≠ 46 → (a ≠ 37 ∨ j ≠ 13) → (a ≠ 39 ∨ j < n) → (a ≠ 41 ∨ j < 28) → D4 a j = D a j := by
  intro a j q1 q2 q3 q4 q5
  by_cases e1 : a = 39
  · subst e1; rw [h3.2.1 j (by omega), h2 _ _ (by decide) (by decide) (by omega)]; exact h1.2.1 j (by omega)
  · by_cases e2 : a = 41
    · subst e2; rw [h3.2.2.1 j (by omega), h2 _ _ (by decide) (by decide) (by omega)]; exact h1.2.2.1 j (by omega)
    · by_cases e3 : a = 37 ∧ j = 3
      · rw [e3.1, e3.2, h3.1, h2 _ _ (by decide) (by decide) (by omega)]; exact h1.1
      · rw [h3.2.2.2 a j e1 e2 (by omega), h2 a j e1 e2 (by omega)]; exact h1.2.2.2 a j q1 q2 q3
theorem mA_kp {D D4 : bf_D} {P : bf_Pn} {S : bf_Sh} {Q : bf_Rd} {F : Nat} {T : Int32} (hn : pN P ≤ 4) (h : mA D (P, S, Q, F, T)) (e : ∀ a j, a ≠ 45 → a ≠ 46 → (a ≠ 37 ∨ j ≠ 13) → (a ≠ 39 ∨ j < pN P) → (a ≠ 41 ∨ j < 28) → D4 a j = D a j) : mA D4 (P, S, Q, F, T) := by
  obtain ⟨h1, h2, h3, h4, h5⟩ := h
  refine ⟨⟨⟨?_, ?_, ?_⟩, fun k hk => ⟨?_, ?_, ?_, fun b hb => ?_⟩⟩, mS_e h2 (fun a j q => e a j (by omega) (by omega) (by omega) (by omega) (by omega)), mR_e h3 (fun a j q => e a j (by omega) (by omega) (by omega) (by omega) (by omega)), ?_, ?_⟩
  · exact (e _ _ (by omega) (by omega) (by omega) (by omega) (by omega)).trans (mP_n h1)
  · exact (e _ _ (by omega) (by omega) (by omega) (by omega) (by omega)).trans (mP_l h1)
  · exact (e _ _ (by omega) (by omega) (by omega) (by omega) (by omega)).trans (mP_s h1)
  · exact (e _ _ (by omega) (by omega) (by omega) (by omega) (by omega)).trans (mP_k h1 hk)
  · exact (e _ _ (by omega) (by omega) (by omega) (by omega) (by omega)).trans (mP_d h1 hk)
  · exact (e _ _ (by omega) (by omega) (by omega) (by omega) (by omega)).trans (mP_t h1 hk)
  · exact (e _ _ (by omega) (by omega) (by omega) (by omega) (by omega)).trans (mP_w h1 hk hb)
  · exact (e _ _ (by omega) (by omega) (by omega) (by omega) (by omega)).trans h4
  · exact (e _ _ (by omega) (by omega) (by omega) (by omega) (by omega)).trans h5
theorem e_X9_keepAll {d : Nat} (hd : 1 ≤ d) {D : bf_D} {n : Nat} (hn : D 37 1 = nI n) (hn4 : n ≤ 4) : bf_Ce d mX9_keepAll [.ref 37] D (fun r D' => r = none ∧ kpR D D' n) := by
  refine bf_Ce_of 0 hd mo_X9_keepAll (Nat.le_of_ble_eq_true rfl) (fun e he J r => ?_)
  show J 0 [some (.ref 37), none] [] (bf_MD D)
  refine bf_aload_n r.1 dX9_keepAll_0 rfl ?_
  refine bf_aload_n r.1 dX9_keepAll_1 rfl ?_
  refine ig_int r (v := D 37 3) dX9_keepAll_2 fl_X9_132 rfl (by decide) rfl rfl ?_
  refine ip_int r dX9_keepAll_5 fp_X9_196 rfl (by decide) rfl ?_
  refine bf_iconst r.1 (v := nI 0) dX9_keepAll_8 rfl ?_
  refine bf_istore_n r.1 (L2 := [some (.ref 37), some (.int (nI 0))]) dX9_keepAll_9 rfl ?_
  have lo : ∀ t : Nat, t ≤ n → ∀ D2 : bf_D, (∀ a q, a ≠ 45 → D2 a q = (bf_u D 37 13 (D 37 3)) a q) → (∀ b, b < t → D2 45 b = D 39 b) → J 10 [some (.ref 37), some (.int (nI t))] [] (bf_MD D2) := by
    refine bf_down (fun t hle ih => ?_)
    intro D2 hO hI
    refine bf_iload_n r.1 dX9_keepAll_10 rfl ?_
    refine bf_aload_n r.1 dX9_keepAll_11 rfl ?_
    refine ig_int r (v := nI n) dX9_keepAll_12 fl_X9_77 rfl (by decide) rfl ((hO _ _ (by decide)).trans ((bf_un (by decide)).trans hn)) ?_
    refine nc_ge r (tgt := 36) dX9_keepAll_15 (by decide) (by omega) (by omega) (fun c480 => ?_) (fun c480 => ?_)
    · have et : t = n := by omega
      refine bf_iconst r.1 (v := nI 0) dX9_keepAll_36 rfl ?_
      refine bf_istore_n r.1 (L2 := [some (.ref 37), some (.int (nI 0))]) dX9_keepAll_37 rfl ?_
      have lo2 : ∀ s : Nat, s ≤ 28 → ∀ D3 : bf_D, (∀ a q, a ≠ 46 → D3 a q = D2 a q) → (∀ b, b < s → D3 46 b = D 41 b) → J 38 [some (.ref 37), some (.int (nI s))] [] (bf_MD D3) := by
        refine bf_down (fun s hle2 ih => ?_)
        intro D3 hO3 hI3
        refine bf_iload_n r.1 dX9_keepAll_38 rfl ?_
        refine bf_bipush r.1 (v := nI 28) dX9_keepAll_39 rfl ?_
        refine nc_ge r (tgt := 62) dX9_keepAll_41 (by decide) (by omega) (by decide) (fun c481 => ?_) (fun c481 => ?_)
        · exact re_v r dX9_keepAll_62 rfl ⟨rfl, (hO3 _ _ (by decide)).trans ((hO _ _ (by decide)).trans bf_us), fun k hk => (hO3 _ _ (by decide)).trans (hI k (by omega)), fun x hx => hI3 x (by omega), fun a q h1 h2 h3 => (hO3 a q h2).trans ((hO a q h1).trans (bf_un h3))⟩
        · refine bf_aload_n r.1 dX9_keepAll_44 rfl ?_
          refine ig_ref r (b := 46) dX9_keepAll_45 fl_X9_34 rfl (by decide) rfl ?_
          refine bf_iload_n r.1 dX9_keepAll_48 rfl ?_
          refine bf_aload_n r.1 dX9_keepAll_49 rfl ?_
          refine ig_ref r (b := 41) dX9_keepAll_50 fl_X9_19 rfl (by decide) rfl ?_
          refine bf_iload_n r.1 dX9_keepAll_53 rfl ?_
          refine ia_ld r (n := 28) (v := D3 41 s) dX9_keepAll_54 rfl (by decide) (by omega) rfl ?_
          refine ia_st r (n := 28) dX9_keepAll_55 rfl (by decide) (by omega) ?_
          refine na_inc r (v := s + 1) (L2 := [some (.ref 37), some (.int (nI (s + 1)))]) dX9_keepAll_56 rfl (nI_add _ 1) rfl ?_
          refine bf_goto r.1 (tgt := 38) dX9_keepAll_59 (by decide) ?_
          refine ih (by omega) _ (fun a q h => (bf_un (Or.inl h)).trans (hO3 a q h)) (fun b hb => ?_)
          by_cases eb : b = s
          · subst eb; rw [bf_us]; exact (hO3 _ _ (by decide)).trans ((hO _ _ (by decide)).trans (bf_un (by omega)))
          · rw [bf_un (by omega)]; exact hI3 b (by omega)
      exact lo2 0 (by omega) D2 (fun _ _ _ => rfl) (fun b hb => absurd hb (Nat.not_lt_zero _))
    · refine bf_aload_n r.1 dX9_keepAll_18 rfl ?_
      refine ig_ref r (b := 45) dX9_keepAll_19 fl_X9_31 rfl (by decide) rfl ?_
      refine bf_iload_n r.1 dX9_keepAll_22 rfl ?_
      refine bf_aload_n r.1 dX9_keepAll_23 rfl ?_
      refine ig_ref r (b := 39) dX9_keepAll_24 fl_X9_13 rfl (by decide) rfl ?_
      refine bf_iload_n r.1 dX9_keepAll_27 rfl ?_
      refine ia_ld r (n := 4) (v := D2 39 t) dX9_keepAll_28 rfl (by decide) (by omega) rfl ?_
      refine ia_st r (n := 4) dX9_keepAll_29 rfl (by decide) (by omega) ?_
      refine na_inc r (v := t + 1) (L2 := [some (.ref 37), some (.int (nI (t + 1)))]) dX9_keepAll_30 rfl (nI_add _ 1) rfl ?_
      refine bf_goto r.1 (tgt := 10) dX9_keepAll_33 (by decide) ?_
      refine ih (by omega) _ (fun a q h => (bf_un (Or.inl h)).trans (hO a q h)) (fun b hb => ?_)
      by_cases eb : b = t
      · subst eb; rw [bf_us]; exact (hO _ _ (by decide)).trans (bf_un (by omega))
      · rw [bf_un (by omega)]; exact hI b (by omega)
  exact lo 0 (Nat.zero_le _) _ (fun _ _ _ => rfl) (fun b hb => absurd hb (Nat.not_lt_zero _))
theorem e_X9_bringBack {d : Nat} (hd : 1 ≤ d) {D : bf_D} {n : Nat} (hn : D 37 1 = nI n) (hn4 : n ≤ 4) : bf_Ce d mX9_bringBack [.ref 37] D (fun r D' => r = none ∧ bkR D D' n) := by
  refine bf_Ce_of 0 hd mo_X9_bringBack (Nat.le_of_ble_eq_true rfl) (fun e he J r => ?_)
  show J 0 [some (.ref 37), none] [] (bf_MD D)
  refine bf_aload_n r.1 dX9_bringBack_0 rfl ?_
  refine bf_aload_n r.1 dX9_bringBack_1 rfl ?_
  refine ig_int r (v := D 37 13) dX9_bringBack_2 fl_X9_196 rfl (by decide) rfl rfl ?_
  refine ip_int r dX9_bringBack_5 fp_X9_132 rfl (by decide) rfl ?_
  refine bf_iconst r.1 (v := nI 0) dX9_bringBack_8 rfl ?_
  refine bf_istore_n r.1 (L2 := [some (.ref 37), some (.int (nI 0))]) dX9_bringBack_9 rfl ?_
  have lo : ∀ t : Nat, t ≤ n → ∀ D2 : bf_D, (∀ a q, a ≠ 39 → D2 a q = (bf_u D 37 3 (D 37 13)) a q) → (∀ b, b < t → D2 39 b = D 45 b) → J 10 [some (.ref 37), some (.int (nI t))] [] (bf_MD D2) := by
    refine bf_down (fun t hle ih => ?_)
    intro D2 hO hI
    refine bf_iload_n r.1 dX9_bringBack_10 rfl ?_
    refine bf_aload_n r.1 dX9_bringBack_11 rfl ?_
    refine ig_int r (v := nI n) dX9_bringBack_12 fl_X9_77 rfl (by decide) rfl ((hO _ _ (by decide)).trans ((bf_un (by decide)).trans hn)) ?_
    refine nc_ge r (tgt := 36) dX9_bringBack_15 (by decide) (by omega) (by omega) (fun c482 => ?_) (fun c482 => ?_)
    · have et : t = n := by omega
      refine bf_iconst r.1 (v := nI 0) dX9_bringBack_36 rfl ?_
      refine bf_istore_n r.1 (L2 := [some (.ref 37), some (.int (nI 0))]) dX9_bringBack_37 rfl ?_
      have lo2 : ∀ s : Nat, s ≤ 28 → ∀ D3 : bf_D, (∀ a q, a ≠ 41 → D3 a q = D2 a q) → (∀ b, b < s → D3 41 b = D 46 b) → J 38 [some (.ref 37), some (.int (nI s))] [] (bf_MD D3) := by
        refine bf_down (fun s hle2 ih => ?_)
        intro D3 hO3 hI3
        refine bf_iload_n r.1 dX9_bringBack_38 rfl ?_
        refine bf_bipush r.1 (v := nI 28) dX9_bringBack_39 rfl ?_
        refine nc_ge r (tgt := 62) dX9_bringBack_41 (by decide) (by omega) (by decide) (fun c483 => ?_) (fun c483 => ?_)
        · exact re_v r dX9_bringBack_62 rfl ⟨rfl, (hO3 _ _ (by decide)).trans ((hO _ _ (by decide)).trans bf_us), fun k hk => (hO3 _ _ (by decide)).trans (hI k (by omega)), fun x hx => hI3 x (by omega), fun a q h1 h2 h3 => (hO3 a q h2).trans ((hO a q h1).trans (bf_un h3))⟩
        · refine bf_aload_n r.1 dX9_bringBack_44 rfl ?_
          refine ig_ref r (b := 41) dX9_bringBack_45 fl_X9_19 rfl (by decide) rfl ?_
          refine bf_iload_n r.1 dX9_bringBack_48 rfl ?_
          refine bf_aload_n r.1 dX9_bringBack_49 rfl ?_
          refine ig_ref r (b := 46) dX9_bringBack_50 fl_X9_34 rfl (by decide) rfl ?_
          refine bf_iload_n r.1 dX9_bringBack_53 rfl ?_
          refine ia_ld r (n := 28) (v := D3 46 s) dX9_bringBack_54 rfl (by decide) (by omega) rfl ?_
          refine ia_st r (n := 28) dX9_bringBack_55 rfl (by decide) (by omega) ?_
          refine na_inc r (v := s + 1) (L2 := [some (.ref 37), some (.int (nI (s + 1)))]) dX9_bringBack_56 rfl (nI_add _ 1) rfl ?_
          refine bf_goto r.1 (tgt := 38) dX9_bringBack_59 (by decide) ?_
          refine ih (by omega) _ (fun a q h => (bf_un (Or.inl h)).trans (hO3 a q h)) (fun b hb => ?_)
          by_cases eb : b = s
          · subst eb; rw [bf_us]; exact (hO3 _ _ (by decide)).trans ((hO _ _ (by decide)).trans (bf_un (by omega)))
          · rw [bf_un (by omega)]; exact hI3 b (by omega)
      exact lo2 0 (by omega) D2 (fun _ _ _ => rfl) (fun b hb => absurd hb (Nat.not_lt_zero _))
    · refine bf_aload_n r.1 dX9_bringBack_18 rfl ?_
      refine ig_ref r (b := 39) dX9_bringBack_19 fl_X9_13 rfl (by decide) rfl ?_
      refine bf_iload_n r.1 dX9_bringBack_22 rfl ?_
      refine bf_aload_n r.1 dX9_bringBack_23 rfl ?_
      refine ig_ref r (b := 45) dX9_bringBack_24 fl_X9_31 rfl (by decide) rfl ?_
      refine bf_iload_n r.1 dX9_bringBack_27 rfl ?_
      refine ia_ld r (n := 4) (v := D2 45 t) dX9_bringBack_28 rfl (by decide) (by omega) rfl ?_
      refine ia_st r (n := 4) dX9_bringBack_29 rfl (by decide) (by omega) ?_
      refine na_inc r (v := t + 1) (L2 := [some (.ref 37), some (.int (nI (t + 1)))]) dX9_bringBack_30 rfl (nI_add _ 1) rfl ?_
      refine bf_goto r.1 (tgt := 10) dX9_bringBack_33 (by decide) ?_
      refine ih (by omega) _ (fun a q h => (bf_un (Or.inl h)).trans (hO a q h)) (fun b hb => ?_)
      by_cases eb : b = t
      · subst eb; rw [bf_us]; exact (hO _ _ (by decide)).trans (bf_un (by omega))
      · rw [bf_un (by omega)]; exact hI b (by omega)
  exact lo 0 (Nat.zero_le _) _ (fun _ _ _ => rfl) (fun b hb => absurd hb (Nat.not_lt_zero _))
theorem bf_bitN (x b : Nat) : x / 2 ^ b &&& 1 = (x.testBit b).toNat := by
  cases h : x.testBit b with
  | true => exact (bf_tb1 _ _).mpr h
  | false => exact (bf_tb0 _ _).mpr h
section
variable {P : bf_Pn}
theorem gP_c (hv : vP P) : ∀ j, pL (gP P j) = pL P ∧ (∀ i, pK (gP P j) i = pK P i) ∧ ∀ i, pT (gP P j) i = pT P i := by
  intro j
  induction j with
  | zero => exact ⟨rfl, fun _ => rfl, fun _ => rfl⟩
  | succ j ih =>
    have e : gP P (j + 1) = pSh (pAll (gP P j) (fF (gP P j)) (pN (gP P j))) (pNx (gP P j) (pS (gP P j))) := pMs_all (gP_v hv j).1.2.2.2.1
    rw [e]
    exact ih
theorem gP_S (hv : vP P) (j : Nat) : pS (gP P (j + 1)) = pNx P (pS (gP P j)) := by
  have e : gP P (j + 1) = pSh (pAll (gP P j) (fF (gP P j)) (pN (gP P j))) (pNx (gP P j) (pS (gP P j))) := pMs_all (gP_v hv j).1.2.2.2.1
  rw [e]
  exact pNx_eq (gP_v hv j).2 _
theorem gP_D (hv : vP P) {k : Nat} (hk : k < pN P) (j : Nat) : pD (gP P (j + 1)) k = bf_wd (fF (gP P j) k) (pL P) (pW (gP P j) k) (pD (gP P j) k) 7 := by
  have e : gP P (j + 1) = pSh (pAll (gP P j) (fF (gP P j)) (pN (gP P j))) (pNx (gP P j) (pS (gP P j))) := pMs_all (gP_v hv j).1.2.2.2.1
  rw [e]
  show pD (pAll (gP P j) (fF (gP P j)) (pN (gP P j))) k = _
  rw [pAll_D, if_pos (by rw [(gP_v hv j).2]; exact hk), (gP_c hv j).1]
theorem gP_W (hv : vP P) {k : Nat} (hk : k < pN P) (j b : Nat) : pW (gP P (j + 1)) k b = bf_wn (fF (gP P j) k) (pW (gP P j) k) b := by
  have e : gP P (j + 1) = pSh (pAll (gP P j) (fF (gP P j)) (pN (gP P j))) (pNx (gP P j) (pS (gP P j))) := pMs_all (gP_v hv j).1.2.2.2.1
  rw [e]
  show pW (pAll (gP P j) (fF (gP P j)) (pN (gP P j))) k b = _
  rw [pAll_W, if_pos (by rw [(gP_v hv j).2]; exact hk)]
/-- does a bar flip, from u to the next number -/
def bfl (P : bf_Pn) (k b u : Nat) : Nat := (pB P k (pG P u k) ^^^ pB P k (pG P (pNx P u) k)) / 2 ^ b &&& 1
theorem bfl_le (P : bf_Pn) (k b u : Nat) : bfl P k b u = 0 ∨ bfl P k b u = 1 := by unfold bfl; rw [bf_and1]; omega
theorem fF_bit (hv : vP P) {k b : Nat} (hb : b < 7) (j : Nat) (h : (pD (gP P j) k).testBit b = (pD P k).testBit b) : fF (gP P j) k / 2 ^ b &&& 1 = bfl P k b (pS (gP P j)) := by
  unfold fF bfl
  rw [bf_bitN, bf_bitN]
  congr 1
  rw [Nat.testBit_xor, Nat.testBit_xor]
  have e1 : ∀ d, (pB (gP P j) k d).testBit b = (pB P k d).testBit b := by
    intro d
    unfold pB
    rw [bf_bn_bit hb, bf_bn_bit hb, h, (gP_c hv j).2.1, (gP_c hv j).2.2]
  have e2 : ∀ u, pG (gP P j) u k = pG P u k := by intro u; unfold pG; rw [(gP_v hv j).2]
  rw [e1, e1, e2, e2, pNx_eq (gP_v hv j).2]
/-- the first step behind which a bar is dead -/
def dsF (P : bf_Pn) (k b : Nat) : Nat → Nat → Option Nat
  | 0, _ => none
  | f + 1, x => if (pD (gP P x) k).testBit b = true then some x else dsF P k b f (x + 1)
theorem gP_die (hv : vP P) {k b : Nat} (hk : k < pN P) (hb : b < 7) (j : Nat) (h : (pD (gP P j) k).testBit b = false) (h0 : (pD P k).testBit b = false) : ((pD (gP P (j + 1)) k).testBit b = true ↔ pL P ≤ pW (gP P j) k b + bfl P k b (pS (gP P j))) ∧ pW (gP P (j + 1)) k b = pW (gP P j) k b + bfl P k b (pS (gP P j)) := by
  have hf := fF_bit hv (k := k) hb j (h.trans h0.symm)
  have hw := (((gP_v hv j).1.2.2.2.2 k (by rw [(gP_v hv j).2]; exact hk)).2.2.2 b hb).2 h
  rw [(gP_c hv j).1] at hw
  rw [gP_D hv hk, bf_wd_bit, h, Bool.false_or, gP_W hv hk]
  unfold bf_wn
  rw [hf]
  rcases bfl_le P k b (pS (gP P j)) with e | e
  · rw [e, if_pos rfl]
    refine ⟨⟨fun q => absurd rfl (of_decide_eq_true q).2.1, fun q => by omega⟩, rfl⟩
  · rw [e, if_neg (by decide)]
    exact ⟨⟨fun q => (of_decide_eq_true q).2.2, fun q => decide_eq_true ⟨hb, by decide, q⟩⟩, rfl⟩
theorem ds_sd (hv : vP P) {k b : Nat} (hk : k < pN P) (hb : b < 7) (h0 : (pD P k).testBit b = false) : ∀ f j, (pD (gP P j) k).testBit b = false → pSd P k b f (j + 1) (pW (gP P j) k b) (pS (gP P j)) = dsF P k b f (j + 1) := by
  intro f
  induction f with
  | zero => intro j _; rfl
  | succ f ih =>
    intro j h
    obtain ⟨h1, h2⟩ := gP_die hv hk hb j h h0
    simp only [pSd, dsF]
    show (if pL P ≤ pW (gP P j) k b + bfl P k b (pS (gP P j)) then _ else pSd P k b f (j + 1 + 1) (pW (gP P j) k b + bfl P k b (pS (gP P j))) (pNx P (pS (gP P j)))) = _
    by_cases hd : (pD (gP P (j + 1)) k).testBit b = true
    · rw [if_pos hd, if_pos (h1.mp hd)]
    · rw [if_neg hd, if_neg (fun q => hd (h1.mpr q)), ← h2, ← gP_S hv j]
      exact ih (j + 1) (Bool.not_eq_true _ |>.mp hd)
theorem pSd_st {k b : Nat} (hb : b < 7) (hT : (pT P k).testBit b = true) : ∀ f st ww u, ww < pL P → pSd P k b f st ww u = none := by
  intro f
  induction f with
  | zero => intro _ _ _ _; rfl
  | succ f ih =>
    intro st ww u h
    have e : (pB P k (pG P u k) ^^^ pB P k (pG P (pNx P u) k)) / 2 ^ b &&& 1 = 0 := by
      rw [bf_tb0, Nat.testBit_xor]
      unfold pB
      rw [bf_bn_bit hb, bf_bn_bit hb, hT]
      simp
    simp only [pSd]
    rw [e, if_neg (by omega)]
    exact ih _ _ _ (by omega)
theorem ds_dy (hv : vP P) {k b : Nat} (hk : k < pN P) (hb : b < 7) (h0 : (pD P k).testBit b = false) (lim : Nat) : dsF P k b lim 1 = pDy P k b lim := by
  have h := ds_sd hv hk hb h0 lim 0 h0
  have hw := ((hv.2.2.2.2 k hk).2.2.2 b hb).2 h0
  unfold pDy
  cases hT : (pT P k).testBit b with
  | true =>
    rw [if_neg (by rw [bf_tb0, Nat.testBit_or, h0, hT]; decide), ← h]
    exact pSd_st hb hT _ _ _ _ hw
  | false =>
    rw [if_pos (by rw [bf_tb0, Nat.testBit_or, h0, hT]; rfl)]
    exact h.symm
theorem pDy_dead {k b lim : Nat} (h0 : (pD P k).testBit b = true) : pDy P k b lim = none := by
  unfold pDy
  rw [if_neg (by rw [bf_tb0, Nat.testBit_or, h0]; simp)]
end
theorem e_X9_diesAt {d : Nat} (hd : 7 ≤ d) {D : bf_D} {P : bf_Pn} {S : bf_Sh} {Q : bf_Rd} {F : Nat} {T : Int32} (va : vA (P, S, Q, F, T)) (ma : mA D (P, S, Q, F, T)) {k b : Nat} (hk : k < pN P) (hb : b < 7) : bf_Ce d mX9_diesAt [.ref 37, .int (nI k), .int (nI b)] D (fun r D' => r = some (.int (bf_oN (dsF P k b 1000 1))) ∧ mA D' (P, S, Q, F, T) ∧ bf_fr 37 57 D D') := by
  refine bf_Ce_of 6 hd mo_X9_diesAt (Nat.le_of_ble_eq_true rfl) (fun e he J r => ?_)
  show J 0 [some (.ref 37), some (.int (nI k)), some (.int (nI b)), none, none] [] (bf_MD D)
  obtain ⟨hv, vs, vr, hF⟩ := id va
  obtain ⟨hm, ms, mr, c5, c6⟩ := id ma
  have hn4 := hv.1
  have hx4 := pX_le hv
  have hx0 := pX_pos P
  refine bf_aload_n r.1 dX9_diesAt_0 rfl ?_
  refine ce_v r (y2 := mX9_keepAll) dX9_diesAt_1 li_X9_211 mv_X9_keepAll rfl (by decide) [] [] rfl (Nat.le_of_ble_eq_true rfl) rfl (e_X9_keepAll (by omega) (mP_n hm) hn4) (fun res D484 hq484 => ?_)
  obtain ⟨rfl, hkp⟩ := hq484
  show J 4 [some (.ref 37), some (.int (nI k)), some (.int (nI b)), none, none] [] (bf_MD D484)
  refine bf_bipush r.1 (v := -9) dX9_diesAt_4 rfl ?_
  refine bf_istore_n r.1 (L2 := [some (.ref 37), some (.int (nI k)), some (.int (nI b)), some (.int (-9)), none]) dX9_diesAt_6 rfl ?_
  refine bf_iconst r.1 (v := nI 1) dX9_diesAt_7 rfl ?_
  refine bf_istore r.1 (L2 := [some (.ref 37), some (.int (nI k)), some (.int (nI b)), some (.int (-9)), some (.int (nI 1))]) dX9_diesAt_8 rfl ?_
  have loop : ∀ (f y : Nat) (D2 : bf_D), y + f = 1000 → mP D2 (gP P y) → (∀ a j, a ≠ 39 → a ≠ 41 → (a ≠ 37 ∨ j ≠ 3) → D2 a j = D484 a j) → dsF P k b f (y + 1) = dsF P k b 1000 1 → J 10 [some (.ref 37), some (.int (nI k)), some (.int (nI b)), some (.int (-9)), some (.int (nI (y + 1)))] [] (bf_MD D2) := by
    intro f
    induction f with
    | zero =>
      intro y D2 hyf hm2 hO he
      refine bf_iload r.1 dX9_diesAt_10 rfl ?_
      refine bf_sipush r.1 (v := nI 1000) dX9_diesAt_12 rfl ?_
      refine nc_gt r (tgt := 53) dX9_diesAt_15 (by decide) (by omega) (by decide) (fun c485 => ?_) (fun c485 => ?_)
      · refine bf_aload_n r.1 dX9_diesAt_53 rfl ?_
        refine ce_v r (y2 := mX9_bringBack) dX9_diesAt_54 li_X9_214 mv_X9_bringBack rfl (by decide) [] [] rfl (Nat.le_of_ble_eq_true rfl) rfl (e_X9_bringBack (n := pN P) (by omega) ((mP_n hm2).trans (congrArg nI (gP_v hv y).2)) hn4) (fun res D486 hq486 => ?_)
        obtain ⟨rfl, hbk486⟩ := hq486
        show J 57 [some (.ref 37), some (.int (nI k)), some (.int (nI b)), some (.int (-9)), some (.int (nI (y + 1)))] [] (bf_MD D486)
        refine bf_iload_n r.1 dX9_diesAt_57 rfl ?_
        have hq := kp_bk hkp hO hbk486
        exact re_i r dX9_diesAt_58 rfl rfl ⟨by rw [← he]; rfl, mA_kp hn4 ma hq, fun a j h => hq a j (by omega) (by omega) (by omega) (by omega) (by omega)⟩
      · exact absurd c485 (by omega)
    | succ f ih =>
      intro y D2 hyf hm2 hO he
      refine bf_iload r.1 dX9_diesAt_10 rfl ?_
      refine bf_sipush r.1 (v := nI 1000) dX9_diesAt_12 rfl ?_
      refine nc_gt r (tgt := 53) dX9_diesAt_15 (by decide) (by omega) (by decide) (fun c487 => ?_) (fun c487 => ?_)
      · exact absurd c487 (by omega)
      · refine bf_iload_n r.1 dX9_diesAt_18 rfl ?_
        refine bf_if_ge r.1 (tgt := 53) dX9_diesAt_19 (by decide) (fun c488 => ?_) (fun c488 => ?_)
        · exact absurd c488 (by decide)
        · refine bf_aload_n r.1 dX9_diesAt_22 rfl ?_
          refine ce_v r (y2 := mX9_step) dX9_diesAt_23 li_X9_208 mv_X9_step rfl (by decide) [] [] rfl (Nat.le_of_ble_eq_true rfl) rfl (e_X9_step (by omega) (gP_v hv y).1 hm2) (fun res D489 hq489 => ?_)
          obtain ⟨rfl, hm489, hf489⟩ := hq489
          show J 26 [some (.ref 37), some (.int (nI k)), some (.int (nI b)), some (.int (-9)), some (.int (nI (y + 1)))] [] (bf_MD D489)
          have hO9 : ∀ a j, a ≠ 39 → a ≠ 41 → (a ≠ 37 ∨ j ≠ 3) → D489 a j = D484 a j := fun a j q1 q2 q3 => (hf489 a j q1 q2 q3).trans (hO a j q1 q2 q3)
          have hm9 : mP D489 (gP P (y + 1)) := hm489
          refine bf_aload_n r.1 dX9_diesAt_26 rfl ?_
          refine ig_ref r (b := 39) dX9_diesAt_27 fl_X9_13 rfl (by decide) rfl ?_
          refine bf_iload_n r.1 dX9_diesAt_30 rfl ?_
          refine ia_ld r (n := 4) (v := nI (pD (gP P (y + 1)) k)) dX9_diesAt_31 rfl (by decide) (by omega) (mP_d hm9 (by rw [(gP_v hv _).2]; exact hk)) ?_
          refine bf_iload_n r.1 dX9_diesAt_32 rfl ?_
          refine cl_s r (y2 := mX9_isIn) dX9_diesAt_33 li_X9_173 mv_X9_isIn [.int (nI (pD (gP P (y + 1)) k)), .int (nI b)] [] rfl (Nat.le_of_ble_eq_true rfl) rfl (c_X9_isIn (by omega) D489 (bf_lt31 (vP_d (gP_v hv _).1 (by rw [(gP_v hv _).2]; exact hk)) (by decide)) (by omega)) ?_
          show J 36 [some (.ref 37), some (.int (nI k)), some (.int (nI b)), some (.int (-9)), some (.int (nI (y + 1)))] [.int (if ((pD (gP P (y + 1)) k)).testBit b = true then 1 else 0)] (bf_MD D489)
          refine nb_eq r (tgt := 44) dX9_diesAt_36 (by decide) (fun c490 => ?_) (fun c490 => ?_)
          · refine bf_bipush r.1 (v := -9) dX9_diesAt_44 rfl ?_
            refine bf_istore_n r.1 (L2 := [some (.ref 37), some (.int (nI k)), some (.int (nI b)), some (.int (-9)), some (.int (nI (y + 1)))]) dX9_diesAt_46 rfl ?_
            refine na_inc r (v := y + 1 + 1) (L2 := [some (.ref 37), some (.int (nI k)), some (.int (nI b)), some (.int (-9)), some (.int (nI (y + 1 + 1)))]) dX9_diesAt_47 rfl (nI_add _ 1) rfl ?_
            refine bf_goto r.1 (tgt := 10) dX9_diesAt_50 (by decide) ?_
            exact ih (y + 1) D489 (by omega) hm9 hO9 (by rw [← he]; simp only [dsF]; rw [if_neg c490])
          · refine bf_iload r.1 dX9_diesAt_39 rfl ?_
            refine bf_goto r.1 (tgt := 46) dX9_diesAt_41 (by decide) ?_
            refine bf_istore_n r.1 (L2 := [some (.ref 37), some (.int (nI k)), some (.int (nI b)), some (.int (nI (y + 1))), some (.int (nI (y + 1)))]) dX9_diesAt_46 rfl ?_
            refine na_inc r (v := y + 1 + 1) (L2 := [some (.ref 37), some (.int (nI k)), some (.int (nI b)), some (.int (nI (y + 1))), some (.int (nI (y + 1 + 1)))]) dX9_diesAt_47 rfl (nI_add _ 1) rfl ?_
            refine bf_goto r.1 (tgt := 10) dX9_diesAt_50 (by decide) ?_
            have hfd : dsF P k b 1000 1 = some (y + 1) := by rw [← he]; simp only [dsF]; rw [if_pos c490]
            refine bf_iload r.1 dX9_diesAt_10 rfl ?_
            refine bf_sipush r.1 (v := nI 1000) dX9_diesAt_12 rfl ?_
            refine nc_gt r (tgt := 53) dX9_diesAt_15 (by decide) (by omega) (by decide) (fun c491 => ?_) (fun c491 => ?_)
            · refine bf_aload_n r.1 dX9_diesAt_53 rfl ?_
              refine ce_v r (y2 := mX9_bringBack) dX9_diesAt_54 li_X9_214 mv_X9_bringBack rfl (by decide) [] [] rfl (Nat.le_of_ble_eq_true rfl) rfl (e_X9_bringBack (n := pN P) (by omega) ((mP_n hm9).trans (congrArg nI (gP_v hv _).2)) hn4) (fun res D492 hq492 => ?_)
              obtain ⟨rfl, hbk492⟩ := hq492
              show J 57 [some (.ref 37), some (.int (nI k)), some (.int (nI b)), some (.int (nI (y + 1))), some (.int (nI (y + 1 + 1)))] [] (bf_MD D492)
              refine bf_iload_n r.1 dX9_diesAt_57 rfl ?_
              have hq := kp_bk hkp hO9 hbk492
              exact re_i r dX9_diesAt_58 rfl rfl ⟨by rw [hfd]; rfl, mA_kp hn4 ma hq, fun a j h => hq a j (by omega) (by omega) (by omega) (by omega) (by omega)⟩
            · refine bf_iload_n r.1 dX9_diesAt_18 rfl ?_
              refine nz_ge r (tgt := 53) dX9_diesAt_19 (by decide) (by omega) (fun c493 => ?_) (fun c493 => ?_)
              · refine bf_aload_n r.1 dX9_diesAt_53 rfl ?_
                refine ce_v r (y2 := mX9_bringBack) dX9_diesAt_54 li_X9_214 mv_X9_bringBack rfl (by decide) [] [] rfl (Nat.le_of_ble_eq_true rfl) rfl (e_X9_bringBack (n := pN P) (by omega) ((mP_n hm9).trans (congrArg nI (gP_v hv _).2)) hn4) (fun res D494 hq494 => ?_)
                obtain ⟨rfl, hbk494⟩ := hq494
                show J 57 [some (.ref 37), some (.int (nI k)), some (.int (nI b)), some (.int (nI (y + 1))), some (.int (nI (y + 1 + 1)))] [] (bf_MD D494)
                refine bf_iload_n r.1 dX9_diesAt_57 rfl ?_
                have hq := kp_bk hkp hO9 hbk494
                exact re_i r dX9_diesAt_58 rfl rfl ⟨by rw [hfd]; rfl, mA_kp hn4 ma hq, fun a j h => hq a j (by omega) (by omega) (by omega) (by omega) (by omega)⟩
              · exact absurd c493 (by omega)
  exact loop 1000 0 D484 (by omega) (mP_e hm hn4 (fun a j q => hkp.2.2.2 a j (by omega) (by omega) (by omega))) (fun _ _ _ _ _ => rfl) rfl
theorem e_X9_dies {d : Nat} (hd : 10 ≤ d) {D : bf_D} {P : bf_Pn} {S : bf_Sh} {Q : bf_Rd} {F : Nat} {T : Int32} (va : vA (P, S, Q, F, T)) (ma : mA D (P, S, Q, F, T)) (k b : Int32) : bf_Ce d mX9_dies [.ref 37, .int (k), .int (b)] D (fun r D' => r = some (.int (ox_dies P k b)) ∧ mA D' (P, S, Q, F, T) ∧ bf_fr 37 57 D D') := by
  refine bf_Ce_of 9 hd mo_X9_dies (Nat.le_of_ble_eq_true rfl) (fun e he J r => ?_)
  show J 0 [some (.ref 37), some (.int (k)), some (.int (b))] [] (bf_MD D)
  obtain ⟨hv, vs, vr, hF⟩ := id va
  obtain ⟨hm, ms, mr, c5, c6⟩ := id ma
  have hn4 := hv.1
  have hx4 := pX_le hv
  have hx0 := pX_pos P
  refine bf_aload_n r.1 dX9_dies_0 rfl ?_
  refine bf_iload_n r.1 dX9_dies_1 rfl ?_
  refine cl_v r (y2 := mX9_noPlace) dX9_dies_2 li_X9_160 mv_X9_noPlace rfl (by decide) [.int (k)] [] rfl (Nat.le_of_ble_eq_true rfl) rfl (c_X9_noPlace (by omega) hv hm _) ?_
  show J 5 [some (.ref 37), some (.int (k)), some (.int (b))] [.int (if ¬ (0 ≤ k ∧ k < nI (pN P)) then 1 else 0)] (bf_MD D)
  refine nb_ne r (tgt := 20) dX9_dies_5 (by decide) (fun c495 => ?_) (fun c495 => ?_)
  · have wk := rg_n c495
    refine bf_iconst r.1 (v := -1) dX9_dies_20 rfl ?_
    have ho : ox_dies P k b = -1 := by simp only [ox_dies, wk, on_n, on_s]
    exact re_i r dX9_dies_21 rfl rfl ⟨by rw [ho], ma, fr_0⟩
  · obtain ⟨k0, hk0, rfl⟩ := rg_in (by omega) (Decidable.not_not.mp c495)
    have wk := rg_s hk0 (by omega)
    refine bf_iload_n r.1 dX9_dies_8 rfl ?_
    refine bf_i2l r.1 dX9_dies_9 ?_
    refine bf_lconst r.1 (v := lN 0) dX9_dies_10 rfl ?_
    refine bf_ldc2 r.1 dX9_dies_11 lc_X9_169 ?_
    refine eq_l (v := lN 6) rfl ?_
    refine cl_s r (y2 := mX9_in) dX9_dies_14 li_X9_80 mv_X9_in [.long (b.toInt64), .long (lN 0), .long (lN 6)] [] rfl (Nat.le_of_ble_eq_true rfl) rfl (c_X9_in32 (by omega) D b (h := 6) (m := 7) rfl (by decide)) ?_
    show J 17 [some (.ref 37), some (.int (nI k0)), some (.int (b))] [.int (if 0 ≤ b ∧ b < nI 7 then 1 else 0)] (bf_MD D)
    refine nb_ne r (tgt := 22) dX9_dies_17 (by decide) (fun c496 => ?_) (fun c496 => ?_)
    · obtain ⟨b0, hb0, rfl⟩ := rg_in (by decide) c496
      have wb := rg_s hb0 (by decide)
      refine bf_aload_n r.1 dX9_dies_22 rfl ?_
      refine ig_ref r (b := 39) dX9_dies_23 fl_X9_13 rfl (by decide) rfl ?_
      refine bf_iload_n r.1 dX9_dies_26 rfl ?_
      refine ia_ld r (n := 4) (v := nI (pD P k0)) dX9_dies_27 rfl (by decide) (by omega) (mP_d (P := P) hm hk0) ?_
      refine bf_iload_n r.1 dX9_dies_28 rfl ?_
      refine cl_s r (y2 := mX9_isIn) dX9_dies_29 li_X9_173 mv_X9_isIn [.int (nI (pD P k0)), .int (nI b0)] [] rfl (Nat.le_of_ble_eq_true rfl) rfl (c_X9_isIn (by omega) D (bf_lt31 (vP_d hv hk0) (by decide)) (by omega)) ?_
      show J 32 [some (.ref 37), some (.int (nI k0)), some (.int (nI b0))] [.int (if ((pD P k0)).testBit b0 = true then 1 else 0)] (bf_MD D)
      refine nb_eq r (tgt := 40) dX9_dies_32 (by decide) (fun c497 => ?_) (fun c497 => ?_)
      · refine bf_aload_n r.1 dX9_dies_40 rfl ?_
        refine bf_iload_n r.1 dX9_dies_41 rfl ?_
        refine bf_iload_n r.1 dX9_dies_42 rfl ?_
        refine ce_v r (y2 := mX9_diesAt) dX9_dies_43 li_X9_217 mv_X9_diesAt rfl (by decide) [.int (nI k0), .int (nI b0)] [] rfl (Nat.le_of_ble_eq_true rfl) rfl (e_X9_diesAt (by omega) va ma hk0 hb0) (fun res D498 hq498 => ?_)
        obtain ⟨rfl, hma498, hf498⟩ := hq498
        show J 46 [some (.ref 37), some (.int (nI k0)), some (.int (nI b0))] [.int (bf_oN (dsF P k0 b0 1000 1))] (bf_MD D498)
        refine eq_i (v := bf_oN (pDy P k0 b0 1000)) (congrArg bf_oN (ds_dy hv hk0 hb0 (Bool.not_eq_true _ |>.mp c497) 1000)) ?_
        have ho : ox_dies P (nI k0) (nI b0) = bf_oN (pDy P k0 b0 1000) := by simp only [ox_dies, wk, wb, on_n, on_s]
        exact re_i r dX9_dies_46 rfl rfl ⟨by rw [ho], hma498, hf498⟩
      · refine bf_bipush r.1 (v := -9) dX9_dies_35 rfl ?_
        refine bf_goto r.1 (tgt := 46) dX9_dies_37 (by decide) ?_
        have hdy := pDy_dead (lim := 1000) c497
        have ho : ox_dies P (nI k0) (nI b0) = -9 := by simp only [ox_dies, wk, wb, on_n, on_s, hdy, bf_oN]
        exact re_i r dX9_dies_46 rfl rfl ⟨by rw [ho], ma, fr_0⟩
    · have wb := rg_n c496
      refine bf_iconst r.1 (v := -1) dX9_dies_20 rfl ?_
      have ho : ox_dies P (nI k0) b = -1 := by simp only [ox_dies, wk, wb, on_n, on_s]
      exact re_i r dX9_dies_21 rfl rfl ⟨by rw [ho], ma, fr_0⟩
