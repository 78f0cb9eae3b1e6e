theorem cS_fr {D D' : bf_D} {S : bf_Sh} {lo hi : Nat} (h : cS D S) (hf : bf_fr lo hi D D') (hh : hi ≤ 29) : cS D' S := fun k hk =>
  ⟨(hf _ _ (by omega)).trans (h k hk).1, (hf _ _ (by omega)).trans (h k hk).2.1, fun n hn i hi => (hf _ _ (by omega)).trans ((h k hk).2.2 n hn i hi)⟩
/-- digits of a text -/
theorem bf_dgt {c : Int32} (h : nI 48 ≤ c ∧ c ≤ nI 57) : ∃ x, x < 10 ∧ c = nI (x + 48) := by
  obtain ⟨j, hj, rfl⟩ := nI_of (x := c) (by
    intro hc
    have h1 := (Int32.le_iff_toInt_le.mp h.1)
    have h2 := (Int32.lt_iff_toInt_lt.mp hc)
    rw [nI_toInt (by decide)] at h1
    have : (0 : Int32).toInt = 0 := by decide
    omega)
  have h1 := (nI_leI (by decide) hj).mp h.1
  have h2 := (nI_leI hj (by decide)).mp h.2
  exact ⟨j - 48, by omega, by rw [show j - 48 + 48 = j by omega]⟩
theorem bf_nbs {f : Nat → Int32} {n v x : Nat} (h1 : bf_nb f n = nI v) (h2 : f n = nI (x + 48)) : bf_nb f (n + 1) = nI (10 * v + x) := by
  show nI 10 * bf_nb f n + f n - nI 48 = _
  rw [h1, h2, pk_mul, nI_add, pk_sub (by omega)]
  congr 1
theorem bf_nb2 {f : Nat → Int32} {x y : Nat} (h0 : f 0 = nI (x + 48)) (h1 : f 1 = nI (y + 48)) : bf_nb f 2 = nI (10 * x + y) := by
  have := bf_nbs (bf_nbs (n := 0) (v := 0) rfl h0) h1
  simpa using this
theorem bf_nb3 {f : Nat → Int32} {x y z : Nat} (h0 : f 0 = nI (x + 48)) (h1 : f 1 = nI (y + 48)) (h2 : f 2 = nI (z + 48)) : bf_nb f 3 = nI (100 * x + 10 * y + z) := by
  have := bf_nbs (bf_nbs (bf_nbs (n := 0) (v := 0) rfl h0) h1) h2
  rw [this]
  congr 1
  omega
section bftx
variable {c : Nat → Int32}
theorem go_0 (h : bf_go c 0 = true) : c 0 = nI 112 := by
  unfold bf_go at h
  rw [if_neg (by decide), if_pos rfl] at h
  exact of_decide_eq_true h
theorem go_1 (h : bf_go c 1 = true) : nI 48 ≤ c 1 ∧ c 1 ≤ nI 57 := by
  unfold bf_go at h
  rw [if_neg (by decide), if_neg (by decide), if_pos (by decide), Bool.and_eq_true] at h
  exact of_decide_eq_true h.1
theorem go_2 (h : bf_go c 2 = true) : (nI 48 ≤ c 2 ∧ c 2 ≤ nI 57) ∧ ¬ bf_nb (fun j => c (1 + j)) 2 ≤ 0 := by
  unfold bf_go at h
  rw [if_neg (by decide), if_neg (by decide), if_pos (by decide), Bool.and_eq_true] at h
  refine ⟨of_decide_eq_true h.1, ?_⟩
  have h2 := h.2
  rw [decide_eq_false (by decide), Bool.false_or] at h2
  exact of_decide_eq_true h2
theorem go_s {j : Nat} (hj : j < 4) (h : bf_go c (3 + 8 * j) = true) : c (3 + 8 * j) = nI 59 := by
  unfold bf_go at h
  rw [if_neg (by omega), if_neg (by omega), if_neg (by omega), if_pos (by omega)] at h
  exact of_decide_eq_true h
theorem go_k {j : Nat} (hj : j < 4) (h : bf_go c (4 + 8 * j) = true) : ¬ bf_ko (c (4 + 8 * j)) = -1 := by
  unfold bf_go at h
  rw [if_neg (by omega), if_neg (by omega), if_neg (by omega), if_neg (by omega), if_pos (by omega)] at h
  exact of_decide_eq_true h
theorem go_d {j a p : Nat} (hj : j < 4) (ha : a < 3) (hp : p = 5 ∨ p = 8) (h : bf_go c (p + a + 8 * j) = true) : (nI 48 ≤ c (p + a + 8 * j) ∧ c (p + a + 8 * j) ≤ nI 57) ∧ bf_nb (fun i => c (p + 8 * j + i)) (a + 1) ≤ bf_gre a := by
  have e : (p + a + 8 * j - 3) % 8 = p - 3 + a := by omega
  have hah : bf_ah (p + a + 8 * j) = a := by
    unfold bf_ah
    rw [e]
    split <;> omega
  unfold bf_go at h
  rw [if_neg (by omega), if_neg (by omega), if_neg (by omega), if_neg (by omega), if_neg (by omega), Bool.and_eq_true, hah] at h
  refine ⟨of_decide_eq_true h.1, ?_⟩
  have h2 := of_decide_eq_true h.2
  rw [show p + a + 8 * j - a = p + 8 * j by omega] at h2
  exact h2
end bftx
def tLf (c : Nat → Int32) : Nat := (bf_nb (fun i => c (1 + i)) 2).toNatClampNeg
def tK (c : Nat → Int32) (j : Nat) : Nat := (bf_ko (c (4 + 8 * j))).toNatClampNeg
def tD (c : Nat → Int32) (j : Nat) : Nat := (bf_nb (fun i => c (5 + 8 * j + i)) 3).toNatClampNeg
def tT (c : Nat → Int32) (j : Nat) : Nat := (bf_nb (fun i => c (8 + 8 * j + i)) 3).toNatClampNeg
theorem bf_cl_eq {x : Int32} {v : Nat} (h : x = nI v) (hv : v < 2 ^ 31) : x.toNatClampNeg = v ∧ x = nI x.toNatClampNeg := by
  rw [h, nI_clamp hv]; exact ⟨rfl, rfl⟩
/-- a text without a fault -/
def tOk (c : Nat → Int32) (m : Nat) : Prop := (∀ u, u < m → bf_go c u = true) ∧ 11 ≤ m ∧ (m - 3) % 8 = 0 ∧ m ≤ 35
theorem tOk_of {c : Nat → Int32} {m : Nat} (h : bf_tf c m = none) : tOk c m := by
  unfold bf_tf at h
  split at h
  · cases h
  · rename_i h1
    split at h
    · rename_i h2
      have e : bf_fi (bf_go c) m = m := by have := bf_fi_le (bf_go c) m; omega
      have hall : ∀ u, u < m → bf_go c u = true := fun u hu => bf_fi_yes (bf_go c) m u (by omega)
      refine ⟨hall, h2.1, h2.2, ?_⟩
      rcases Nat.lt_or_ge 35 m with h3 | h3
      · have := hall 35 h3
        unfold bf_go at this
        rw [if_pos (Nat.le_refl _)] at this
        cases this
      · exact h3
    · cases h
section bftv
variable {c : Nat → Int32} {m : Nat}
theorem tLf_ok (h : tOk c m) : bf_nb (fun i => c (1 + i)) 2 = nI (tLf c) ∧ 1 ≤ tLf c ∧ tLf c ≤ 99 := by
  obtain ⟨x, hx, ex⟩ := bf_dgt (go_1 (h.1 1 (by have := h.2.1; omega)))
  obtain ⟨y, hy, ey⟩ := bf_dgt (go_2 (h.1 2 (by have := h.2.1; omega))).1
  have hp := (go_2 (h.1 2 (by have := h.2.1; omega))).2
  have e := bf_nb2 (f := fun i => c (1 + i)) ex ey
  have e2 := bf_cl_eq e (by omega)
  refine ⟨e2.2, ?_, ?_⟩
  · show 1 ≤ (bf_nb (fun i => c (1 + i)) 2).toNatClampNeg
    rw [e2.1]
    rw [e] at hp
    rcases Nat.eq_zero_or_pos (10 * x + y) with h0 | h0
    · rw [h0] at hp; exact absurd (Int32.le_refl _) hp
    · exact h0
  · show (bf_nb (fun i => c (1 + i)) 2).toNatClampNeg ≤ 99
    rw [e2.1]; omega
theorem tK_ok (h : tOk c m) {j : Nat} (hj : 3 + 8 * j < m) : bf_ko (c (4 + 8 * j)) = nI (tK c j) ∧ tK c j < 3 := by
  have hm := h.2
  have hk := go_k (j := j) (by omega) (h.1 (4 + 8 * j) (by omega))
  unfold tK
  unfold bf_ko at hk ⊢
  split
  · exact ⟨rfl, by decide⟩
  · split
    · exact ⟨rfl, by decide⟩
    · split
      · exact ⟨rfl, by decide⟩
      · rename_i h1 h2 h3
        rw [if_neg h1, if_neg h2, if_neg h3] at hk
        exact absurd rfl hk
theorem tx3 (h : tOk c m) {j p : Nat} (hj : 3 + 8 * j < m) (hp : p = 5 ∨ p = 8) : ∃ v, bf_nb (fun i => c (p + 8 * j + i)) 3 = nI v ∧ v < 128 := by
  have hm := h.2
  have g := fun a (ha : a < 3) => go_d (c := c) (j := j) (a := a) (by omega) ha hp (h.1 _ (by omega))
  obtain ⟨x, hx, ex⟩ := bf_dgt (g 0 (by decide)).1
  obtain ⟨y, hy, ey⟩ := bf_dgt (g 1 (by decide)).1
  obtain ⟨z, hz, ez⟩ := bf_dgt (g 2 (by decide)).1
  have e := bf_nb3 (f := fun i => c (p + 8 * j + i)) (x := x) (y := y) (z := z) (by show c _ = _; rw [← ex]; congr 1) (by show c _ = _; rw [← ey]; congr 1; omega) (by show c _ = _; rw [← ez]; congr 1; omega)
  refine ⟨_, e, ?_⟩
  have h3 := (g 2 (by decide)).2
  rw [e] at h3
  have h4 := (nI_leI (by omega) (show 127 < 2 ^ 31 by decide)).mp h3
  omega
theorem tD_ok (h : tOk c m) {j : Nat} (hj : 3 + 8 * j < m) : bf_nb (fun i => c (5 + 8 * j + i)) 3 = nI (tD c j) ∧ tD c j < 128 := by
  obtain ⟨v, e, hv⟩ := tx3 h hj (Or.inl rfl)
  have e2 := bf_cl_eq e (by omega)
  exact ⟨e2.2, by show (bf_nb (fun i => c (5 + 8 * j + i)) 3).toNatClampNeg < 128; rw [e2.1]; exact hv⟩
theorem tT_ok (h : tOk c m) {j : Nat} (hj : 3 + 8 * j < m) : bf_nb (fun i => c (8 + 8 * j + i)) 3 = nI (tT c j) ∧ tT c j < 128 := by
  obtain ⟨v, e, hv⟩ := tx3 h hj (Or.inr rfl)
  have e2 := bf_cl_eq e (by omega)
  exact ⟨e2.2, by show (bf_nb (fun i => c (8 + 8 * j + i)) 3).toNatClampNeg < 128; rw [e2.1]; exact hv⟩
end bftv
/-- the panel that a text tells -/
def pTx (c : Nat → Int32) (m : Nat) : bf_Pn := ((m - 3) / 8, tLf c, 0, tK c, tD c, tT c, fun _ _ => 0)
theorem vP_tx {c : Nat → Int32} {m : Nat} (h : tOk c m) : vP (pTx c m) := by
  have hm := h.2
  have hl := tLf_ok h
  refine ⟨by show (m - 3) / 8 ≤ 4; omega, hl.2.2, Or.inr hl.2.1, pX_pos _, fun k hk => ?_⟩
  have hk' : k < (m - 3) / 8 := hk
  exact ⟨(tK_ok h (by omega)).2, (tD_ok h (by omega)).2, (tT_ok h (by omega)).2, fun b hb => ⟨Nat.zero_le _, fun _ => hl.2.1⟩⟩
section bfrd
variable {D : bf_D} {k q dd st : Nat}
theorem bf_rD_3 : bf_rD D k q dd st (6 + 3 * k) 3 = nI q := by unfold bf_rD; rw [bf_lD_o (by omega), bf_rD2_o (by omega)]; exact bf_rD1_3
theorem bf_rD_4 : bf_rD D k q dd st (6 + 3 * k) 4 = nI dd := by unfold bf_rD; rw [bf_lD_o (by omega), bf_rD2_o (by omega)]; exact bf_rD1_4
theorem bf_rD_5 : bf_rD D k q dd st (6 + 3 * k) 5 = nI st := by unfold bf_rD; rw [bf_lD_o (by omega), bf_rD2_o (by omega)]; exact bf_rD1_5
theorem bf_rD_7 {d : Nat} (h : d < 10) : bf_rD D k q dd st (7 + 3 * k) d = nI (bf_bn q dd st d) := bf_lD_i h
theorem bf_rD_8 {b : Nat} (h : b < 7) : bf_rD D k q dd st (8 + 3 * k) b = nI 0 := by unfold bf_rD; rw [bf_lD_o (by omega)]; exact bf_fd_in h
theorem bf_rD_o {b j : Nat} (h1 : b ≠ 6 + 3 * k) (h2 : b ≠ 7 + 3 * k) (h3 : b ≠ 8 + 3 * k) : bf_rD D k q dd st b j = D b j := by unfold bf_rD; rw [bf_lD_o h2, bf_rD2_o h3, bf_rD1_o h1]
end bfrd
/-- the panel's cells, so many places told -/
def cTx (D : bf_D) (P : bf_Pn) (n : Nat) : Prop := (D 2 1 = nI (pN P) ∧ D 2 2 = nI (pL P) ∧ D 2 3 = nI (pS P) ∧ D 2 4 = nI (pX P - 1)) ∧ (∀ k, k < n → D (6 + 3 * k) 3 = nI (pK P k) ∧ D (6 + 3 * k) 4 = nI (pD P k) ∧ D (6 + 3 * k) 5 = nI (pT P k) ∧ (∀ d, d < 10 → D (7 + 3 * k) d = nI (pB P k d)) ∧ ∀ b, b < 7 → D (8 + 3 * k) b = nI (pW P k b)) ∧ lkF D
theorem cTx_s {D : bf_D} {P : bf_Pn} {n : Nat} (h : cTx D P n) (hw : ∀ b, pW P n b = 0) : cTx (bf_rD D n (pK P n) (pD P n) (pT P n)) P (n + 1) := by
  refine ⟨⟨?_, ?_, ?_, ?_⟩, fun k hk => ?_, fun i hi => ?_⟩
  · rw [bf_rD_o (by omega) (by omega) (by omega)]; exact h.1.1
  · rw [bf_rD_o (by omega) (by omega) (by omega)]; exact h.1.2.1
  · rw [bf_rD_o (by omega) (by omega) (by omega)]; exact h.1.2.2.1
  · rw [bf_rD_o (by omega) (by omega) (by omega)]; exact h.1.2.2.2
  · by_cases e : k = n
    · subst e
      exact ⟨bf_rD_3, bf_rD_4, bf_rD_5, fun d hd => bf_rD_7 hd, fun b hb => by rw [hw]; exact bf_rD_8 hb⟩
    · have g := h.2.1 k (by omega)
      refine ⟨?_, ?_, ?_, fun d hd => ?_, fun b hb => ?_⟩
      · rw [bf_rD_o (by omega) (by omega) (by omega)]; exact g.1
      · rw [bf_rD_o (by omega) (by omega) (by omega)]; exact g.2.1
      · rw [bf_rD_o (by omega) (by omega) (by omega)]; exact g.2.2.1
      · rw [bf_rD_o (by omega) (by omega) (by omega)]; exact g.2.2.2.1 d hd
      · rw [bf_rD_o (by omega) (by omega) (by omega)]; exact g.2.2.2.2 b hb
  · rw [bf_rD_o (by omega) (by omega) (by omega)]; exact h.2.2 i hi
theorem bf_nD_o {D : bf_D} {c lf b j : Nat} (h : b ≠ 2) : bf_nD D c lf b j = D b j := by unfold bf_nD; rw [bf_un (Or.inl h), bf_un (Or.inl h), bf_un (Or.inl h), bf_un (Or.inl h)]
theorem cTx_0 {D : bf_D} (hl : lkF D) (c : Nat → Int32) (m : Nat) : cTx (bf_nD D ((m - 3) / 8) (tLf c)) (pTx c m) 0 := by
  refine ⟨⟨?_, ?_, ?_, ?_⟩, fun k hk => absurd hk (Nat.not_lt_zero _), fun i hi => (bf_nD_o (by omega)).trans (hl i hi)⟩
  · unfold bf_nD; rw [bf_un (by omega), bf_un (by omega), bf_un (by omega), bf_us]; rfl
  · unfold bf_nD; rw [bf_un (by omega), bf_un (by omega), bf_us]; rfl
  · unfold bf_nD; rw [bf_un (by omega), bf_us]; rfl
  · unfold bf_nD; rw [bf_us]; rfl
theorem e_X7_fill {d : Nat} (hd : 6 ≤ d) {D0 : bf_D} {S : bf_Sh} (vs : vS S) (cs0 : cS D0 S) (hl0 : lkF D0) {k : Nat} (hk : k < 4) {n i m : Nat} (hz : sZ S k = some n) (hi : i + m ≤ n) (ht : tOk (fun u => sC S k (i + u)) m) : bf_Ce d mX7_fill [.ref 2, .ref (29 + 2 * k), .int (nI i), .int (nI m)] D0 (fun r D' => r = none ∧ cP D' (pTx (fun u => sC S k (i + u)) m) ∧ bf_fr 2 18 D0 D') := by
  refine bf_Ce_of 5 hd mo_X7_fill (Nat.le_of_ble_eq_true rfl) (fun e he J r => ?_)
  show J 0 [some (.ref 2), some (.ref (29 + 2 * k)), some (.int (nI i)), some (.int (nI m)), none, none] [] (bf_MD D0)
  have h60 := (vs k hk).2 n hz
  have hm := ht.2
  have cs := cs0
  have hvp := vP_tx ht
  generalize hcc : (fun u => sC S k (i + u)) = cc at r ht hvp ⊢
  have hct : ∀ u, sC S k (i + u) = cc u := fun u => by rw [← hcc]
  refine bf_aload_n r.1 dX7_fill_0 rfl ?_
  refine bf_aload_n r.1 dX7_fill_1 rfl ?_
  refine bf_iload_n r.1 dX7_fill_2 rfl ?_
  refine bf_iconst r.1 (v := nI 1) dX7_fill_3 rfl ?_
  refine na_add r dX7_fill_4  ?_
  refine bf_iconst r.1 (v := nI 2) dX7_fill_5 rfl ?_
  refine cl_s r (y2 := mX7_number) dX7_fill_6 li_X7_25 mv_X7_number [.ref (29 + 2 * k), .int (nI (i + 1)), .int (nI 2)] [.ref 2] rfl (Nat.le_of_ble_eq_true rfl) rfl (c_X7_number (by omega) vs cs hk hz (by omega)) ?_
  show J 9 [some (.ref 2), some (.ref (29 + 2 * k)), some (.int (nI i)), some (.int (nI m)), none, none] [.int (bf_nb (fun j9 => sC S k (i + 1 + j9)) 2), .ref 2] (bf_MD D0)
  refine eq_i (v := nI (tLf cc)) ((bf_nb_c (fun j => by rw [← hct]; congr 1; omega) 2).trans (tLf_ok ht).1) ?_
  refine bf_iload_n r.1 dX7_fill_9 rfl ?_
  refine bf_iconst r.1 (v := nI 3) dX7_fill_10 rfl ?_
  refine na_sub r dX7_fill_11 (by omega) ?_
  refine bf_bipush r.1 (v := nI 8) dX7_fill_12 rfl ?_
  refine na_div r dX7_fill_14 (by omega) (by decide) (by decide) ?_
  refine cl_v r (y2 := mX2_renew) dX7_fill_15 li_X7_40 mv_X2_renew rfl (by decide) [.int (nI (tLf cc)), .int (nI ((m - 3) / 8))] [] rfl (Nat.le_of_ble_eq_true rfl) rfl (c_X2_renew (by omega) D0 (by omega)) ?_
  show J 18 [some (.ref 2), some (.ref (29 + 2 * k)), some (.int (nI i)), some (.int (nI m)), none, none] [] (bf_MD (bf_nD D0 ((m - 3) / 8) (tLf cc)))
  refine bf_iconst r.1 (v := nI 0) dX7_fill_18 rfl ?_
  refine bf_istore r.1 (L2 := [some (.ref 2), some (.ref (29 + 2 * k)), some (.int (nI i)), some (.int (nI m)), some (.int (nI 0)), none]) dX7_fill_19 rfl ?_
  have loop : ∀ j : Nat, j ≤ (m - 3) / 8 → ∀ D : bf_D, cTx D (pTx cc m) j → bf_fr 2 18 D0 D → J 21 [some (.ref 2), some (.ref (29 + 2 * k)), some (.int (nI i)), some (.int (nI m)), some (.int (nI j)), none] [] (bf_MD D) := by
    refine bf_down (fun j hle ih => ?_)
    intro D hx hf
    have cs := cS_fr cs0 hf (by decide)
    refine bf_iload r.1 dX7_fill_21 rfl ?_
    refine bf_aload_n r.1 dX7_fill_23 rfl ?_
    refine ig_int r (v := nI ((m - 3) / 8)) dX7_fill_24 fl_X7_46 rfl (by decide) rfl hx.1.1 ?_
    refine nc_ge r (tgt := 86) dX7_fill_27 (by decide) (by omega) (by omega) (fun c118 => ?_) (fun c118 => ?_)
    · have ej : j = (m - 3) / 8 := by omega
      subst ej
      exact re_v r dX7_fill_86 rfl ⟨rfl, hx, hf⟩
    · refine bf_iload_n r.1 dX7_fill_30 rfl ?_
      refine bf_iconst r.1 (v := nI 3) dX7_fill_31 rfl ?_
      refine na_add r dX7_fill_32  ?_
      refine bf_iload r.1 dX7_fill_33 rfl ?_
      refine bf_bipush r.1 (v := nI 8) dX7_fill_35 rfl ?_
      refine na_mul r dX7_fill_37  ?_
      refine na_add r dX7_fill_38  ?_
      refine bf_istore r.1 (L2 := [some (.ref 2), some (.ref (29 + 2 * k)), some (.int (nI i)), some (.int (nI m)), some (.int (nI j)), some (.int (nI (i + 3 + (j * 8))))]) dX7_fill_39 rfl ?_
      refine bf_aload_n r.1 dX7_fill_41 rfl ?_
      refine ig_ref r (b := 3) dX7_fill_42 fl_X7_50 rfl (by decide) rfl ?_
      refine bf_iload r.1 dX7_fill_45 rfl ?_
      refine aa_ld r (n := 4) (b := 6 + 3 * j) dX7_fill_47 (by decide) rfl (by decide) (show j < 4 by omega) (ad_a3 (show j < 4 by omega)) ?_
      refine bf_aload_n r.1 dX7_fill_48 rfl ?_
      refine bf_iload r.1 dX7_fill_49 rfl ?_
      refine bf_iconst r.1 (v := nI 1) dX7_fill_51 rfl ?_
      refine na_add r dX7_fill_52  ?_
      refine cl_v r (y2 := mX5_read) dX7_fill_53 li_X7_15 mv_X5_read (ad_c29 hk) (ad_l29 hk) [.int (nI (i + 3 + (j * 8) + 1))] [.ref (6 + 3 * j)] rfl (Nat.le_of_ble_eq_true rfl) rfl (c_X5_read (by omega) vs cs hk hz (by omega)) ?_
      show J 56 [some (.ref 2), some (.ref (29 + 2 * k)), some (.int (nI i)), some (.int (nI m)), some (.int (nI j)), some (.int (nI (i + 3 + (j * 8))))] [.int (sC S k (i + 3 + (j * 8) + 1)), .ref (6 + 3 * j)] (bf_MD D)
      refine eq_i (v := cc (4 + 8 * j)) (by rw [← hct]; congr 1; omega) ?_
      refine cl_s r (y2 := mX7_kindOf) dX7_fill_56 li_X7_29 mv_X7_kindOf [.int (cc (4 + 8 * j))] [.ref (6 + 3 * j)] rfl (Nat.le_of_ble_eq_true rfl) rfl (c_X7_kindOf (by omega) D (cc (4 + 8 * j))) ?_
      show J 59 [some (.ref 2), some (.ref (29 + 2 * k)), some (.int (nI i)), some (.int (nI m)), some (.int (nI j)), some (.int (nI (i + 3 + (j * 8))))] [.int (bf_ko (cc (4 + 8 * j))), .ref (6 + 3 * j)] (bf_MD D)
      refine eq_i (v := nI (tK cc j)) (tK_ok ht (by omega)).1 ?_
      refine bf_aload_n r.1 dX7_fill_59 rfl ?_
      refine bf_iload r.1 dX7_fill_60 rfl ?_
      refine bf_iconst r.1 (v := nI 2) dX7_fill_62 rfl ?_
      refine na_add r dX7_fill_63  ?_
      refine bf_iconst r.1 (v := nI 3) dX7_fill_64 rfl ?_
      refine cl_s r (y2 := mX7_number) dX7_fill_65 li_X7_25 mv_X7_number [.ref (29 + 2 * k), .int (nI (i + 3 + (j * 8) + 2)), .int (nI 3)] [.int (nI (tK cc j)), .ref (6 + 3 * j)] rfl (Nat.le_of_ble_eq_true rfl) rfl (c_X7_number (by omega) vs cs hk hz (by omega)) ?_
      show J 68 [some (.ref 2), some (.ref (29 + 2 * k)), some (.int (nI i)), some (.int (nI m)), some (.int (nI j)), some (.int (nI (i + 3 + (j * 8))))] [.int (bf_nb (fun j9 => sC S k (i + 3 + (j * 8) + 2 + j9)) 3), .int (nI (tK cc j)), .ref (6 + 3 * j)] (bf_MD D)
      refine eq_i (v := nI (tD cc j)) ((bf_nb_c (fun t => by rw [← hct]; congr 1; omega) 3).trans (tD_ok ht (by omega)).1) ?_
      refine bf_aload_n r.1 dX7_fill_68 rfl ?_
      refine bf_iload r.1 dX7_fill_69 rfl ?_
      refine bf_iconst r.1 (v := nI 5) dX7_fill_71 rfl ?_
      refine na_add r dX7_fill_72  ?_
      refine bf_iconst r.1 (v := nI 3) dX7_fill_73 rfl ?_
      refine cl_s r (y2 := mX7_number) dX7_fill_74 li_X7_25 mv_X7_number [.ref (29 + 2 * k), .int (nI (i + 3 + (j * 8) + 5)), .int (nI 3)] [.int (nI (tD cc j)), .int (nI (tK cc j)), .ref (6 + 3 * j)] rfl (Nat.le_of_ble_eq_true rfl) rfl (c_X7_number (by omega) vs cs hk hz (by omega)) ?_
      show J 77 [some (.ref 2), some (.ref (29 + 2 * k)), some (.int (nI i)), some (.int (nI m)), some (.int (nI j)), some (.int (nI (i + 3 + (j * 8))))] [.int (bf_nb (fun j9 => sC S k (i + 3 + (j * 8) + 5 + j9)) 3), .int (nI (tD cc j)), .int (nI (tK cc j)), .ref (6 + 3 * j)] (bf_MD D)
      refine eq_i (v := nI (tT cc j)) ((bf_nb_c (fun t => by rw [← hct]; congr 1; omega) 3).trans (tT_ok ht (by omega)).1) ?_
      refine cl_v r (y2 := mX3_renew) dX7_fill_77 li_X7_54 mv_X3_renew (ad_c6 (show j < 4 by omega)) (ad_l6 (show j < 4 by omega)) [.int (nI (tK cc j)), .int (nI (tD cc j)), .int (nI (tT cc j))] [] rfl (Nat.le_of_ble_eq_true rfl) rfl (c_X3_renew (by omega) hx.2.2 (show j < 4 by omega) (tK_ok ht (by omega)).2 (tD_ok ht (by omega)).2) ?_
      show J 80 [some (.ref 2), some (.ref (29 + 2 * k)), some (.int (nI i)), some (.int (nI m)), some (.int (nI j)), some (.int (nI (i + 3 + (j * 8))))] [] (bf_MD (bf_rD D j (tK cc j) (tD cc j) (tT cc j)))
      refine na_inc r (v := j + 1) (L2 := [some (.ref 2), some (.ref (29 + 2 * k)), some (.int (nI i)), some (.int (nI m)), some (.int (nI (j + 1))), some (.int (nI (i + 3 + (j * 8))))]) dX7_fill_80 rfl (nI_add _ 1) rfl ?_
      refine bf_goto r.1 (tgt := 21) dX7_fill_83 (by decide) ?_
      refine bf_fgt r.1 (i := 5) (L2 := [some (.ref 2), some (.ref (29 + 2 * k)), some (.int (nI i)), some (.int (nI m)), some (.int (nI (j + 1))), none]) rfl ?_
      exact ih (by omega) (bf_rD D j (tK cc j) (tD cc j) (tT cc j)) (cTx_s (P := pTx cc m) (n := j) hx (fun _ => rfl)) (fun a t ha => (bf_rD_o (by omega) (by omega) (by omega)).trans (hf a t ha))
  exact loop 0 (Nat.zero_le _) _ (cTx_0 hl0 cc m) (fun a t ha => bf_nD_o (by omega))
