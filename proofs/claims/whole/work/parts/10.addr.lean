theorem ad_k6 {k : Nat} (h : k < 4) : bf_kd (6 + 3 * k) = (3, 6) :=
  match k, h with
  | 0, _ => rfl
  | 1, _ => rfl
  | 2, _ => rfl
  | 3, _ => rfl
theorem ad_c6 {k : Nat} (h : k < 4) : (bf_kd (6 + 3 * k)).1 = 3 := by rw [ad_k6 h]
theorem ad_l6 {k : Nat} (h : k < 4) : 6 + 3 * k < 57 := by omega
theorem ad_r6_0 {k : Nat} (h : k < 4) : bf_rt (6 + 3 * k) 0 = 5 :=
  match k, h with
  | 0, _ => rfl
  | 1, _ => rfl
  | 2, _ => rfl
  | 3, _ => rfl
theorem ad_r6_1 {k : Nat} (h : k < 4) : bf_rt (6 + 3 * k) 1 = (7 + 3 * k) + 1 :=
  match k, h with
  | 0, _ => rfl
  | 1, _ => rfl
  | 2, _ => rfl
  | 3, _ => rfl
theorem ad_r6_2 {k : Nat} (h : k < 4) : bf_rt (6 + 3 * k) 2 = (8 + 3 * k) + 1 :=
  match k, h with
  | 0, _ => rfl
  | 1, _ => rfl
  | 2, _ => rfl
  | 3, _ => rfl
theorem ad_i6 {k : Nat} (h : k < 4) (j : Nat) (hj : 3 ≤ j) : bf_rt (6 + 3 * k) j = 0 := by
  obtain ⟨i, rfl⟩ : ∃ i, j = i + 3 := ⟨j - 3, by omega⟩
  match k, h with
  | 0, _ => rfl
  | 1, _ => rfl
  | 2, _ => rfl
  | 3, _ => rfl
theorem ad_k7 {k : Nat} (h : k < 4) : bf_kd (7 + 3 * k) = (9, 10) :=
  match k, h with
  | 0, _ => rfl
  | 1, _ => rfl
  | 2, _ => rfl
  | 3, _ => rfl
theorem ad_c7 {k : Nat} (h : k < 4) : (bf_kd (7 + 3 * k)).1 = 9 := by rw [ad_k7 h]
theorem ad_l7 {k : Nat} (h : k < 4) : 7 + 3 * k < 57 := by omega
theorem ad_k8 {k : Nat} (h : k < 4) : bf_kd (8 + 3 * k) = (9, 7) :=
  match k, h with
  | 0, _ => rfl
  | 1, _ => rfl
  | 2, _ => rfl
  | 3, _ => rfl
theorem ad_c8 {k : Nat} (h : k < 4) : (bf_kd (8 + 3 * k)).1 = 9 := by rw [ad_k8 h]
theorem ad_l8 {k : Nat} (h : k < 4) : 8 + 3 * k < 57 := by omega
theorem ad_k29 {k : Nat} (h : k < 4) : bf_kd (29 + 2 * k) = (5, 3) :=
  match k, h with
  | 0, _ => rfl
  | 1, _ => rfl
  | 2, _ => rfl
  | 3, _ => rfl
theorem ad_c29 {k : Nat} (h : k < 4) : (bf_kd (29 + 2 * k)).1 = 5 := by rw [ad_k29 h]
theorem ad_l29 {k : Nat} (h : k < 4) : 29 + 2 * k < 57 := by omega
theorem ad_r29_0 {k : Nat} (h : k < 4) : bf_rt (29 + 2 * k) 0 = (30 + 2 * k) + 1 :=
  match k, h with
  | 0, _ => rfl
  | 1, _ => rfl
  | 2, _ => rfl
  | 3, _ => rfl
theorem ad_i29 {k : Nat} (h : k < 4) (j : Nat) (hj : 1 ≤ j) : bf_rt (29 + 2 * k) j = 0 := by
  obtain ⟨i, rfl⟩ : ∃ i, j = i + 1 := ⟨j - 1, by omega⟩
  match k, h with
  | 0, _ => rfl
  | 1, _ => rfl
  | 2, _ => rfl
  | 3, _ => rfl
theorem ad_k30 {k : Nat} (h : k < 4) : bf_kd (30 + 2 * k) = (9, 60) :=
  match k, h with
  | 0, _ => rfl
  | 1, _ => rfl
  | 2, _ => rfl
  | 3, _ => rfl
theorem ad_c30 {k : Nat} (h : k < 4) : (bf_kd (30 + 2 * k)).1 = 9 := by rw [ad_k30 h]
theorem ad_l30 {k : Nat} (h : k < 4) : 30 + 2 * k < 57 := by omega
theorem ad_a1 {k : Nat} (h : k < 4) : bf_rt 1 k = (29 + 2 * k) + 1 :=
  match k, h with
  | 0, _ => rfl
  | 1, _ => rfl
  | 2, _ => rfl
  | 3, _ => rfl
theorem ad_a3 {k : Nat} (h : k < 4) : bf_rt 3 k = (6 + 3 * k) + 1 :=
  match k, h with
  | 0, _ => rfl
  | 1, _ => rfl
  | 2, _ => rfl
  | 3, _ => rfl
theorem bf_lt31 {n m : Nat} (h : n < m) (hm : m ≤ 2 ^ 31) : n < 2 ^ 31 := Nat.lt_of_lt_of_le h hm
theorem bf_wi {v : Int32} {n : Nat} (hn : n < 2 ^ 31) (h : 0 ≤ v ∧ v < nI n) : ∃ k : Nat, k < n ∧ v = nI k := by
  obtain ⟨k, hk, rfl⟩ := nI_of (x := v) (Int32.not_lt.mpr h.1)
  exact ⟨k, (nI_ltI hk hn).mp h.2, rfl⟩
theorem bf_wi_nI {k n : Nat} (hk : k < n) (hn : n < 2 ^ 31) : 0 ≤ nI k ∧ nI k < nI n := ⟨nI_pos' (by omega), (nI_ltI (by omega) hn).mpr hk⟩
theorem bf_wi_iff {k n : Nat} (hk : k < 2 ^ 31) (hn : n < 2 ^ 31) : (0 ≤ nI k ∧ nI k < nI n) ↔ k < n := ⟨fun h => (nI_ltI hk hn).mp h.2, fun h => bf_wi_nI h hn⟩
theorem bf_if {α : Type} {c : Prop} {hc : Decidable c} {a b x : α} (h1 : c → a = x) (h2 : ¬ c → b = x) : (@ite _ c hc a b) = x := by
  by_cases h : c
  · rw [if_pos h]; exact h1 h
  · rw [if_neg h]; exact h2 h
theorem bf_ifc {α : Type} {c c' : Prop} {hc : Decidable c} {hc' : Decidable c'} {a b : α} (h : c ↔ c') : (@ite _ c hc a b) = (@ite _ c' hc' a b) := by
  by_cases hx : c
  · rw [if_pos hx, if_pos (h.mp hx)]
  · rw [if_neg hx, if_neg (fun e => hx (h.mpr e))]
theorem bf_toL (x : Int32) : x.toInt64.toInt = x.toInt := Int32.toInt_toInt64 x
theorem bf_in32 {x : Int32} {h : Nat} (hh : h + 1 < 2 ^ 31) : (lN 0 ≤ x.toInt64 ∧ x.toInt64 ≤ lN h) ↔ (0 ≤ x ∧ x < nI (h + 1)) := by
  rw [Int64.le_iff_toInt_le, Int64.le_iff_toInt_le, Int32.le_iff_toInt_le, Int32.lt_iff_toInt_lt, bf_toL, lN_toInt (by decide), lN_toInt (by omega), nI_toInt hh]
  show ((0 : Nat) : Int) ≤ _ ∧ _ ↔ (0 : Int) ≤ _ ∧ _
  omega
