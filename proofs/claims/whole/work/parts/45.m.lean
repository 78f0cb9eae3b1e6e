/-! the reference: a panel is read -/
def cEx (c : Nat → Int32) (n t : Nat) : Int32 := if t < n then c t else -9
theorem cEx_i {c : Nat → Int32} {n t v : Nat} (hv : v < 2 ^ 31) : cEx c n t = nI v ↔ (t < n ∧ c t = nI v) := by
  unfold cEx
  by_cases h : t < n
  · rw [if_pos h]; exact ⟨fun q => ⟨h, q⟩, fun q => q.2⟩
  · rw [if_neg h]; exact ⟨fun q => absurd q.symm (bf_nm9 hv), fun q => absurd q.1 h⟩
def isF (cd : Int32) (lo hi : Nat) : Bool := decide (lN lo ≤ (cd - nI 48).toInt64 ∧ (cd - nI 48).toInt64 ≤ lN hi)
theorem isF_iff {cd : Int32} {lo hi : Nat} (hl : lo ≤ 9) (hh : hi ≤ 9) : isF cd lo hi = true ↔ ∃ x, lo ≤ x ∧ x ≤ hi ∧ cd = nI (x + 48) := by
  unfold isF
  constructor
  · intro h
    replace h := of_decide_eq_true h
    rw [Int64.le_iff_toInt_le, Int64.le_iff_toInt_le, bf_toL, lN_toInt (by omega), lN_toInt (by omega)] at h
    obtain ⟨x, hx, ex⟩ := nI_of (x := cd - nI 48) (by rw [bf_lt0]; omega)
    rw [ex, nI_toInt hx] at h
    refine ⟨x, by omega, by omega, ?_⟩
    have e : cd = (cd - nI 48) + nI 48 := by grind
    rw [e, ex, nI_add]
  · rintro ⟨x, h1, h2, rfl⟩
    have e : nI (x + 48) - nI 48 = nI x := by rw [pk_sub (by omega), Nat.add_sub_cancel]
    refine decide_eq_true ?_
    rw [e, bf_lN32 (by omega), lN_le (by omega) (by omega), lN_le (by omega) (by omega)]
    exact ⟨h1, h2⟩
def stpR (c : Nat → Int32) (n t : Nat) : Prop := t ≤ n ∧ ∀ u, u < t → bf_go c u = true
def hltR (c : Nat → Int32) (n t : Nat) : Prop := stpR c n t ∧ ¬ (t < n ∧ bf_go c t = true)
section
variable {c : Nat → Int32} {n : Nat}
theorem stp_s {t : Nat} (h : stpR c n t) (h2 : t < n ∧ bf_go c t = true) : stpR c n (t + 1) := by
  refine ⟨h2.1, fun u hu => ?_⟩
  by_cases e : u = t
  · rw [e]; exact h2.2
  · exact h.2 u (by omega)
theorem tf_h {t : Nat} (h : hltR c n t) (h2 : t = n → ¬ (11 ≤ n ∧ (n - 3) % 8 = 0)) : bf_tf c n = some t := by
  unfold bf_tf
  by_cases ht : t < n
  · rw [bf_fi_eq ht h.1.2 (fun q => h.2 ⟨ht, q⟩), if_pos ht]
  · have e : t = n := by have := h.1.1; omega
    subst e
    rw [bf_fi_all h.1.2, if_neg (Nat.lt_irrefl _), if_neg (h2 rfl)]
theorem tf_k (h : stpR c n n) (h1 : 11 ≤ n) (h8 : (n - 3) % 8 = 0) : bf_tf c n = none := by
  unfold bf_tf
  rw [bf_fi_all h.2, if_neg (Nat.lt_irrefl _), if_pos ⟨h1, h8⟩]
theorem dig_i {cc : Int32} : (nI 48 ≤ cc ∧ cc ≤ nI 57) ↔ ∃ x, x ≤ 9 ∧ cc = nI (x + 48) := by
  constructor
  · intro h
    obtain ⟨x, hx, e⟩ := bf_dgt h
    exact ⟨x, by omega, e⟩
  · rintro ⟨x, hx, rfl⟩
    exact ⟨(nI_leI (by decide) (by omega)).mpr (by omega), (nI_leI (by omega) (by decide)).mpr (by omega)⟩
theorem go_0i : bf_go c 0 = true ↔ c 0 = nI 112 := by
  unfold bf_go
  rw [if_neg (by decide), if_pos rfl, decide_eq_true_iff]
theorem go_1i : bf_go c 1 = true ↔ ∃ x, x ≤ 9 ∧ c 1 = nI (x + 48) := by
  unfold bf_go
  rw [if_neg (by decide), if_neg (by decide), if_pos (by decide), decide_eq_true (show (1 : Nat) = 1 from rfl), Bool.true_or, Bool.and_true, decide_eq_true_iff, dig_i]
theorem go_2i {x : Nat} (hx : x ≤ 9) (h1 : c 1 = nI (x + 48)) : bf_go c 2 = true ↔ ∃ y, (if x = 0 then 1 else 0) ≤ y ∧ y ≤ 9 ∧ c 2 = nI (y + 48) := by
  unfold bf_go
  rw [if_neg (by decide), if_neg (by decide), if_pos (by decide), decide_eq_false (show ¬ (2 : Nat) = 1 by decide), Bool.false_or, Bool.and_eq_true, decide_eq_true_iff, decide_eq_true_iff, dig_i]
  constructor
  · rintro ⟨⟨y, hy, ey⟩, h2⟩
    rw [bf_nb2 (f := fun j => c (1 + j)) h1 ey] at h2
    refine ⟨y, ?_, hy, ey⟩
    by_cases e : x = 0
    · rw [if_pos e]
      rcases Nat.eq_zero_or_pos y with e2 | e2
      · rw [e, e2] at h2; exact absurd (Int32.le_refl _) h2
      · exact e2
    · rw [if_neg e]; exact Nat.zero_le _
  · rintro ⟨y, h2, hy, ey⟩
    refine ⟨⟨y, hy, ey⟩, ?_⟩
    rw [bf_nb2 (f := fun j => c (1 + j)) h1 ey]
    intro q
    have q2 := (nI_leI (show 10 * x + y < 2 ^ 31 by omega) (show 0 < 2 ^ 31 by decide)).mp q
    by_cases e : x = 0
    · rw [if_pos e] at h2; omega
    · omega
theorem go_si {j : Nat} (hj : j < 4) : bf_go c (3 + 8 * j) = true ↔ c (3 + 8 * j) = nI 59 := by
  unfold bf_go
  rw [if_neg (by omega), if_neg (by omega), if_neg (by omega), if_pos (by omega), decide_eq_true_iff]
theorem go_ki {j : Nat} (hj : j < 4) : bf_go c (4 + 8 * j) = true ↔ (c (4 + 8 * j) = nI 102 ∨ c (4 + 8 * j) = nI 109 ∨ c (4 + 8 * j) = nI 116) := by
  unfold bf_go
  rw [if_neg (by omega), if_neg (by omega), if_neg (by omega), if_neg (by omega), if_pos (by omega), decide_eq_true_iff]
  unfold bf_ko
  by_cases h1 : c (4 + 8 * j) = nI 102
  · rw [if_pos h1]; exact ⟨fun _ => Or.inl h1, fun _ => by decide⟩
  · rw [if_neg h1]
    by_cases h2 : c (4 + 8 * j) = nI 109
    · rw [if_pos h2]; exact ⟨fun _ => Or.inr (Or.inl h2), fun _ => by decide⟩
    · rw [if_neg h2]
      by_cases h3 : c (4 + 8 * j) = nI 116
      · rw [if_pos h3]; exact ⟨fun _ => Or.inr (Or.inr h3), fun _ => by decide⟩
      · rw [if_neg h3]
        exact ⟨fun q => absurd rfl q, fun q => by rcases q with q | q | q <;> contradiction⟩
theorem go_di {j a p : Nat} (hj : j < 4) (ha : a < 3) (hp : p = 5 ∨ p = 8) : bf_go c (p + a + 8 * j) = true ↔ (∃ x, x ≤ 9 ∧ c (p + a + 8 * j) = nI (x + 48)) ∧ bf_nb (fun i => c (p + 8 * j + i)) (a + 1) ≤ bf_gre a := by
  have e : (p + a + 8 * j - 3) % 8 = p - 3 + a := by omega
  have hah : bf_ah (p + a + 8 * j) = a := by
    unfold bf_ah
    rw [e]
    split <;> omega
  unfold bf_go
  rw [if_neg (by omega), if_neg (by omega), if_neg (by omega), if_neg (by omega), if_neg (by omega), Bool.and_eq_true, hah, decide_eq_true_iff, decide_eq_true_iff, dig_i, show p + a + 8 * j - a = p + 8 * j by omega]
theorem nb1 {f : Nat → Int32} {x : Nat} (h0 : f 0 = nI (x + 48)) : bf_nb f 1 = nI x := by
  have := bf_nbs (n := 0) (v := 0) rfl h0
  simpa using this
theorem d0_i {j p : Nat} (hj : j < 4) (hp : p = 5 ∨ p = 8) : isF (cEx c n (p + 8 * j)) 0 1 = true ↔ (p + 8 * j < n ∧ bf_go c (p + 8 * j) = true) := by
  have h := go_di (c := c) hj (show 0 < 3 by decide) hp
  rw [Nat.add_zero] at h
  rw [isF_iff (by decide) (by decide), h]
  constructor
  · rintro ⟨x, -, hx, e⟩
    obtain ⟨h1, h2⟩ := (cEx_i (by omega)).mp e
    refine ⟨h1, ⟨x, by omega, h2⟩, ?_⟩
    rw [nb1 (f := fun i => c (p + 8 * j + i)) h2]
    exact (nI_leI (by omega) (show 1 < 2 ^ 31 by decide)).mpr hx
  · rintro ⟨h1, ⟨x, hx, e⟩, h2⟩
    rw [nb1 (f := fun i => c (p + 8 * j + i)) e] at h2
    exact ⟨x, Nat.zero_le _, (nI_leI (by omega) (show 1 < 2 ^ 31 by decide)).mp h2, (cEx_i (by omega)).mpr ⟨h1, e⟩⟩
theorem d1_i {j p x hi : Nat} (hj : j < 4) (hp : p = 5 ∨ p = 8) (hx : x ≤ 1) (ex : c (p + 8 * j) = nI (x + 48)) (hh : hi = if x = 1 then 2 else 9) : isF (cEx c n (p + 8 * j + 1)) 0 hi = true ↔ (p + 8 * j + 1 < n ∧ bf_go c (p + 8 * j + 1) = true) := by
  have h := go_di (c := c) hj (show 1 < 3 by decide) hp
  have hh9 : hi ≤ 9 := by rw [hh]; split <;> omega
  rw [show p + 1 + 8 * j = p + 8 * j + 1 by omega] at h
  rw [isF_iff (by decide) hh9, h]
  constructor
  · rintro ⟨y, -, hy, e⟩
    obtain ⟨h1, h2⟩ := (cEx_i (by omega)).mp e
    refine ⟨h1, ⟨y, by omega, h2⟩, ?_⟩
    rw [bf_nb2 (f := fun i => c (p + 8 * j + i)) ex h2]
    refine (nI_leI (by omega) (show 12 < 2 ^ 31 by decide)).mpr ?_
    rw [hh] at hy
    split at hy <;> omega
  · rintro ⟨h1, ⟨y, hy, e⟩, h2⟩
    rw [bf_nb2 (f := fun i => c (p + 8 * j + i)) ex e] at h2
    have h3 := (nI_leI (by omega) (show 12 < 2 ^ 31 by decide)).mp h2
    refine ⟨y, Nat.zero_le _, ?_, (cEx_i (by omega)).mpr ⟨h1, e⟩⟩
    rw [hh]
    split <;> omega
theorem d2_i {j p x y hi : Nat} (hj : j < 4) (hp : p = 5 ∨ p = 8) (hx : x ≤ 1) (hy : y ≤ if x = 1 then 2 else 9) (ex : c (p + 8 * j) = nI (x + 48)) (ey : c (p + 8 * j + 1) = nI (y + 48)) (hh : hi = if x = 1 ∧ y = 2 then 7 else 9) : isF (cEx c n (p + 8 * j + 2)) 0 hi = true ↔ (p + 8 * j + 2 < n ∧ bf_go c (p + 8 * j + 2) = true) := by
  have h := go_di (c := c) hj (show 2 < 3 by decide) hp
  have hh9 : hi ≤ 9 := by rw [hh]; split <;> omega
  have hy9 : y ≤ 9 := by split at hy <;> omega
  rw [show p + 2 + 8 * j = p + 8 * j + 2 by omega] at h
  rw [isF_iff (by decide) hh9, h]
  constructor
  · rintro ⟨z, -, hz, e⟩
    obtain ⟨h1, h2⟩ := (cEx_i (by omega)).mp e
    refine ⟨h1, ⟨z, by omega, h2⟩, ?_⟩
    rw [bf_nb3 (f := fun i => c (p + 8 * j + i)) ex ey h2]
    refine (nI_leI (by omega) (show 127 < 2 ^ 31 by decide)).mpr ?_
    rw [hh] at hz
    split at hz <;> split at hy <;> omega
  · rintro ⟨h1, ⟨z, hz, e⟩, h2⟩
    rw [bf_nb3 (f := fun i => c (p + 8 * j + i)) ex ey e] at h2
    have h3 := (nI_leI (by omega) (show 127 < 2 ^ 31 by decide)).mp h2
    refine ⟨z, Nat.zero_le _, ?_, (cEx_i (by omega)).mpr ⟨h1, e⟩⟩
    rw [hh]
    split <;> omega
end
theorem lN_neg9 {lo : Nat} (h : lo ≤ 9) : ¬ (lN lo ≤ (-9 : Int32).toInt64) := by
  have key : ∀ x : Fin 10, ¬ lN x.1 ≤ (-9 : Int32).toInt64 := by decide
  exact key ⟨lo, by omega⟩
theorem c_X9_codeAt {d : Nat} (hd : 1 ≤ d) {D : bf_D} {c : Nat → Int32} {fr n t : Nat} (hn : n ≤ 60) (hf : fr + n ≤ 240) (hcc : ∀ t, t < n → D 55 (fr + t) = c t) (ht : D 37 8 = nI t) (ht31 : t ≤ 100) : bf_Cf d mX9_codeAt [.ref 37, .int (nI fr), .int (nI n)] D (some (.int (cEx c n t))) D := by
  refine bf_Cf_of 0 hd mo_X9_codeAt (Nat.le_of_ble_eq_true rfl) (fun e he J r => ?_)
  show J 0 [some (.ref 37), some (.int (nI fr)), some (.int (nI n))] [] (bf_MD D)
  refine bf_aload_n r.1 dX9_codeAt_0 rfl ?_
  refine ig_int r (v := nI t) dX9_codeAt_1 fl_X9_84 rfl (by decide) rfl ht ?_
  refine bf_iload_n r.1 dX9_codeAt_4 rfl ?_
  refine nc_ge r (tgt := 22) dX9_codeAt_5 (by decide) (by omega) (by omega) (fun c587 => ?_) (fun c587 => ?_)
  · refine bf_bipush r.1 (v := -9) dX9_codeAt_22 rfl ?_
    exact rt_i r dX9_codeAt_24 rfl rfl (show _ = cEx c n t from (if_neg (by omega)).symm) rfl
  · refine bf_aload_n r.1 dX9_codeAt_8 rfl ?_
    refine ig_ref r (b := 55) dX9_codeAt_9 fl_X9_61 rfl (by decide) rfl ?_
    refine bf_iload_n r.1 dX9_codeAt_12 rfl ?_
    refine bf_aload_n r.1 dX9_codeAt_13 rfl ?_
    refine ig_int r (v := nI t) dX9_codeAt_14 fl_X9_84 rfl (by decide) rfl ht ?_
    refine na_add r dX9_codeAt_17  ?_
    refine ia_ld r (n := 240) (v := c t) dX9_codeAt_18 rfl (by decide) (by omega) (hcc t c587) ?_
    refine bf_goto r.1 (tgt := 24) dX9_codeAt_19 (by decide) ?_
    exact rt_i r dX9_codeAt_24 rfl rfl (show _ = cEx c n t from (if_pos (by omega)).symm) rfl
theorem c_X9_figureS {d : Nat} (hd : 2 ≤ d) {D : bf_D} {c : Nat → Int32} {fr n t : Nat} (hn : n ≤ 60) (hf : fr + n ≤ 240) (hcc : ∀ t, t < n → D 55 (fr + t) = c t) (ht : D 37 8 = nI t) (ht31 : t ≤ 100) {ah : Int32} {lo hi : Nat} (hlo : lo ≤ 9) (hhi : hi ≤ 9) (hah : 0 ≤ ah) : bf_Cf d mX9_figure [.ref 37, .int (nI fr), .int (nI n), .int (ah), .int (nI lo), .int (nI hi)] D (some (.int (if isF (cEx c n t) lo hi = true then (cEx c n t) - nI 48 else -9))) (bf_u D 37 8 (nI (if isF (cEx c n t) lo hi = true then t + 1 else t))) := by
  refine bf_Cf_of 1 hd mo_X9_figure (Nat.le_of_ble_eq_true rfl) (fun e he J r => ?_)
  show J 0 [some (.ref 37), some (.int (nI fr)), some (.int (nI n)), some (.int (ah)), some (.int (nI lo)), some (.int (nI hi)), none, none] [] (bf_MD D)
  refine bf_iload_n r.1 dX9_figure_0 rfl ?_
  refine bf_if_ge r.1 (tgt := 9) dX9_figure_1 (by decide) (fun c588 => ?_) (fun c588 => ?_)
  · refine bf_aload_n r.1 dX9_figure_9 rfl ?_
    refine bf_iload_n r.1 dX9_figure_10 rfl ?_
    refine bf_iload_n r.1 dX9_figure_11 rfl ?_
    refine cl_v r (y2 := mX9_codeAt) dX9_figure_12 li_X9_87 mv_X9_codeAt rfl (by decide) [.int (nI fr), .int (nI n)] [] rfl (Nat.le_of_ble_eq_true rfl) rfl (c_X9_codeAt (by omega) (c := c) (fr := fr) (n := n) (t := t) hn hf hcc ht (by omega)) ?_
    show J 15 [some (.ref 37), some (.int (nI fr)), some (.int (nI n)), some (.int (ah)), some (.int (nI lo)), some (.int (nI hi)), none, none] [.int (cEx c n t)] (bf_MD D)
    refine bf_bipush r.1 (v := nI 48) dX9_figure_15 rfl ?_
    refine bf_isub r.1 dX9_figure_17 ?_
    refine bf_istore r.1 (L2 := [some (.ref 37), some (.int (nI fr)), some (.int (nI n)), some (.int (ah)), some (.int (nI lo)), some (.int (nI hi)), some (.int ((cEx c n t) - (nI 48))), none]) dX9_figure_18 rfl ?_
    refine bf_iload r.1 dX9_figure_20 rfl ?_
    refine bf_i2l r.1 dX9_figure_22 ?_
    refine bf_iload r.1 dX9_figure_23 rfl ?_
    refine na_i2l r dX9_figure_25 (by omega) ?_
    refine bf_iload r.1 dX9_figure_26 rfl ?_
    refine na_i2l r dX9_figure_28 (by omega) ?_
    refine cl_s r (y2 := mX9_in) dX9_figure_29 li_X9_80 mv_X9_in [.long (((cEx c n t) - (nI 48)).toInt64), .long (lN lo), .long (lN hi)] [] rfl (Nat.le_of_ble_eq_true rfl) rfl (c_X9_in (by omega) D _ _ _) ?_
    show J 32 [some (.ref 37), some (.int (nI fr)), some (.int (nI n)), some (.int (ah)), some (.int (nI lo)), some (.int (nI hi)), some (.int ((cEx c n t) - (nI 48))), none] [.int (if lN lo ≤ ((cEx c n t) - (nI 48)).toInt64 ∧ ((cEx c n t) - (nI 48)).toInt64 ≤ lN hi then 1 else 0)] (bf_MD D)
    refine bf_istore r.1 (L2 := [some (.ref 37), some (.int (nI fr)), some (.int (nI n)), some (.int (ah)), some (.int (nI lo)), some (.int (nI hi)), some (.int ((cEx c n t) - (nI 48))), some (.int (if lN lo ≤ ((cEx c n t) - (nI 48)).toInt64 ∧ ((cEx c n t) - (nI 48)).toInt64 ≤ lN hi then 1 else 0))]) dX9_figure_32 rfl ?_
    refine bf_aload_n r.1 dX9_figure_34 rfl ?_
    refine bf_dup r.1 dX9_figure_35 rfl ?_
    refine ig_int r (v := nI t) dX9_figure_36 fl_X9_84 rfl (by decide) rfl ht ?_
    refine bf_iload r.1 dX9_figure_39 rfl ?_
    refine nb_eq r (tgt := 48) dX9_figure_41 (by decide) (fun c589 => ?_) (fun c589 => ?_)
    · refine bf_iconst r.1 (v := nI 0) dX9_figure_48 rfl ?_
      refine na_add r dX9_figure_49  ?_
      refine ip_int r dX9_figure_50 fp_X9_84 rfl (by decide) rfl ?_
      refine bf_iload r.1 dX9_figure_53 rfl ?_
      refine nb_eq r (tgt := 63) dX9_figure_55 (by decide) (fun c590 => ?_) (fun c590 => ?_)
      · refine bf_bipush r.1 (v := -9) dX9_figure_63 rfl ?_
        exact rt_i r dX9_figure_65 rfl rfl (if_neg (show ¬ isF (cEx c n t) lo hi = true from fun q => c589 (of_decide_eq_true q))).symm (by rw [if_neg (show ¬ isF (cEx c n t) lo hi = true from fun q => c589 (of_decide_eq_true q))]; rfl)
      · exact absurd c590 c589
    · refine bf_iconst r.1 (v := nI 1) dX9_figure_44 rfl ?_
      refine bf_goto r.1 (tgt := 49) dX9_figure_45 (by decide) ?_
      refine na_add r dX9_figure_49  ?_
      refine ip_int r dX9_figure_50 fp_X9_84 rfl (by decide) rfl ?_
      refine bf_iload r.1 dX9_figure_53 rfl ?_
      refine nb_eq r (tgt := 63) dX9_figure_55 (by decide) (fun c591 => ?_) (fun c591 => ?_)
      · exact absurd c589 c591
      · refine bf_iload r.1 dX9_figure_58 rfl ?_
        refine bf_goto r.1 (tgt := 65) dX9_figure_60 (by decide) ?_
        exact rt_i r dX9_figure_65 rfl rfl (if_pos (show isF (cEx c n t) lo hi = true from decide_eq_true c589)).symm (by rw [if_pos (show isF (cEx c n t) lo hi = true from decide_eq_true c589)])
  · exact absurd hah c588
theorem c_X9_figureN {d : Nat} (hd : 2 ≤ d) {D : bf_D} {c : Nat → Int32} {fr n t : Nat} (hn : n ≤ 60) (hf : fr + n ≤ 240) (hcc : ∀ t, t < n → D 55 (fr + t) = c t) (ht : D 37 8 = nI t) (ht31 : t ≤ 100) {ah : Int32} {lo hi : Nat} (hlo : lo ≤ 9) (hhi : hi ≤ 9) (hah : ah < 0) : bf_Cf d mX9_figure [.ref 37, .int (nI fr), .int (nI n), .int (ah), .int (nI lo), .int (nI hi)] D (some (.int (-9))) (bf_u D 37 8 (nI t)) := by
  refine bf_Cf_of 1 hd mo_X9_figure (Nat.le_of_ble_eq_true rfl) (fun e he J r => ?_)
  show J 0 [some (.ref 37), some (.int (nI fr)), some (.int (nI n)), some (.int (ah)), some (.int (nI lo)), some (.int (nI hi)), none, none] [] (bf_MD D)
  refine bf_iload_n r.1 dX9_figure_0 rfl ?_
  refine bf_if_ge r.1 (tgt := 9) dX9_figure_1 (by decide) (fun c592 => ?_) (fun c592 => ?_)
  · exact absurd hah (Int32.not_lt.mpr c592)
  · refine bf_bipush r.1 (v := -9) dX9_figure_4 rfl ?_
    refine bf_goto r.1 (tgt := 18) dX9_figure_6 (by decide) ?_
    refine bf_istore r.1 (L2 := [some (.ref 37), some (.int (nI fr)), some (.int (nI n)), some (.int (ah)), some (.int (nI lo)), some (.int (nI hi)), some (.int (-9)), none]) dX9_figure_18 rfl ?_
    refine bf_iload r.1 dX9_figure_20 rfl ?_
    refine bf_i2l r.1 dX9_figure_22 ?_
    refine bf_iload r.1 dX9_figure_23 rfl ?_
    refine na_i2l r dX9_figure_25 (by omega) ?_
    refine bf_iload r.1 dX9_figure_26 rfl ?_
    refine na_i2l r dX9_figure_28 (by omega) ?_
    refine cl_s r (y2 := mX9_in) dX9_figure_29 li_X9_80 mv_X9_in [.long ((-9).toInt64), .long (lN lo), .long (lN hi)] [] rfl (Nat.le_of_ble_eq_true rfl) rfl (c_X9_in (by omega) D _ _ _) ?_
    show J 32 [some (.ref 37), some (.int (nI fr)), some (.int (nI n)), some (.int (ah)), some (.int (nI lo)), some (.int (nI hi)), some (.int (-9)), none] [.int (if lN lo ≤ (-9).toInt64 ∧ (-9).toInt64 ≤ lN hi then 1 else 0)] (bf_MD D)
    refine bf_istore r.1 (L2 := [some (.ref 37), some (.int (nI fr)), some (.int (nI n)), some (.int (ah)), some (.int (nI lo)), some (.int (nI hi)), some (.int (-9)), some (.int (if lN lo ≤ (-9).toInt64 ∧ (-9).toInt64 ≤ lN hi then 1 else 0))]) dX9_figure_32 rfl ?_
    refine bf_aload_n r.1 dX9_figure_34 rfl ?_
    refine bf_dup r.1 dX9_figure_35 rfl ?_
    refine ig_int r (v := nI t) dX9_figure_36 fl_X9_84 rfl (by decide) rfl ht ?_
    refine bf_iload r.1 dX9_figure_39 rfl ?_
    refine nb_eq r (tgt := 48) dX9_figure_41 (by decide) (fun c593 => ?_) (fun c593 => ?_)
    · refine bf_iconst r.1 (v := nI 0) dX9_figure_48 rfl ?_
      refine na_add r dX9_figure_49  ?_
      refine ip_int r dX9_figure_50 fp_X9_84 rfl (by decide) rfl ?_
      refine bf_iload r.1 dX9_figure_53 rfl ?_
      refine nb_eq r (tgt := 63) dX9_figure_55 (by decide) (fun c594 => ?_) (fun c594 => ?_)
      · refine bf_bipush r.1 (v := -9) dX9_figure_63 rfl ?_
        exact rt_i r dX9_figure_65 rfl rfl rfl rfl
      · exact absurd c594 c593
    · refine bf_iconst r.1 (v := nI 1) dX9_figure_44 rfl ?_
      refine bf_goto r.1 (tgt := 49) dX9_figure_45 (by decide) ?_
      refine na_add r dX9_figure_49  ?_
      refine ip_int r dX9_figure_50 fp_X9_84 rfl (by decide) rfl ?_
      refine bf_iload r.1 dX9_figure_53 rfl ?_
      refine nb_eq r (tgt := 63) dX9_figure_55 (by decide) (fun c595 => ?_) (fun c595 => ?_)
      · exact absurd c593 c595
      · refine bf_iload r.1 dX9_figure_58 rfl ?_
        refine bf_goto r.1 (tgt := 65) dX9_figure_60 (by decide) ?_
        exact absurd c593.1 (lN_neg9 hlo)
theorem nI_nonneg {a : Nat} (h : a < 2 ^ 31) : 0 ≤ nI a := by rw [bf_le0, nI_toInt h]; omega
def frE (D D' : bf_D) : Prop := ∀ a q, (a ≠ 37 ∨ q ≠ 8) → D' a q = D a q
theorem fr8 {D D' : bf_D} {v : Int32} (h : frE D D') : frE D (bf_u D' 37 8 v) := fun a q hq => (bf_un hq).trans (h a q hq)
theorem fr8_0 {D : bf_D} : frE D D := fun _ _ _ => rfl
theorem fr8_t {D D1 D2 : bf_D} (h : frE D D1) (h2 : frE D1 D2) : frE D D2 := fun a q hq => (h2 a q hq).trans (h a q hq)
theorem e_X9_barsRead {d : Nat} (hd : 3 ≤ d) {D : bf_D} {c : Nat → Int32} {fr n j p : Nat} (hn : n ≤ 60) (hf : fr + n ≤ 240) (hcc : ∀ t, t < n → D 55 (fr + t) = c t) (hj : j < 4) (hp : p = 5 ∨ p = 8) (ht : D 37 8 = nI (p + 8 * j)) (hst : stpR c n (p + 8 * j)) : bf_Ce d mX9_barsRead [.ref 37, .int (nI fr), .int (nI n)] D (fun r D' => frE D D' ∧ ((∃ v, r = some (.int (nI v)) ∧ v < 2 ^ 31 ∧ bf_nb (fun i => c (p + 8 * j + i)) 3 = nI v ∧ stpR c n (p + 8 * j + 3) ∧ D' 37 8 = nI (p + 8 * j + 3)) ∨ (r = some (.int (-9)) ∧ ∃ a, a < 3 ∧ hltR c n (p + 8 * j + a) ∧ D' 37 8 = nI (p + 8 * j + a)))) := by
  refine bf_Ce_of 2 hd mo_X9_barsRead (Nat.le_of_ble_eq_true rfl) (fun e he J r => ?_)
  show J 0 [some (.ref 37), some (.int (nI fr)), some (.int (nI n)), none, none, none] [] (bf_MD D)
  refine bf_aload_n r.1 dX9_barsRead_0 rfl ?_
  refine bf_iload_n r.1 dX9_barsRead_1 rfl ?_
  refine bf_iload_n r.1 dX9_barsRead_2 rfl ?_
  refine bf_iconst r.1 (v := nI 0) dX9_barsRead_3 rfl ?_
  refine bf_iconst r.1 (v := nI 0) dX9_barsRead_4 rfl ?_
  refine bf_iconst r.1 (v := nI 1) dX9_barsRead_5 rfl ?_
  refine cl_v r (y2 := mX9_figure) dX9_barsRead_6 li_X9_91 mv_X9_figure rfl (by decide) [.int (nI fr), .int (nI n), .int (nI 0), .int (nI 0), .int (nI 1)] [] rfl (Nat.le_of_ble_eq_true rfl) rfl (c_X9_figureS (by omega) (c := c) (fr := fr) (n := n) (t := p + 8 * j) hn hf hcc ht (by omega) (lo := 0) (hi := 1) (by decide) (by decide) (nI_nonneg (by omega))) ?_
  show J 9 [some (.ref 37), some (.int (nI fr)), some (.int (nI n)), none, none, none] [.int (if isF (cEx c n (p + 8 * j)) 0 1 = true then (cEx c n (p + 8 * j)) - nI 48 else -9)] (bf_MD (bf_u D 37 8 (nI (if isF (cEx c n (p + 8 * j)) 0 1 = true then p + 8 * j + 1 else p + 8 * j))))
  by_cases hFx : isF (cEx c n (p + 8 * j)) 0 1 = true
  · rw [if_pos hFx, if_pos hFx]
    obtain ⟨x, xl, xh, xe⟩ := (isF_iff (by decide) (by decide)).mp hFx
    rw [show (cEx c n (p + 8 * j)) - nI 48 = nI x from by rw [xe, pk_sub (by omega), Nat.add_sub_cancel]]
    show J 9 [some (.ref 37), some (.int (nI fr)), some (.int (nI n)), none, none, none] [.int (nI x)] (bf_MD (bf_u D 37 8 (nI (p + 8 * j + 1))))
    have hg0 := (d0_i hj hp).mp hFx
    have ex := ((cEx_i (by omega)).mp xe).2
    have st1 := stp_s hst hg0
    refine bf_istore_n r.1 (L2 := [some (.ref 37), some (.int (nI fr)), some (.int (nI n)), some (.int (nI x)), none, none]) dX9_barsRead_9 rfl ?_
    refine bf_aload_n r.1 dX9_barsRead_10 rfl ?_
    refine bf_iload_n r.1 dX9_barsRead_11 rfl ?_
    refine bf_iload_n r.1 dX9_barsRead_12 rfl ?_
    refine bf_iload_n r.1 dX9_barsRead_13 rfl ?_
    refine bf_iconst r.1 (v := nI 0) dX9_barsRead_14 rfl ?_
    refine bf_iload_n r.1 dX9_barsRead_15 rfl ?_
    refine bf_iconst r.1 (v := nI 1) dX9_barsRead_16 rfl ?_
    refine nc_ne r (tgt := 24) dX9_barsRead_17 (by decide) (by omega) (by decide) (fun c596 => ?_) (fun c596 => ?_)
    · refine bf_bipush r.1 (v := nI 9) dX9_barsRead_24 rfl ?_
      refine cl_v r (y2 := mX9_figure) dX9_barsRead_26 li_X9_91 mv_X9_figure rfl (by decide) [.int (nI fr), .int (nI n), .int (nI x), .int (nI 0), .int (nI 9)] [] rfl (Nat.le_of_ble_eq_true rfl) rfl (c_X9_figureS (by omega) (c := c) (fr := fr) (n := n) (t := p + 8 * j + 1) hn hf (fun t h => (bf_un (Or.inl (by decide))).trans (hcc t h)) bf_us (by omega) (lo := 0) (hi := 9) (by decide) (by decide) (nI_nonneg (by omega))) ?_
      show J 29 [some (.ref 37), some (.int (nI fr)), some (.int (nI n)), some (.int (nI x)), none, none] [.int (if isF (cEx c n (p + 8 * j + 1)) 0 9 = true then (cEx c n (p + 8 * j + 1)) - nI 48 else -9)] (bf_MD (bf_u (bf_u D 37 8 (nI (p + 8 * j + 1))) 37 8 (nI (if isF (cEx c n (p + 8 * j + 1)) 0 9 = true then p + 8 * j + 1 + 1 else p + 8 * j + 1))))
      by_cases hFy : isF (cEx c n (p + 8 * j + 1)) 0 9 = true
      · rw [if_pos hFy, if_pos hFy]
        obtain ⟨y, yl, yh, ye⟩ := (isF_iff (by decide) (by decide)).mp hFy
        rw [show (cEx c n (p + 8 * j + 1)) - nI 48 = nI y from by rw [ye, pk_sub (by omega), Nat.add_sub_cancel]]
        show J 29 [some (.ref 37), some (.int (nI fr)), some (.int (nI n)), some (.int (nI x)), none, none] [.int (nI y)] (bf_MD (bf_u (bf_u D 37 8 (nI (p + 8 * j + 1))) 37 8 (nI (p + 8 * j + 1 + 1))))
        have hhx : 9 = if x = 1 then 2 else 9 := (if_neg c596).symm
        have hg1 := (d1_i hj hp xh ex hhx).mp hFy
        have ey := ((cEx_i (by omega)).mp ye).2
        have st2 := stp_s st1 hg1
        have yh2 : y ≤ if x = 1 then 2 else 9 := by rw [← hhx]; exact yh
        refine bf_istore r.1 (L2 := [some (.ref 37), some (.int (nI fr)), some (.int (nI n)), some (.int (nI x)), some (.int (nI y)), none]) dX9_barsRead_29 rfl ?_
        refine bf_aload_n r.1 dX9_barsRead_31 rfl ?_
        refine bf_iload_n r.1 dX9_barsRead_32 rfl ?_
        refine bf_iload_n r.1 dX9_barsRead_33 rfl ?_
        refine bf_iload r.1 dX9_barsRead_34 rfl ?_
        refine bf_iconst r.1 (v := nI 0) dX9_barsRead_36 rfl ?_
        refine bf_iload_n r.1 dX9_barsRead_37 rfl ?_
        refine bf_iconst r.1 (v := nI 1) dX9_barsRead_38 rfl ?_
        refine nc_ne r (tgt := 53) dX9_barsRead_39 (by decide) (by omega) (by decide) (fun c597 => ?_) (fun c597 => ?_)
        · refine bf_bipush r.1 (v := nI 9) dX9_barsRead_53 rfl ?_
          refine cl_v r (y2 := mX9_figure) dX9_barsRead_55 li_X9_91 mv_X9_figure rfl (by decide) [.int (nI fr), .int (nI n), .int (nI y), .int (nI 0), .int (nI 9)] [] rfl (Nat.le_of_ble_eq_true rfl) rfl (c_X9_figureS (by omega) (c := c) (fr := fr) (n := n) (t := p + 8 * j + 1 + 1) hn hf (fun t h => (bf_un (Or.inl (by decide))).trans ((fun t h => (bf_un (Or.inl (by decide))).trans (hcc t h)) t h)) bf_us (by omega) (lo := 0) (hi := 9) (by decide) (by decide) (nI_nonneg (by omega))) ?_
          show J 58 [some (.ref 37), some (.int (nI fr)), some (.int (nI n)), some (.int (nI x)), some (.int (nI y)), none] [.int (if isF (cEx c n (p + 8 * j + 1 + 1)) 0 9 = true then (cEx c n (p + 8 * j + 1 + 1)) - nI 48 else -9)] (bf_MD (bf_u (bf_u (bf_u D 37 8 (nI (p + 8 * j + 1))) 37 8 (nI (p + 8 * j + 1 + 1))) 37 8 (nI (if isF (cEx c n (p + 8 * j + 1 + 1)) 0 9 = true then p + 8 * j + 1 + 1 + 1 else p + 8 * j + 1 + 1))))
          by_cases hFz : isF (cEx c n (p + 8 * j + 1 + 1)) 0 9 = true
          · rw [if_pos hFz, if_pos hFz]
            obtain ⟨z, zl, zh, ze⟩ := (isF_iff (by decide) (by decide)).mp hFz
            rw [show (cEx c n (p + 8 * j + 1 + 1)) - nI 48 = nI z from by rw [ze, pk_sub (by omega), Nat.add_sub_cancel]]
            show J 58 [some (.ref 37), some (.int (nI fr)), some (.int (nI n)), some (.int (nI x)), some (.int (nI y)), none] [.int (nI z)] (bf_MD (bf_u (bf_u (bf_u D 37 8 (nI (p + 8 * j + 1))) 37 8 (nI (p + 8 * j + 1 + 1))) 37 8 (nI (p + 8 * j + 1 + 1 + 1))))
            have hg2 := (d2_i hj hp xh yh2 ex ey (show 9 = if x = 1 ∧ y = 2 then 7 else 9 from (if_neg (fun q => c597 q.1)).symm)).mp hFz
            have ez := ((cEx_i (by omega)).mp ze).2
            have st3 := stp_s st2 hg2
            refine bf_istore r.1 (L2 := [some (.ref 37), some (.int (nI fr)), some (.int (nI n)), some (.int (nI x)), some (.int (nI y)), some (.int (nI z))]) dX9_barsRead_58 rfl ?_
            refine bf_iload r.1 dX9_barsRead_60 rfl ?_
            refine nz_ge r (tgt := 70) dX9_barsRead_62 (by decide) (by omega) (fun c598 => ?_) (fun c598 => ?_)
            · refine bf_bipush r.1 (v := nI 100) dX9_barsRead_70 rfl ?_
              refine bf_iload_n r.1 dX9_barsRead_72 rfl ?_
              refine na_mul r dX9_barsRead_73  ?_
              refine bf_bipush r.1 (v := nI 10) dX9_barsRead_74 rfl ?_
              refine bf_iload r.1 dX9_barsRead_76 rfl ?_
              refine na_mul r dX9_barsRead_78  ?_
              refine na_add r dX9_barsRead_79  ?_
              refine bf_iload r.1 dX9_barsRead_80 rfl ?_
              refine na_add r dX9_barsRead_82  ?_
              exact re_i r dX9_barsRead_83 rfl rfl ⟨(fr8 (fr8 (fr8 fr8_0))), Or.inl ⟨_, rfl, by omega, bf_nb3 (f := fun i => c (p + 8 * j + i)) ex ey ez, st3, bf_us⟩⟩
            · exact absurd c598 (by omega)
          · rw [if_neg hFz, if_neg hFz]
            show J 58 [some (.ref 37), some (.int (nI fr)), some (.int (nI n)), some (.int (nI x)), some (.int (nI y)), none] [.int (-9)] (bf_MD (bf_u (bf_u (bf_u D 37 8 (nI (p + 8 * j + 1))) 37 8 (nI (p + 8 * j + 1 + 1))) 37 8 (nI (p + 8 * j + 1 + 1))))
            have hh2 : hltR c n (p + 8 * j + 2) := ⟨st2, fun q => hFz ((d2_i hj hp xh yh2 ex ey (show 9 = if x = 1 ∧ y = 2 then 7 else 9 from (if_neg (fun q => c597 q.1)).symm)).mpr q)⟩
            refine bf_istore r.1 (L2 := [some (.ref 37), some (.int (nI fr)), some (.int (nI n)), some (.int (nI x)), some (.int (nI y)), some (.int (-9))]) dX9_barsRead_58 rfl ?_
            refine bf_iload r.1 dX9_barsRead_60 rfl ?_
            refine bf_if_ge r.1 (tgt := 70) dX9_barsRead_62 (by decide) (fun c599 => ?_) (fun c599 => ?_)
            · exact absurd c599 (by decide)
            · refine bf_bipush r.1 (v := -9) dX9_barsRead_65 rfl ?_
              refine bf_goto r.1 (tgt := 83) dX9_barsRead_67 (by decide) ?_
              exact re_i r dX9_barsRead_83 rfl rfl ⟨(fr8 (fr8 (fr8 fr8_0))), Or.inr ⟨rfl, 2, by decide, hh2, bf_us⟩⟩
        · refine bf_iload r.1 dX9_barsRead_42 rfl ?_
          refine bf_iconst r.1 (v := nI 2) dX9_barsRead_44 rfl ?_
          refine nc_ne r (tgt := 53) dX9_barsRead_45 (by decide) (by omega) (by decide) (fun c600 => ?_) (fun c600 => ?_)
          · refine bf_bipush r.1 (v := nI 9) dX9_barsRead_53 rfl ?_
            refine cl_v r (y2 := mX9_figure) dX9_barsRead_55 li_X9_91 mv_X9_figure rfl (by decide) [.int (nI fr), .int (nI n), .int (nI y), .int (nI 0), .int (nI 9)] [] rfl (Nat.le_of_ble_eq_true rfl) rfl (c_X9_figureS (by omega) (c := c) (fr := fr) (n := n) (t := p + 8 * j + 1 + 1) hn hf (fun t h => (bf_un (Or.inl (by decide))).trans ((fun t h => (bf_un (Or.inl (by decide))).trans (hcc t h)) t h)) bf_us (by omega) (lo := 0) (hi := 9) (by decide) (by decide) (nI_nonneg (by omega))) ?_
            show J 58 [some (.ref 37), some (.int (nI fr)), some (.int (nI n)), some (.int (nI x)), some (.int (nI y)), none] [.int (if isF (cEx c n (p + 8 * j + 1 + 1)) 0 9 = true then (cEx c n (p + 8 * j + 1 + 1)) - nI 48 else -9)] (bf_MD (bf_u (bf_u (bf_u D 37 8 (nI (p + 8 * j + 1))) 37 8 (nI (p + 8 * j + 1 + 1))) 37 8 (nI (if isF (cEx c n (p + 8 * j + 1 + 1)) 0 9 = true then p + 8 * j + 1 + 1 + 1 else p + 8 * j + 1 + 1))))
            by_cases hFz : isF (cEx c n (p + 8 * j + 1 + 1)) 0 9 = true
            · rw [if_pos hFz, if_pos hFz]
              obtain ⟨z, zl, zh, ze⟩ := (isF_iff (by decide) (by decide)).mp hFz
              rw [show (cEx c n (p + 8 * j + 1 + 1)) - nI 48 = nI z from by rw [ze, pk_sub (by omega), Nat.add_sub_cancel]]
              show J 58 [some (.ref 37), some (.int (nI fr)), some (.int (nI n)), some (.int (nI x)), some (.int (nI y)), none] [.int (nI z)] (bf_MD (bf_u (bf_u (bf_u D 37 8 (nI (p + 8 * j + 1))) 37 8 (nI (p + 8 * j + 1 + 1))) 37 8 (nI (p + 8 * j + 1 + 1 + 1))))
              have hg2 := (d2_i hj hp xh yh2 ex ey (show 9 = if x = 1 ∧ y = 2 then 7 else 9 from (if_neg (fun q => c600 q.2)).symm)).mp hFz
              have ez := ((cEx_i (by omega)).mp ze).2
              have st3 := stp_s st2 hg2
              refine bf_istore r.1 (L2 := [some (.ref 37), some (.int (nI fr)), some (.int (nI n)), some (.int (nI x)), some (.int (nI y)), some (.int (nI z))]) dX9_barsRead_58 rfl ?_
              refine bf_iload r.1 dX9_barsRead_60 rfl ?_
              refine nz_ge r (tgt := 70) dX9_barsRead_62 (by decide) (by omega) (fun c601 => ?_) (fun c601 => ?_)
              · refine bf_bipush r.1 (v := nI 100) dX9_barsRead_70 rfl ?_
                refine bf_iload_n r.1 dX9_barsRead_72 rfl ?_
                refine na_mul r dX9_barsRead_73  ?_
                refine bf_bipush r.1 (v := nI 10) dX9_barsRead_74 rfl ?_
                refine bf_iload r.1 dX9_barsRead_76 rfl ?_
                refine na_mul r dX9_barsRead_78  ?_
                refine na_add r dX9_barsRead_79  ?_
                refine bf_iload r.1 dX9_barsRead_80 rfl ?_
                refine na_add r dX9_barsRead_82  ?_
                exact re_i r dX9_barsRead_83 rfl rfl ⟨(fr8 (fr8 (fr8 fr8_0))), Or.inl ⟨_, rfl, by omega, bf_nb3 (f := fun i => c (p + 8 * j + i)) ex ey ez, st3, bf_us⟩⟩
              · exact absurd c601 (by omega)
            · rw [if_neg hFz, if_neg hFz]
              show J 58 [some (.ref 37), some (.int (nI fr)), some (.int (nI n)), some (.int (nI x)), some (.int (nI y)), none] [.int (-9)] (bf_MD (bf_u (bf_u (bf_u D 37 8 (nI (p + 8 * j + 1))) 37 8 (nI (p + 8 * j + 1 + 1))) 37 8 (nI (p + 8 * j + 1 + 1))))
              have hh2 : hltR c n (p + 8 * j + 2) := ⟨st2, fun q => hFz ((d2_i hj hp xh yh2 ex ey (show 9 = if x = 1 ∧ y = 2 then 7 else 9 from (if_neg (fun q => c600 q.2)).symm)).mpr q)⟩
              refine bf_istore r.1 (L2 := [some (.ref 37), some (.int (nI fr)), some (.int (nI n)), some (.int (nI x)), some (.int (nI y)), some (.int (-9))]) dX9_barsRead_58 rfl ?_
              refine bf_iload r.1 dX9_barsRead_60 rfl ?_
              refine bf_if_ge r.1 (tgt := 70) dX9_barsRead_62 (by decide) (fun c602 => ?_) (fun c602 => ?_)
              · exact absurd c602 (by decide)
              · refine bf_bipush r.1 (v := -9) dX9_barsRead_65 rfl ?_
                refine bf_goto r.1 (tgt := 83) dX9_barsRead_67 (by decide) ?_
                exact re_i r dX9_barsRead_83 rfl rfl ⟨(fr8 (fr8 (fr8 fr8_0))), Or.inr ⟨rfl, 2, by decide, hh2, bf_us⟩⟩
          · refine bf_bipush r.1 (v := nI 7) dX9_barsRead_48 rfl ?_
            refine bf_goto r.1 (tgt := 55) dX9_barsRead_50 (by decide) ?_
            refine cl_v r (y2 := mX9_figure) dX9_barsRead_55 li_X9_91 mv_X9_figure rfl (by decide) [.int (nI fr), .int (nI n), .int (nI y), .int (nI 0), .int (nI 7)] [] rfl (Nat.le_of_ble_eq_true rfl) rfl (c_X9_figureS (by omega) (c := c) (fr := fr) (n := n) (t := p + 8 * j + 1 + 1) hn hf (fun t h => (bf_un (Or.inl (by decide))).trans ((fun t h => (bf_un (Or.inl (by decide))).trans (hcc t h)) t h)) bf_us (by omega) (lo := 0) (hi := 7) (by decide) (by decide) (nI_nonneg (by omega))) ?_
            show J 58 [some (.ref 37), some (.int (nI fr)), some (.int (nI n)), some (.int (nI x)), some (.int (nI y)), none] [.int (if isF (cEx c n (p + 8 * j + 1 + 1)) 0 7 = true then (cEx c n (p + 8 * j + 1 + 1)) - nI 48 else -9)] (bf_MD (bf_u (bf_u (bf_u D 37 8 (nI (p + 8 * j + 1))) 37 8 (nI (p + 8 * j + 1 + 1))) 37 8 (nI (if isF (cEx c n (p + 8 * j + 1 + 1)) 0 7 = true then p + 8 * j + 1 + 1 + 1 else p + 8 * j + 1 + 1))))
            by_cases hFz : isF (cEx c n (p + 8 * j + 1 + 1)) 0 7 = true
            · rw [if_pos hFz, if_pos hFz]
              obtain ⟨z, zl, zh, ze⟩ := (isF_iff (by decide) (by decide)).mp hFz
              rw [show (cEx c n (p + 8 * j + 1 + 1)) - nI 48 = nI z from by rw [ze, pk_sub (by omega), Nat.add_sub_cancel]]
              show J 58 [some (.ref 37), some (.int (nI fr)), some (.int (nI n)), some (.int (nI x)), some (.int (nI y)), none] [.int (nI z)] (bf_MD (bf_u (bf_u (bf_u D 37 8 (nI (p + 8 * j + 1))) 37 8 (nI (p + 8 * j + 1 + 1))) 37 8 (nI (p + 8 * j + 1 + 1 + 1))))
              have hg2 := (d2_i hj hp xh yh2 ex ey (show 7 = if x = 1 ∧ y = 2 then 7 else 9 from (if_pos ⟨c597, c600⟩).symm)).mp hFz
              have ez := ((cEx_i (by omega)).mp ze).2
              have st3 := stp_s st2 hg2
              refine bf_istore r.1 (L2 := [some (.ref 37), some (.int (nI fr)), some (.int (nI n)), some (.int (nI x)), some (.int (nI y)), some (.int (nI z))]) dX9_barsRead_58 rfl ?_
              refine bf_iload r.1 dX9_barsRead_60 rfl ?_
              refine nz_ge r (tgt := 70) dX9_barsRead_62 (by decide) (by omega) (fun c603 => ?_) (fun c603 => ?_)
              · refine bf_bipush r.1 (v := nI 100) dX9_barsRead_70 rfl ?_
                refine bf_iload_n r.1 dX9_barsRead_72 rfl ?_
                refine na_mul r dX9_barsRead_73  ?_
                refine bf_bipush r.1 (v := nI 10) dX9_barsRead_74 rfl ?_
                refine bf_iload r.1 dX9_barsRead_76 rfl ?_
                refine na_mul r dX9_barsRead_78  ?_
                refine na_add r dX9_barsRead_79  ?_
                refine bf_iload r.1 dX9_barsRead_80 rfl ?_
                refine na_add r dX9_barsRead_82  ?_
                exact re_i r dX9_barsRead_83 rfl rfl ⟨(fr8 (fr8 (fr8 fr8_0))), Or.inl ⟨_, rfl, by omega, bf_nb3 (f := fun i => c (p + 8 * j + i)) ex ey ez, st3, bf_us⟩⟩
              · exact absurd c603 (by omega)
            · rw [if_neg hFz, if_neg hFz]
              show J 58 [some (.ref 37), some (.int (nI fr)), some (.int (nI n)), some (.int (nI x)), some (.int (nI y)), none] [.int (-9)] (bf_MD (bf_u (bf_u (bf_u D 37 8 (nI (p + 8 * j + 1))) 37 8 (nI (p + 8 * j + 1 + 1))) 37 8 (nI (p + 8 * j + 1 + 1))))
              have hh2 : hltR c n (p + 8 * j + 2) := ⟨st2, fun q => hFz ((d2_i hj hp xh yh2 ex ey (show 7 = if x = 1 ∧ y = 2 then 7 else 9 from (if_pos ⟨c597, c600⟩).symm)).mpr q)⟩
              refine bf_istore r.1 (L2 := [some (.ref 37), some (.int (nI fr)), some (.int (nI n)), some (.int (nI x)), some (.int (nI y)), some (.int (-9))]) dX9_barsRead_58 rfl ?_
              refine bf_iload r.1 dX9_barsRead_60 rfl ?_
              refine bf_if_ge r.1 (tgt := 70) dX9_barsRead_62 (by decide) (fun c604 => ?_) (fun c604 => ?_)
              · exact absurd c604 (by decide)
              · refine bf_bipush r.1 (v := -9) dX9_barsRead_65 rfl ?_
                refine bf_goto r.1 (tgt := 83) dX9_barsRead_67 (by decide) ?_
                exact re_i r dX9_barsRead_83 rfl rfl ⟨(fr8 (fr8 (fr8 fr8_0))), Or.inr ⟨rfl, 2, by decide, hh2, bf_us⟩⟩
      · rw [if_neg hFy, if_neg hFy]
        show J 29 [some (.ref 37), some (.int (nI fr)), some (.int (nI n)), some (.int (nI x)), none, none] [.int (-9)] (bf_MD (bf_u (bf_u D 37 8 (nI (p + 8 * j + 1))) 37 8 (nI (p + 8 * j + 1))))
        have hh1 : hltR c n (p + 8 * j + 1) := ⟨st1, fun q => hFy ((d1_i hj hp xh ex (show 9 = if x = 1 then 2 else 9 from (if_neg c596).symm)).mpr q)⟩
        refine bf_istore r.1 (L2 := [some (.ref 37), some (.int (nI fr)), some (.int (nI n)), some (.int (nI x)), some (.int (-9)), none]) dX9_barsRead_29 rfl ?_
        refine bf_aload_n r.1 dX9_barsRead_31 rfl ?_
        refine bf_iload_n r.1 dX9_barsRead_32 rfl ?_
        refine bf_iload_n r.1 dX9_barsRead_33 rfl ?_
        refine bf_iload r.1 dX9_barsRead_34 rfl ?_
        refine bf_iconst r.1 (v := nI 0) dX9_barsRead_36 rfl ?_
        refine bf_iload_n r.1 dX9_barsRead_37 rfl ?_
        refine bf_iconst r.1 (v := nI 1) dX9_barsRead_38 rfl ?_
        refine nc_ne r (tgt := 53) dX9_barsRead_39 (by decide) (by omega) (by decide) (fun c605 => ?_) (fun c605 => ?_)
        · refine bf_bipush r.1 (v := nI 9) dX9_barsRead_53 rfl ?_
          refine cl_v r (y2 := mX9_figure) dX9_barsRead_55 li_X9_91 mv_X9_figure rfl (by decide) [.int (nI fr), .int (nI n), .int (-9), .int (nI 0), .int (nI 9)] [] rfl (Nat.le_of_ble_eq_true rfl) rfl (c_X9_figureN (by omega) (c := c) (fr := fr) (n := n) (t := p + 8 * j + 1) hn hf (fun t h => (bf_un (Or.inl (by decide))).trans ((fun t h => (bf_un (Or.inl (by decide))).trans (hcc t h)) t h)) bf_us (by omega) (lo := 0) (hi := 9) (by decide) (by decide) (by decide)) ?_
          show J 58 [some (.ref 37), some (.int (nI fr)), some (.int (nI n)), some (.int (nI x)), some (.int (-9)), none] [.int (-9)] (bf_MD (bf_u (bf_u (bf_u D 37 8 (nI (p + 8 * j + 1))) 37 8 (nI (p + 8 * j + 1))) 37 8 (nI (p + 8 * j + 1))))
          refine bf_istore r.1 (L2 := [some (.ref 37), some (.int (nI fr)), some (.int (nI n)), some (.int (nI x)), some (.int (-9)), some (.int (-9))]) dX9_barsRead_58 rfl ?_
          refine bf_iload r.1 dX9_barsRead_60 rfl ?_
          refine bf_if_ge r.1 (tgt := 70) dX9_barsRead_62 (by decide) (fun c606 => ?_) (fun c606 => ?_)
          · exact absurd c606 (by decide)
          · refine bf_bipush r.1 (v := -9) dX9_barsRead_65 rfl ?_
            refine bf_goto r.1 (tgt := 83) dX9_barsRead_67 (by decide) ?_
            exact re_i r dX9_barsRead_83 rfl rfl ⟨(fr8 (fr8 (fr8 fr8_0))), Or.inr ⟨rfl, 1, by decide, hh1, bf_us⟩⟩
        · refine bf_iload r.1 dX9_barsRead_42 rfl ?_
          refine bf_iconst r.1 (v := nI 2) dX9_barsRead_44 rfl ?_
          refine bf_icmp_ne r.1 (tgt := 53) dX9_barsRead_45 (by decide) (fun c607 => ?_) (fun c607 => ?_)
          · refine bf_bipush r.1 (v := nI 9) dX9_barsRead_53 rfl ?_
            refine cl_v r (y2 := mX9_figure) dX9_barsRead_55 li_X9_91 mv_X9_figure rfl (by decide) [.int (nI fr), .int (nI n), .int (-9), .int (nI 0), .int (nI 9)] [] rfl (Nat.le_of_ble_eq_true rfl) rfl (c_X9_figureN (by omega) (c := c) (fr := fr) (n := n) (t := p + 8 * j + 1) hn hf (fun t h => (bf_un (Or.inl (by decide))).trans ((fun t h => (bf_un (Or.inl (by decide))).trans (hcc t h)) t h)) bf_us (by omega) (lo := 0) (hi := 9) (by decide) (by decide) (by decide)) ?_
            show J 58 [some (.ref 37), some (.int (nI fr)), some (.int (nI n)), some (.int (nI x)), some (.int (-9)), none] [.int (-9)] (bf_MD (bf_u (bf_u (bf_u D 37 8 (nI (p + 8 * j + 1))) 37 8 (nI (p + 8 * j + 1))) 37 8 (nI (p + 8 * j + 1))))
            refine bf_istore r.1 (L2 := [some (.ref 37), some (.int (nI fr)), some (.int (nI n)), some (.int (nI x)), some (.int (-9)), some (.int (-9))]) dX9_barsRead_58 rfl ?_
            refine bf_iload r.1 dX9_barsRead_60 rfl ?_
            refine bf_if_ge r.1 (tgt := 70) dX9_barsRead_62 (by decide) (fun c608 => ?_) (fun c608 => ?_)
            · exact absurd c608 (by decide)
            · refine bf_bipush r.1 (v := -9) dX9_barsRead_65 rfl ?_
              refine bf_goto r.1 (tgt := 83) dX9_barsRead_67 (by decide) ?_
              exact re_i r dX9_barsRead_83 rfl rfl ⟨(fr8 (fr8 (fr8 fr8_0))), Or.inr ⟨rfl, 1, by decide, hh1, bf_us⟩⟩
          · exact absurd c607 (by decide)
    · refine bf_iconst r.1 (v := nI 2) dX9_barsRead_20 rfl ?_
      refine bf_goto r.1 (tgt := 26) dX9_barsRead_21 (by decide) ?_
      refine cl_v r (y2 := mX9_figure) dX9_barsRead_26 li_X9_91 mv_X9_figure rfl (by decide) [.int (nI fr), .int (nI n), .int (nI x), .int (nI 0), .int (nI 2)] [] rfl (Nat.le_of_ble_eq_true rfl) rfl (c_X9_figureS (by omega) (c := c) (fr := fr) (n := n) (t := p + 8 * j + 1) hn hf (fun t h => (bf_un (Or.inl (by decide))).trans (hcc t h)) bf_us (by omega) (lo := 0) (hi := 2) (by decide) (by decide) (nI_nonneg (by omega))) ?_
      show J 29 [some (.ref 37), some (.int (nI fr)), some (.int (nI n)), some (.int (nI x)), none, none] [.int (if isF (cEx c n (p + 8 * j + 1)) 0 2 = true then (cEx c n (p + 8 * j + 1)) - nI 48 else -9)] (bf_MD (bf_u (bf_u D 37 8 (nI (p + 8 * j + 1))) 37 8 (nI (if isF (cEx c n (p + 8 * j + 1)) 0 2 = true then p + 8 * j + 1 + 1 else p + 8 * j + 1))))
      by_cases hFy : isF (cEx c n (p + 8 * j + 1)) 0 2 = true
      · rw [if_pos hFy, if_pos hFy]
        obtain ⟨y, yl, yh, ye⟩ := (isF_iff (by decide) (by decide)).mp hFy
        rw [show (cEx c n (p + 8 * j + 1)) - nI 48 = nI y from by rw [ye, pk_sub (by omega), Nat.add_sub_cancel]]
        show J 29 [some (.ref 37), some (.int (nI fr)), some (.int (nI n)), some (.int (nI x)), none, none] [.int (nI y)] (bf_MD (bf_u (bf_u D 37 8 (nI (p + 8 * j + 1))) 37 8 (nI (p + 8 * j + 1 + 1))))
        have hhx : 2 = if x = 1 then 2 else 9 := (if_pos c596).symm
        have hg1 := (d1_i hj hp xh ex hhx).mp hFy
        have ey := ((cEx_i (by omega)).mp ye).2
        have st2 := stp_s st1 hg1
        have yh2 : y ≤ if x = 1 then 2 else 9 := by rw [← hhx]; exact yh
        refine bf_istore r.1 (L2 := [some (.ref 37), some (.int (nI fr)), some (.int (nI n)), some (.int (nI x)), some (.int (nI y)), none]) dX9_barsRead_29 rfl ?_
        refine bf_aload_n r.1 dX9_barsRead_31 rfl ?_
        refine bf_iload_n r.1 dX9_barsRead_32 rfl ?_
        refine bf_iload_n r.1 dX9_barsRead_33 rfl ?_
        refine bf_iload r.1 dX9_barsRead_34 rfl ?_
        refine bf_iconst r.1 (v := nI 0) dX9_barsRead_36 rfl ?_
        refine bf_iload_n r.1 dX9_barsRead_37 rfl ?_
        refine bf_iconst r.1 (v := nI 1) dX9_barsRead_38 rfl ?_
        refine nc_ne r (tgt := 53) dX9_barsRead_39 (by decide) (by omega) (by decide) (fun c609 => ?_) (fun c609 => ?_)
        · refine bf_bipush r.1 (v := nI 9) dX9_barsRead_53 rfl ?_
          refine cl_v r (y2 := mX9_figure) dX9_barsRead_55 li_X9_91 mv_X9_figure rfl (by decide) [.int (nI fr), .int (nI n), .int (nI y), .int (nI 0), .int (nI 9)] [] rfl (Nat.le_of_ble_eq_true rfl) rfl (c_X9_figureS (by omega) (c := c) (fr := fr) (n := n) (t := p + 8 * j + 1 + 1) hn hf (fun t h => (bf_un (Or.inl (by decide))).trans ((fun t h => (bf_un (Or.inl (by decide))).trans (hcc t h)) t h)) bf_us (by omega) (lo := 0) (hi := 9) (by decide) (by decide) (nI_nonneg (by omega))) ?_
          show J 58 [some (.ref 37), some (.int (nI fr)), some (.int (nI n)), some (.int (nI x)), some (.int (nI y)), none] [.int (if isF (cEx c n (p + 8 * j + 1 + 1)) 0 9 = true then (cEx c n (p + 8 * j + 1 + 1)) - nI 48 else -9)] (bf_MD (bf_u (bf_u (bf_u D 37 8 (nI (p + 8 * j + 1))) 37 8 (nI (p + 8 * j + 1 + 1))) 37 8 (nI (if isF (cEx c n (p + 8 * j + 1 + 1)) 0 9 = true then p + 8 * j + 1 + 1 + 1 else p + 8 * j + 1 + 1))))
          by_cases hFz : isF (cEx c n (p + 8 * j + 1 + 1)) 0 9 = true
          · rw [if_pos hFz, if_pos hFz]
            obtain ⟨z, zl, zh, ze⟩ := (isF_iff (by decide) (by decide)).mp hFz
            rw [show (cEx c n (p + 8 * j + 1 + 1)) - nI 48 = nI z from by rw [ze, pk_sub (by omega), Nat.add_sub_cancel]]
            show J 58 [some (.ref 37), some (.int (nI fr)), some (.int (nI n)), some (.int (nI x)), some (.int (nI y)), none] [.int (nI z)] (bf_MD (bf_u (bf_u (bf_u D 37 8 (nI (p + 8 * j + 1))) 37 8 (nI (p + 8 * j + 1 + 1))) 37 8 (nI (p + 8 * j + 1 + 1 + 1))))
            have hg2 := (d2_i hj hp xh yh2 ex ey (show 9 = if x = 1 ∧ y = 2 then 7 else 9 from (if_neg (fun q => c609 q.1)).symm)).mp hFz
            have ez := ((cEx_i (by omega)).mp ze).2
            have st3 := stp_s st2 hg2
            refine bf_istore r.1 (L2 := [some (.ref 37), some (.int (nI fr)), some (.int (nI n)), some (.int (nI x)), some (.int (nI y)), some (.int (nI z))]) dX9_barsRead_58 rfl ?_
            refine bf_iload r.1 dX9_barsRead_60 rfl ?_
            refine nz_ge r (tgt := 70) dX9_barsRead_62 (by decide) (by omega) (fun c610 => ?_) (fun c610 => ?_)
            · refine bf_bipush r.1 (v := nI 100) dX9_barsRead_70 rfl ?_
              refine bf_iload_n r.1 dX9_barsRead_72 rfl ?_
              refine na_mul r dX9_barsRead_73  ?_
              refine bf_bipush r.1 (v := nI 10) dX9_barsRead_74 rfl ?_
              refine bf_iload r.1 dX9_barsRead_76 rfl ?_
              refine na_mul r dX9_barsRead_78  ?_
              refine na_add r dX9_barsRead_79  ?_
              refine bf_iload r.1 dX9_barsRead_80 rfl ?_
              refine na_add r dX9_barsRead_82  ?_
              exact re_i r dX9_barsRead_83 rfl rfl ⟨(fr8 (fr8 (fr8 fr8_0))), Or.inl ⟨_, rfl, by omega, bf_nb3 (f := fun i => c (p + 8 * j + i)) ex ey ez, st3, bf_us⟩⟩
            · exact absurd c610 (by omega)
          · rw [if_neg hFz, if_neg hFz]
            show J 58 [some (.ref 37), some (.int (nI fr)), some (.int (nI n)), some (.int (nI x)), some (.int (nI y)), none] [.int (-9)] (bf_MD (bf_u (bf_u (bf_u D 37 8 (nI (p + 8 * j + 1))) 37 8 (nI (p + 8 * j + 1 + 1))) 37 8 (nI (p + 8 * j + 1 + 1))))
            have hh2 : hltR c n (p + 8 * j + 2) := ⟨st2, fun q => hFz ((d2_i hj hp xh yh2 ex ey (show 9 = if x = 1 ∧ y = 2 then 7 else 9 from (if_neg (fun q => c609 q.1)).symm)).mpr q)⟩
            refine bf_istore r.1 (L2 := [some (.ref 37), some (.int (nI fr)), some (.int (nI n)), some (.int (nI x)), some (.int (nI y)), some (.int (-9))]) dX9_barsRead_58 rfl ?_
            refine bf_iload r.1 dX9_barsRead_60 rfl ?_
            refine bf_if_ge r.1 (tgt := 70) dX9_barsRead_62 (by decide) (fun c611 => ?_) (fun c611 => ?_)
            · exact absurd c611 (by decide)
            · refine bf_bipush r.1 (v := -9) dX9_barsRead_65 rfl ?_
              refine bf_goto r.1 (tgt := 83) dX9_barsRead_67 (by decide) ?_
              exact re_i r dX9_barsRead_83 rfl rfl ⟨(fr8 (fr8 (fr8 fr8_0))), Or.inr ⟨rfl, 2, by decide, hh2, bf_us⟩⟩
        · refine bf_iload r.1 dX9_barsRead_42 rfl ?_
          refine bf_iconst r.1 (v := nI 2) dX9_barsRead_44 rfl ?_
          refine nc_ne r (tgt := 53) dX9_barsRead_45 (by decide) (by omega) (by decide) (fun c612 => ?_) (fun c612 => ?_)
          · refine bf_bipush r.1 (v := nI 9) dX9_barsRead_53 rfl ?_
            refine cl_v r (y2 := mX9_figure) dX9_barsRead_55 li_X9_91 mv_X9_figure rfl (by decide) [.int (nI fr), .int (nI n), .int (nI y), .int (nI 0), .int (nI 9)] [] rfl (Nat.le_of_ble_eq_true rfl) rfl (c_X9_figureS (by omega) (c := c) (fr := fr) (n := n) (t := p + 8 * j + 1 + 1) hn hf (fun t h => (bf_un (Or.inl (by decide))).trans ((fun t h => (bf_un (Or.inl (by decide))).trans (hcc t h)) t h)) bf_us (by omega) (lo := 0) (hi := 9) (by decide) (by decide) (nI_nonneg (by omega))) ?_
            show J 58 [some (.ref 37), some (.int (nI fr)), some (.int (nI n)), some (.int (nI x)), some (.int (nI y)), none] [.int (if isF (cEx c n (p + 8 * j + 1 + 1)) 0 9 = true then (cEx c n (p + 8 * j + 1 + 1)) - nI 48 else -9)] (bf_MD (bf_u (bf_u (bf_u D 37 8 (nI (p + 8 * j + 1))) 37 8 (nI (p + 8 * j + 1 + 1))) 37 8 (nI (if isF (cEx c n (p + 8 * j + 1 + 1)) 0 9 = true then p + 8 * j + 1 + 1 + 1 else p + 8 * j + 1 + 1))))
            by_cases hFz : isF (cEx c n (p + 8 * j + 1 + 1)) 0 9 = true
            · rw [if_pos hFz, if_pos hFz]
              obtain ⟨z, zl, zh, ze⟩ := (isF_iff (by decide) (by decide)).mp hFz
              rw [show (cEx c n (p + 8 * j + 1 + 1)) - nI 48 = nI z from by rw [ze, pk_sub (by omega), Nat.add_sub_cancel]]
              show J 58 [some (.ref 37), some (.int (nI fr)), some (.int (nI n)), some (.int (nI x)), some (.int (nI y)), none] [.int (nI z)] (bf_MD (bf_u (bf_u (bf_u D 37 8 (nI (p + 8 * j + 1))) 37 8 (nI (p + 8 * j + 1 + 1))) 37 8 (nI (p + 8 * j + 1 + 1 + 1))))
              have hg2 := (d2_i hj hp xh yh2 ex ey (show 9 = if x = 1 ∧ y = 2 then 7 else 9 from (if_neg (fun q => c612 q.2)).symm)).mp hFz
              have ez := ((cEx_i (by omega)).mp ze).2
              have st3 := stp_s st2 hg2
              refine bf_istore r.1 (L2 := [some (.ref 37), some (.int (nI fr)), some (.int (nI n)), some (.int (nI x)), some (.int (nI y)), some (.int (nI z))]) dX9_barsRead_58 rfl ?_
              refine bf_iload r.1 dX9_barsRead_60 rfl ?_
              refine nz_ge r (tgt := 70) dX9_barsRead_62 (by decide) (by omega) (fun c613 => ?_) (fun c613 => ?_)
              · refine bf_bipush r.1 (v := nI 100) dX9_barsRead_70 rfl ?_
                refine bf_iload_n r.1 dX9_barsRead_72 rfl ?_
                refine na_mul r dX9_barsRead_73  ?_
                refine bf_bipush r.1 (v := nI 10) dX9_barsRead_74 rfl ?_
                refine bf_iload r.1 dX9_barsRead_76 rfl ?_
                refine na_mul r dX9_barsRead_78  ?_
                refine na_add r dX9_barsRead_79  ?_
                refine bf_iload r.1 dX9_barsRead_80 rfl ?_
                refine na_add r dX9_barsRead_82  ?_
                exact re_i r dX9_barsRead_83 rfl rfl ⟨(fr8 (fr8 (fr8 fr8_0))), Or.inl ⟨_, rfl, by omega, bf_nb3 (f := fun i => c (p + 8 * j + i)) ex ey ez, st3, bf_us⟩⟩
              · exact absurd c613 (by omega)
            · rw [if_neg hFz, if_neg hFz]
              show J 58 [some (.ref 37), some (.int (nI fr)), some (.int (nI n)), some (.int (nI x)), some (.int (nI y)), none] [.int (-9)] (bf_MD (bf_u (bf_u (bf_u D 37 8 (nI (p + 8 * j + 1))) 37 8 (nI (p + 8 * j + 1 + 1))) 37 8 (nI (p + 8 * j + 1 + 1))))
              have hh2 : hltR c n (p + 8 * j + 2) := ⟨st2, fun q => hFz ((d2_i hj hp xh yh2 ex ey (show 9 = if x = 1 ∧ y = 2 then 7 else 9 from (if_neg (fun q => c612 q.2)).symm)).mpr q)⟩
              refine bf_istore r.1 (L2 := [some (.ref 37), some (.int (nI fr)), some (.int (nI n)), some (.int (nI x)), some (.int (nI y)), some (.int (-9))]) dX9_barsRead_58 rfl ?_
              refine bf_iload r.1 dX9_barsRead_60 rfl ?_
              refine bf_if_ge r.1 (tgt := 70) dX9_barsRead_62 (by decide) (fun c614 => ?_) (fun c614 => ?_)
              · exact absurd c614 (by decide)
              · refine bf_bipush r.1 (v := -9) dX9_barsRead_65 rfl ?_
                refine bf_goto r.1 (tgt := 83) dX9_barsRead_67 (by decide) ?_
                exact re_i r dX9_barsRead_83 rfl rfl ⟨(fr8 (fr8 (fr8 fr8_0))), Or.inr ⟨rfl, 2, by decide, hh2, bf_us⟩⟩
          · refine bf_bipush r.1 (v := nI 7) dX9_barsRead_48 rfl ?_
            refine bf_goto r.1 (tgt := 55) dX9_barsRead_50 (by decide) ?_
            refine cl_v r (y2 := mX9_figure) dX9_barsRead_55 li_X9_91 mv_X9_figure rfl (by decide) [.int (nI fr), .int (nI n), .int (nI y), .int (nI 0), .int (nI 7)] [] rfl (Nat.le_of_ble_eq_true rfl) rfl (c_X9_figureS (by omega) (c := c) (fr := fr) (n := n) (t := p + 8 * j + 1 + 1) hn hf (fun t h => (bf_un (Or.inl (by decide))).trans ((fun t h => (bf_un (Or.inl (by decide))).trans (hcc t h)) t h)) bf_us (by omega) (lo := 0) (hi := 7) (by decide) (by decide) (nI_nonneg (by omega))) ?_
            show J 58 [some (.ref 37), some (.int (nI fr)), some (.int (nI n)), some (.int (nI x)), some (.int (nI y)), none] [.int (if isF (cEx c n (p + 8 * j + 1 + 1)) 0 7 = true then (cEx c n (p + 8 * j + 1 + 1)) - nI 48 else -9)] (bf_MD (bf_u (bf_u (bf_u D 37 8 (nI (p + 8 * j + 1))) 37 8 (nI (p + 8 * j + 1 + 1))) 37 8 (nI (if isF (cEx c n (p + 8 * j + 1 + 1)) 0 7 = true then p + 8 * j + 1 + 1 + 1 else p + 8 * j + 1 + 1))))
            by_cases hFz : isF (cEx c n (p + 8 * j + 1 + 1)) 0 7 = true
            · rw [if_pos hFz, if_pos hFz]
              obtain ⟨z, zl, zh, ze⟩ := (isF_iff (by decide) (by decide)).mp hFz
              rw [show (cEx c n (p + 8 * j + 1 + 1)) - nI 48 = nI z from by rw [ze, pk_sub (by omega), Nat.add_sub_cancel]]
              show J 58 [some (.ref 37), some (.int (nI fr)), some (.int (nI n)), some (.int (nI x)), some (.int (nI y)), none] [.int (nI z)] (bf_MD (bf_u (bf_u (bf_u D 37 8 (nI (p + 8 * j + 1))) 37 8 (nI (p + 8 * j + 1 + 1))) 37 8 (nI (p + 8 * j + 1 + 1 + 1))))
              have hg2 := (d2_i hj hp xh yh2 ex ey (show 7 = if x = 1 ∧ y = 2 then 7 else 9 from (if_pos ⟨c609, c612⟩).symm)).mp hFz
              have ez := ((cEx_i (by omega)).mp ze).2
              have st3 := stp_s st2 hg2
              refine bf_istore r.1 (L2 := [some (.ref 37), some (.int (nI fr)), some (.int (nI n)), some (.int (nI x)), some (.int (nI y)), some (.int (nI z))]) dX9_barsRead_58 rfl ?_
              refine bf_iload r.1 dX9_barsRead_60 rfl ?_
              refine nz_ge r (tgt := 70) dX9_barsRead_62 (by decide) (by omega) (fun c615 => ?_) (fun c615 => ?_)
              · refine bf_bipush r.1 (v := nI 100) dX9_barsRead_70 rfl ?_
                refine bf_iload_n r.1 dX9_barsRead_72 rfl ?_
                refine na_mul r dX9_barsRead_73  ?_
                refine bf_bipush r.1 (v := nI 10) dX9_barsRead_74 rfl ?_
                refine bf_iload r.1 dX9_barsRead_76 rfl ?_
                refine na_mul r dX9_barsRead_78  ?_
                refine na_add r dX9_barsRead_79  ?_
                refine bf_iload r.1 dX9_barsRead_80 rfl ?_
                refine na_add r dX9_barsRead_82  ?_
                exact re_i r dX9_barsRead_83 rfl rfl ⟨(fr8 (fr8 (fr8 fr8_0))), Or.inl ⟨_, rfl, by omega, bf_nb3 (f := fun i => c (p + 8 * j + i)) ex ey ez, st3, bf_us⟩⟩
              · exact absurd c615 (by omega)
            · rw [if_neg hFz, if_neg hFz]
              show J 58 [some (.ref 37), some (.int (nI fr)), some (.int (nI n)), some (.int (nI x)), some (.int (nI y)), none] [.int (-9)] (bf_MD (bf_u (bf_u (bf_u D 37 8 (nI (p + 8 * j + 1))) 37 8 (nI (p + 8 * j + 1 + 1))) 37 8 (nI (p + 8 * j + 1 + 1))))
              have hh2 : hltR c n (p + 8 * j + 2) := ⟨st2, fun q => hFz ((d2_i hj hp xh yh2 ex ey (show 7 = if x = 1 ∧ y = 2 then 7 else 9 from (if_pos ⟨c609, c612⟩).symm)).mpr q)⟩
              refine bf_istore r.1 (L2 := [some (.ref 37), some (.int (nI fr)), some (.int (nI n)), some (.int (nI x)), some (.int (nI y)), some (.int (-9))]) dX9_barsRead_58 rfl ?_
              refine bf_iload r.1 dX9_barsRead_60 rfl ?_
              refine bf_if_ge r.1 (tgt := 70) dX9_barsRead_62 (by decide) (fun c616 => ?_) (fun c616 => ?_)
              · exact absurd c616 (by decide)
              · refine bf_bipush r.1 (v := -9) dX9_barsRead_65 rfl ?_
                refine bf_goto r.1 (tgt := 83) dX9_barsRead_67 (by decide) ?_
                exact re_i r dX9_barsRead_83 rfl rfl ⟨(fr8 (fr8 (fr8 fr8_0))), Or.inr ⟨rfl, 2, by decide, hh2, bf_us⟩⟩
      · rw [if_neg hFy, if_neg hFy]
        show J 29 [some (.ref 37), some (.int (nI fr)), some (.int (nI n)), some (.int (nI x)), none, none] [.int (-9)] (bf_MD (bf_u (bf_u D 37 8 (nI (p + 8 * j + 1))) 37 8 (nI (p + 8 * j + 1))))
        have hh1 : hltR c n (p + 8 * j + 1) := ⟨st1, fun q => hFy ((d1_i hj hp xh ex (show 2 = if x = 1 then 2 else 9 from (if_pos c596).symm)).mpr q)⟩
        refine bf_istore r.1 (L2 := [some (.ref 37), some (.int (nI fr)), some (.int (nI n)), some (.int (nI x)), some (.int (-9)), none]) dX9_barsRead_29 rfl ?_
        refine bf_aload_n r.1 dX9_barsRead_31 rfl ?_
        refine bf_iload_n r.1 dX9_barsRead_32 rfl ?_
        refine bf_iload_n r.1 dX9_barsRead_33 rfl ?_
        refine bf_iload r.1 dX9_barsRead_34 rfl ?_
        refine bf_iconst r.1 (v := nI 0) dX9_barsRead_36 rfl ?_
        refine bf_iload_n r.1 dX9_barsRead_37 rfl ?_
        refine bf_iconst r.1 (v := nI 1) dX9_barsRead_38 rfl ?_
        refine nc_ne r (tgt := 53) dX9_barsRead_39 (by decide) (by omega) (by decide) (fun c617 => ?_) (fun c617 => ?_)
        · refine bf_bipush r.1 (v := nI 9) dX9_barsRead_53 rfl ?_
          refine cl_v r (y2 := mX9_figure) dX9_barsRead_55 li_X9_91 mv_X9_figure rfl (by decide) [.int (nI fr), .int (nI n), .int (-9), .int (nI 0), .int (nI 9)] [] rfl (Nat.le_of_ble_eq_true rfl) rfl (c_X9_figureN (by omega) (c := c) (fr := fr) (n := n) (t := p + 8 * j + 1) hn hf (fun t h => (bf_un (Or.inl (by decide))).trans ((fun t h => (bf_un (Or.inl (by decide))).trans (hcc t h)) t h)) bf_us (by omega) (lo := 0) (hi := 9) (by decide) (by decide) (by decide)) ?_
          show J 58 [some (.ref 37), some (.int (nI fr)), some (.int (nI n)), some (.int (nI x)), some (.int (-9)), none] [.int (-9)] (bf_MD (bf_u (bf_u (bf_u D 37 8 (nI (p + 8 * j + 1))) 37 8 (nI (p + 8 * j + 1))) 37 8 (nI (p + 8 * j + 1))))
          refine bf_istore r.1 (L2 := [some (.ref 37), some (.int (nI fr)), some (.int (nI n)), some (.int (nI x)), some (.int (-9)), some (.int (-9))]) dX9_barsRead_58 rfl ?_
          refine bf_iload r.1 dX9_barsRead_60 rfl ?_
          refine bf_if_ge r.1 (tgt := 70) dX9_barsRead_62 (by decide) (fun c618 => ?_) (fun c618 => ?_)
          · exact absurd c618 (by decide)
          · refine bf_bipush r.1 (v := -9) dX9_barsRead_65 rfl ?_
            refine bf_goto r.1 (tgt := 83) dX9_barsRead_67 (by decide) ?_
            exact re_i r dX9_barsRead_83 rfl rfl ⟨(fr8 (fr8 (fr8 fr8_0))), Or.inr ⟨rfl, 1, by decide, hh1, bf_us⟩⟩
        · refine bf_iload r.1 dX9_barsRead_42 rfl ?_
          refine bf_iconst r.1 (v := nI 2) dX9_barsRead_44 rfl ?_
          refine bf_icmp_ne r.1 (tgt := 53) dX9_barsRead_45 (by decide) (fun c619 => ?_) (fun c619 => ?_)
          · refine bf_bipush r.1 (v := nI 9) dX9_barsRead_53 rfl ?_
            refine cl_v r (y2 := mX9_figure) dX9_barsRead_55 li_X9_91 mv_X9_figure rfl (by decide) [.int (nI fr), .int (nI n), .int (-9), .int (nI 0), .int (nI 9)] [] rfl (Nat.le_of_ble_eq_true rfl) rfl (c_X9_figureN (by omega) (c := c) (fr := fr) (n := n) (t := p + 8 * j + 1) hn hf (fun t h => (bf_un (Or.inl (by decide))).trans ((fun t h => (bf_un (Or.inl (by decide))).trans (hcc t h)) t h)) bf_us (by omega) (lo := 0) (hi := 9) (by decide) (by decide) (by decide)) ?_
            show J 58 [some (.ref 37), some (.int (nI fr)), some (.int (nI n)), some (.int (nI x)), some (.int (-9)), none] [.int (-9)] (bf_MD (bf_u (bf_u (bf_u D 37 8 (nI (p + 8 * j + 1))) 37 8 (nI (p + 8 * j + 1))) 37 8 (nI (p + 8 * j + 1))))
            refine bf_istore r.1 (L2 := [some (.ref 37), some (.int (nI fr)), some (.int (nI n)), some (.int (nI x)), some (.int (-9)), some (.int (-9))]) dX9_barsRead_58 rfl ?_
            refine bf_iload r.1 dX9_barsRead_60 rfl ?_
            refine bf_if_ge r.1 (tgt := 70) dX9_barsRead_62 (by decide) (fun c620 => ?_) (fun c620 => ?_)
            · exact absurd c620 (by decide)
            · refine bf_bipush r.1 (v := -9) dX9_barsRead_65 rfl ?_
              refine bf_goto r.1 (tgt := 83) dX9_barsRead_67 (by decide) ?_
              exact re_i r dX9_barsRead_83 rfl rfl ⟨(fr8 (fr8 (fr8 fr8_0))), Or.inr ⟨rfl, 1, by decide, hh1, bf_us⟩⟩
          · exact absurd c619 (by decide)
  · rw [if_neg hFx, if_neg hFx]
    show J 9 [some (.ref 37), some (.int (nI fr)), some (.int (nI n)), none, none, none] [.int (-9)] (bf_MD (bf_u D 37 8 (nI (p + 8 * j))))
    have hh0 : hltR c n (p + 8 * j + 0) := ⟨hst, fun q => hFx ((d0_i hj hp).mpr q)⟩
    refine bf_istore_n r.1 (L2 := [some (.ref 37), some (.int (nI fr)), some (.int (nI n)), some (.int (-9)), none, none]) dX9_barsRead_9 rfl ?_
    refine bf_aload_n r.1 dX9_barsRead_10 rfl ?_
    refine bf_iload_n r.1 dX9_barsRead_11 rfl ?_
    refine bf_iload_n r.1 dX9_barsRead_12 rfl ?_
    refine bf_iload_n r.1 dX9_barsRead_13 rfl ?_
    refine bf_iconst r.1 (v := nI 0) dX9_barsRead_14 rfl ?_
    refine bf_iload_n r.1 dX9_barsRead_15 rfl ?_
    refine bf_iconst r.1 (v := nI 1) dX9_barsRead_16 rfl ?_
    refine bf_icmp_ne r.1 (tgt := 24) dX9_barsRead_17 (by decide) (fun c621 => ?_) (fun c621 => ?_)
    · refine bf_bipush r.1 (v := nI 9) dX9_barsRead_24 rfl ?_
      refine cl_v r (y2 := mX9_figure) dX9_barsRead_26 li_X9_91 mv_X9_figure rfl (by decide) [.int (nI fr), .int (nI n), .int (-9), .int (nI 0), .int (nI 9)] [] rfl (Nat.le_of_ble_eq_true rfl) rfl (c_X9_figureN (by omega) (c := c) (fr := fr) (n := n) (t := p + 8 * j) hn hf (fun t h => (bf_un (Or.inl (by decide))).trans (hcc t h)) bf_us (by omega) (lo := 0) (hi := 9) (by decide) (by decide) (by decide)) ?_
      show J 29 [some (.ref 37), some (.int (nI fr)), some (.int (nI n)), some (.int (-9)), none, none] [.int (-9)] (bf_MD (bf_u (bf_u D 37 8 (nI (p + 8 * j))) 37 8 (nI (p + 8 * j))))
      refine bf_istore r.1 (L2 := [some (.ref 37), some (.int (nI fr)), some (.int (nI n)), some (.int (-9)), some (.int (-9)), none]) dX9_barsRead_29 rfl ?_
      refine bf_aload_n r.1 dX9_barsRead_31 rfl ?_
      refine bf_iload_n r.1 dX9_barsRead_32 rfl ?_
      refine bf_iload_n r.1 dX9_barsRead_33 rfl ?_
      refine bf_iload r.1 dX9_barsRead_34 rfl ?_
      refine bf_iconst r.1 (v := nI 0) dX9_barsRead_36 rfl ?_
      refine bf_iload_n r.1 dX9_barsRead_37 rfl ?_
      refine bf_iconst r.1 (v := nI 1) dX9_barsRead_38 rfl ?_
      refine bf_icmp_ne r.1 (tgt := 53) dX9_barsRead_39 (by decide) (fun c622 => ?_) (fun c622 => ?_)
      · refine bf_bipush r.1 (v := nI 9) dX9_barsRead_53 rfl ?_
        refine cl_v r (y2 := mX9_figure) dX9_barsRead_55 li_X9_91 mv_X9_figure rfl (by decide) [.int (nI fr), .int (nI n), .int (-9), .int (nI 0), .int (nI 9)] [] rfl (Nat.le_of_ble_eq_true rfl) rfl (c_X9_figureN (by omega) (c := c) (fr := fr) (n := n) (t := p + 8 * j) hn hf (fun t h => (bf_un (Or.inl (by decide))).trans ((fun t h => (bf_un (Or.inl (by decide))).trans (hcc t h)) t h)) bf_us (by omega) (lo := 0) (hi := 9) (by decide) (by decide) (by decide)) ?_
        show J 58 [some (.ref 37), some (.int (nI fr)), some (.int (nI n)), some (.int (-9)), some (.int (-9)), none] [.int (-9)] (bf_MD (bf_u (bf_u (bf_u D 37 8 (nI (p + 8 * j))) 37 8 (nI (p + 8 * j))) 37 8 (nI (p + 8 * j))))
        refine bf_istore r.1 (L2 := [some (.ref 37), some (.int (nI fr)), some (.int (nI n)), some (.int (-9)), some (.int (-9)), some (.int (-9))]) dX9_barsRead_58 rfl ?_
        refine bf_iload r.1 dX9_barsRead_60 rfl ?_
        refine bf_if_ge r.1 (tgt := 70) dX9_barsRead_62 (by decide) (fun c623 => ?_) (fun c623 => ?_)
        · exact absurd c623 (by decide)
        · refine bf_bipush r.1 (v := -9) dX9_barsRead_65 rfl ?_
          refine bf_goto r.1 (tgt := 83) dX9_barsRead_67 (by decide) ?_
          exact re_i r dX9_barsRead_83 rfl rfl ⟨(fr8 (fr8 (fr8 fr8_0))), Or.inr ⟨rfl, 0, by decide, hh0, bf_us⟩⟩
      · exact absurd c622 (by decide)
    · exact absurd c621 (by decide)
