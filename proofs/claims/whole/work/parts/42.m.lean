/-! the nearest: the class's way -/
def rpl (n v k d : Nat) : Nat := v - 10 ^ (n - 1 - k) * bf_dg n v k + 10 ^ (n - 1 - k) * d
theorem rpl_all {n k v d : Nat} (hn : n ≤ 4) (hk : k < n) (hv : v < 10 ^ n) (hd : d < 10) : rpl n v k d < 10 ^ n ∧ bf_dg n (rpl n v k d) k = d ∧ ∀ j, j < n → j ≠ k → bf_dg n (rpl n v k d) j = bf_dg n v j := by
  rcases (show n = 1 ∨ n = 2 ∨ n = 3 ∨ n = 4 by omega) with rfl | rfl | rfl | rfl
  · obtain rfl : k = 0 := by omega
    unfold rpl bf_dg
    simp only [Nat.reduceSub, Nat.reducePow, Nat.reduceAdd, Nat.pow_zero] at hv ⊢
    refine ⟨by omega, by omega, fun j hj hne => ?_⟩
    omega
  · rcases (show k = 0 ∨ k = 1 by omega) with rfl | rfl
    · unfold rpl bf_dg
      simp only [Nat.reduceSub, Nat.reducePow, Nat.reduceAdd, Nat.pow_zero] at hv ⊢
      refine ⟨by omega, by omega, fun j hj hne => ?_⟩
      rcases (show j = 0 ∨ j = 1 by omega) with rfl | rfl
      · exact absurd rfl hne
      · simp only [Nat.reduceSub, Nat.reducePow, Nat.pow_zero]; omega
    · unfold rpl bf_dg
      simp only [Nat.reduceSub, Nat.reducePow, Nat.reduceAdd, Nat.pow_zero] at hv ⊢
      refine ⟨by omega, by omega, fun j hj hne => ?_⟩
      rcases (show j = 0 ∨ j = 1 by omega) with rfl | rfl
      · simp only [Nat.reduceSub, Nat.reducePow, Nat.pow_zero]; omega
      · exact absurd rfl hne
  · rcases (show k = 0 ∨ k = 1 ∨ k = 2 by omega) with rfl | rfl | rfl
    · unfold rpl bf_dg
      simp only [Nat.reduceSub, Nat.reducePow, Nat.reduceAdd, Nat.pow_zero] at hv ⊢
      refine ⟨by omega, by omega, fun j hj hne => ?_⟩
      rcases (show j = 0 ∨ j = 1 ∨ j = 2 by omega) with rfl | rfl | rfl
      · exact absurd rfl hne
      · simp only [Nat.reduceSub, Nat.reducePow, Nat.pow_zero]; omega
      · simp only [Nat.reduceSub, Nat.reducePow, Nat.pow_zero]; omega
    · unfold rpl bf_dg
      simp only [Nat.reduceSub, Nat.reducePow, Nat.reduceAdd, Nat.pow_zero] at hv ⊢
      refine ⟨by omega, by omega, fun j hj hne => ?_⟩
      rcases (show j = 0 ∨ j = 1 ∨ j = 2 by omega) with rfl | rfl | rfl
      · simp only [Nat.reduceSub, Nat.reducePow, Nat.pow_zero]; omega
      · exact absurd rfl hne
      · simp only [Nat.reduceSub, Nat.reducePow, Nat.pow_zero]; omega
    · unfold rpl bf_dg
      simp only [Nat.reduceSub, Nat.reducePow, Nat.reduceAdd, Nat.pow_zero] at hv ⊢
      refine ⟨by omega, by omega, fun j hj hne => ?_⟩
      rcases (show j = 0 ∨ j = 1 ∨ j = 2 by omega) with rfl | rfl | rfl
      · simp only [Nat.reduceSub, Nat.reducePow, Nat.pow_zero]; omega
      · simp only [Nat.reduceSub, Nat.reducePow, Nat.pow_zero]; omega
      · exact absurd rfl hne
  · rcases (show k = 0 ∨ k = 1 ∨ k = 2 ∨ k = 3 by omega) with rfl | rfl | rfl | rfl
    · unfold rpl bf_dg
      simp only [Nat.reduceSub, Nat.reducePow, Nat.reduceAdd, Nat.pow_zero] at hv ⊢
      refine ⟨by omega, by omega, fun j hj hne => ?_⟩
      rcases (show j = 0 ∨ j = 1 ∨ j = 2 ∨ j = 3 by omega) with rfl | rfl | rfl | rfl
      · exact absurd rfl hne
      · simp only [Nat.reduceSub, Nat.reducePow, Nat.pow_zero]; omega
      · simp only [Nat.reduceSub, Nat.reducePow, Nat.pow_zero]; omega
      · simp only [Nat.reduceSub, Nat.reducePow, Nat.pow_zero]; omega
    · unfold rpl bf_dg
      simp only [Nat.reduceSub, Nat.reducePow, Nat.reduceAdd, Nat.pow_zero] at hv ⊢
      refine ⟨by omega, by omega, fun j hj hne => ?_⟩
      rcases (show j = 0 ∨ j = 1 ∨ j = 2 ∨ j = 3 by omega) with rfl | rfl | rfl | rfl
      · simp only [Nat.reduceSub, Nat.reducePow, Nat.pow_zero]; omega
      · exact absurd rfl hne
      · simp only [Nat.reduceSub, Nat.reducePow, Nat.pow_zero]; omega
      · simp only [Nat.reduceSub, Nat.reducePow, Nat.pow_zero]; omega
    · unfold rpl bf_dg
      simp only [Nat.reduceSub, Nat.reducePow, Nat.reduceAdd, Nat.pow_zero] at hv ⊢
      refine ⟨by omega, by omega, fun j hj hne => ?_⟩
      rcases (show j = 0 ∨ j = 1 ∨ j = 2 ∨ j = 3 by omega) with rfl | rfl | rfl | rfl
      · simp only [Nat.reduceSub, Nat.reducePow, Nat.pow_zero]; omega
      · simp only [Nat.reduceSub, Nat.reducePow, Nat.pow_zero]; omega
      · exact absurd rfl hne
      · simp only [Nat.reduceSub, Nat.reducePow, Nat.pow_zero]; omega
    · unfold rpl bf_dg
      simp only [Nat.reduceSub, Nat.reducePow, Nat.reduceAdd, Nat.pow_zero] at hv ⊢
      refine ⟨by omega, by omega, fun j hj hne => ?_⟩
      rcases (show j = 0 ∨ j = 1 ∨ j = 2 ∨ j = 3 by omega) with rfl | rfl | rfl | rfl
      · simp only [Nat.reduceSub, Nat.reducePow, Nat.pow_zero]; omega
      · simp only [Nat.reduceSub, Nat.reducePow, Nat.pow_zero]; omega
      · simp only [Nat.reduceSub, Nat.reducePow, Nat.pow_zero]; omega
      · exact absurd rfl hne
theorem dg_ext {n u v : Nat} (hn : n ≤ 4) (hu : u < 10 ^ n) (hv : v < 10 ^ n) (h : ∀ j, j < n → bf_dg n u j = bf_dg n v j) : u = v := by
  rcases (show n = 0 ∨ n = 1 ∨ n = 2 ∨ n = 3 ∨ n = 4 by omega) with rfl | rfl | rfl | rfl | rfl
  · simp only [Nat.pow_zero] at hu hv; omega
  · have h0 := h 0 (by decide)
    unfold bf_dg at h0
    simp only [Nat.reduceSub, Nat.reducePow, Nat.pow_zero] at hu hv h0
    omega
  · have h0 := h 0 (by decide); have h1 := h 1 (by decide)
    unfold bf_dg at h0 h1
    simp only [Nat.reduceSub, Nat.reducePow, Nat.pow_zero] at hu hv h0 h1
    omega
  · have h0 := h 0 (by decide); have h1 := h 1 (by decide); have h2 := h 2 (by decide)
    unfold bf_dg at h0 h1 h2
    simp only [Nat.reduceSub, Nat.reducePow, Nat.pow_zero] at hu hv h0 h1 h2
    omega
  · have h0 := h 0 (by decide); have h1 := h 1 (by decide); have h2 := h 2 (by decide); have h3 := h 3 (by decide)
    unfold bf_dg at h0 h1 h2 h3
    simp only [Nat.reduceSub, Nat.reducePow, Nat.pow_zero] at hu hv h0 h1 h2 h3
    omega
theorem bf_sm_ge {f : Nat → Nat} : ∀ {n k : Nat}, k < n → f k ≤ bf_sm f n := by
  intro n
  induction n with
  | zero => intro k h; omega
  | succ n ih =>
    intro k h
    simp only [bf_sm]
    by_cases e : k = n
    · rw [e]; omega
    · have := ih (show k < n by omega); omega
theorem bf_sm_ge2 {f : Nat → Nat} : ∀ {n j k : Nat}, j < n → k < n → j ≠ k → f j + f k ≤ bf_sm f n := by
  intro n
  induction n with
  | zero => intro j k h; omega
  | succ n ih =>
    intro j k hj hk hne
    simp only [bf_sm]
    by_cases e : k = n
    · subst e; have := bf_sm_ge (f := f) (show j < k by omega); omega
    · by_cases e2 : j = n
      · subst e2; have := bf_sm_ge (f := f) (show k < j by omega); omega
      · have := ih (show j < n by omega) (show k < n by omega) hne; omega
theorem bf_sm_one {f : Nat → Nat} : ∀ {n k : Nat}, k < n → (∀ j, j < n → j ≠ k → f j = 0) → bf_sm f n = f k := by
  intro n
  induction n with
  | zero => intro k h; omega
  | succ n ih =>
    intro k h hz
    simp only [bf_sm]
    by_cases e : k = n
    · subst e; rw [bf_sm_0 (fun j hj => hz j (by omega) (by omega))]; omega
    · rw [ih (show k < n by omega) (fun j hj hne => hz j (by omega) hne), hz n (by omega) (by omega)]; rfl
theorem bf_pr_one {f : Nat → Nat} (h : ∀ k, 1 ≤ f k) : ∀ n, bf_pr f n = 1 → ∀ k, k < n → f k = 1 := by
  intro n
  induction n with
  | zero => intro _ k hk; omega
  | succ n ih =>
    intro h1 k hk
    simp only [bf_pr] at h1
    have a1 := bf_pr_pos h n
    have a2 := Nat.le_mul_of_pos_left (f n) (show 0 < bf_pr f n by omega)
    have a3 := Nat.le_mul_of_pos_right (bf_pr f n) (show 0 < f n from h n)
    have a4 := h n
    by_cases e : k = n
    · rw [e]; omega
    · exact ih (by omega) k (by omega)
theorem bf_pc1 {x i j : Nat} (hx : x < 1024) (h : bf_pc x = 1) (hi : x.testBit i = true) (hj : x.testBit j = true) : i = j := by
  have key : ∀ x : Fin 1024, bf_pc x.1 = 1 → ∃ i : Fin 10, x.1 = 2 ^ i.1 := by decide +kernel
  obtain ⟨t, ht⟩ := key ⟨x, hx⟩ h
  simp only at ht
  rw [ht, Nat.testBit_two_pow] at hi hj
  have a1 := of_decide_eq_true hi
  have a2 := of_decide_eq_true hj
  omega
section
variable {P : bf_Pn}
/-- the flips of one other digit -/
def cKd (P : bf_Pn) (v k d : Nat) : Nat := bf_pc (pB P k (pG P v k) ^^^ pB P k d)
theorem pC1_d {v k d : Nat} (hv : vP P) (hk : k < pN P) (h : pC P v k = 1) (hd : d < 10) (hne : d ≠ pG P v k) : 1 ≤ cKd P v k d := by
  rcases Nat.eq_zero_or_pos (cKd P v k d) with h0 | h0
  · have h1 := (bf_pc_z (bf_xor_lt (pB_lt hv hk _) (pB_lt hv hk _))).mp h0
    rw [bf_xor_z] at h1
    exfalso
    apply hne
    refine bf_pc1 (pM_lt P k (pB P k (pG P v k))) h ?_ (pM_self (pG_lt P v k))
    rw [pM_bit, decide_eq_true hd, decide_eq_true h1.symm]; rfl
  · exact h0
theorem rpl_F {v k d : Nat} (hv : vP P) (hk : k < pN P) (hx : v < pX P) (hd : d < 10) : pF P (rpl (pN P) v k d) v = cKd P v k d := by
  obtain ⟨a1, a2, a3⟩ := rpl_all hv.1 hk hx hd
  unfold pF
  rw [bf_sm_one hk (fun j hj hne => ?_)]
  · show bf_pc (pB P k (bf_dg (pN P) (rpl (pN P) v k d) k) ^^^ _) = _
    rw [a2, Nat.xor_comm]
    rfl
  · show bf_pc (pB P j (bf_dg (pN P) (rpl (pN P) v k d) j) ^^^ pB P j (bf_dg (pN P) v j)) = 0
    rw [a3 j hj hne, Nat.xor_self]
    rfl
theorem rpl_ne {v k d : Nat} (hv : vP P) (hk : k < pN P) (hx : v < pX P) (hd : d < 10) (hne : d ≠ pG P v k) : rpl (pN P) v k d ≠ v := by
  intro e
  have a := (rpl_all hv.1 hk hx hd).2.1
  rw [e] at a
  exact hne a.symm
theorem rpl_best {v u : Nat} (hv : vP P) (hx : v < pX P) (hu : u < pX P) (hne : u ≠ v) (h1 : ∀ k, k < pN P → pC P v k = 1) : ∃ k d, k < pN P ∧ d < 10 ∧ d ≠ pG P v k ∧ (cKd P v k d < pF P u v ∨ (cKd P v k d = pF P u v ∧ rpl (pN P) v k d = u)) := by
  rcases Classical.em (∃ k, k < pN P ∧ pG P u k ≠ pG P v k) with ⟨k, hk, hd⟩ | h
  · refine ⟨k, pG P u k, hk, pG_lt P u k, hd, ?_⟩
    have e1 : bf_pc (pB P k (pG P u k) ^^^ pB P k (pG P v k)) = cKd P v k (pG P u k) := by rw [Nat.xor_comm]; rfl
    rcases Classical.em (∃ j, j < pN P ∧ j ≠ k ∧ pG P u j ≠ pG P v j) with ⟨j, hj, hjk, hd2⟩ | h2
    · left
      have g := bf_sm_ge2 (f := fun k => bf_pc (pB P k (pG P u k) ^^^ pB P k (pG P v k))) hj hk hjk
      have c1 := pC1_d hv hj (h1 j hj) (pG_lt P u j) hd2
      have e2 : bf_pc (pB P j (pG P u j) ^^^ pB P j (pG P v j)) = cKd P v j (pG P u j) := by rw [Nat.xor_comm]; rfl
      simp only [e1, e2] at g
      unfold pF
      omega
    · right
      have hR := rpl_all hv.1 hk hx (pG_lt P u k)
      have e3 : rpl (pN P) v k (pG P u k) = u := by
        refine dg_ext hv.1 hR.1 hu (fun j hj => ?_)
        by_cases e : j = k
        · rw [e, hR.2.1]; rfl
        · rw [hR.2.2 j hj e]
          exact (Decidable.not_not.mp (fun q => h2 ⟨j, hj, e, q⟩)).symm
      refine ⟨?_, e3⟩
      rw [← rpl_F hv hk hx (pG_lt P u k), e3]
  · exact absurd (dg_ext hv.1 hu hx (fun j hj => Decidable.not_not.mp (fun q => h ⟨j, hj, q⟩))) hne
/-- what is found among the digits tried -/
def nrQ (P : bf_Pn) (v k x : Nat) (st : Int32 × Nat) : Prop := (st = (-9, 29) ∧ ∀ j d, d < 10 → d ≠ pG P v j → j < pN P → ¬ (k < j ∨ (j = k ∧ d < x))) ∨ ∃ j0 d0, d0 < 10 ∧ d0 ≠ pG P v j0 ∧ j0 < pN P ∧ st = (nI (rpl (pN P) v j0 d0), cKd P v j0 d0) ∧ ∀ j d, d < 10 → d ≠ pG P v j → j < pN P → (k < j ∨ (j = k ∧ d < x)) → cKd P v j0 d0 < cKd P v j d ∨ (cKd P v j0 d0 = cKd P v j d ∧ rpl (pN P) v j0 d0 ≤ rpl (pN P) v j d)
theorem nrQ_s (hv : vP P) {v k x : Nat} {st : Int32 × Nat} (hx : v < pX P) (hk : k < pN P) (hx10 : x < 10) (h : nrQ P v k x st) : nrQ P v k (x + 1) (bf_nst x (pG P v k) (cKd P v k x) (nI (rpl (pN P) v k x)) st) := by
  have hX := pX_le hv
  have hc10 : cKd P v k x ≤ 10 := bf_pc_le _
  unfold bf_nst
  by_cases e : x = pG P v k
  · rw [if_pos e]
    have q : ∀ j d, d ≠ pG P v j → (k < j ∨ (j = k ∧ d < x + 1)) → (k < j ∨ (j = k ∧ d < x)) := by
      intro j d hd q
      rcases q with q | ⟨q1, q2⟩
      · exact Or.inl q
      · refine Or.inr ⟨q1, ?_⟩
        by_cases e2 : d = x
        · rw [q1, ← e] at hd; exact absurd e2 hd
        · omega
    rcases h with ⟨h1, h2⟩ | ⟨j0, d0, h1, h2, h3, h4, h5⟩
    · exact Or.inl ⟨h1, fun j d a1 a2 a3 a4 => h2 j d a1 a2 a3 (q j d a2 a4)⟩
    · exact Or.inr ⟨j0, d0, h1, h2, h3, h4, fun j d a1 a2 a3 a4 => h5 j d a1 a2 a3 (q j d a2 a4)⟩
  · rw [if_neg e]
    have hR := (rpl_all hv.1 hk hx hx10).1
    rcases h with ⟨h1, h2⟩ | ⟨j0, d0, h1, h2, h3, h4, h5⟩
    · rw [h1, if_pos (show cKd P v k x < 29 by omega)]
      refine Or.inr ⟨k, x, hx10, e, hk, rfl, fun j d a1 a2 a3 a4 => ?_⟩
      by_cases e2 : j = k ∧ d = x
      · rw [e2.1, e2.2]; exact Or.inr ⟨rfl, Nat.le_refl _⟩
      · exact absurd (show k < j ∨ (j = k ∧ d < x) by omega) (h2 j d a1 a2 a3)
    · have hR0 := (rpl_all hv.1 h3 hx h1).1
      have hP : pX P = 10 ^ pN P := rfl
      rw [h4]
      by_cases c1 : cKd P v k x < cKd P v j0 d0
      · rw [if_pos c1]
        refine Or.inr ⟨k, x, hx10, e, hk, rfl, fun j d a1 a2 a3 a4 => ?_⟩
        by_cases e2 : j = k ∧ d = x
        · rw [e2.1, e2.2]; exact Or.inr ⟨rfl, Nat.le_refl _⟩
        · have := h5 j d a1 a2 a3 (by omega); omega
      · rw [if_neg c1]
        by_cases c2 : cKd P v k x = cKd P v j0 d0
        · rw [if_pos c2]
          have hle := nI_leI (a := rpl (pN P) v j0 d0) (b := rpl (pN P) v k x) (by omega) (by omega)
          by_cases c3 : rpl (pN P) v j0 d0 ≤ rpl (pN P) v k x
          · rw [if_pos (hle.mpr c3)]
            refine Or.inr ⟨j0, d0, h1, h2, h3, rfl, fun j d a1 a2 a3 a4 => ?_⟩
            by_cases e2 : j = k ∧ d = x
            · rw [e2.1, e2.2]; exact Or.inr ⟨c2.symm, c3⟩
            · exact h5 j d a1 a2 a3 (by omega)
          · rw [if_neg (fun q => c3 (hle.mp q))]
            refine Or.inr ⟨k, x, hx10, e, hk, rfl, fun j d a1 a2 a3 a4 => ?_⟩
            by_cases e2 : j = k ∧ d = x
            · rw [e2.1, e2.2]; exact Or.inr ⟨rfl, Nat.le_refl _⟩
            · have := h5 j d a1 a2 a3 (by omega); omega
        · rw [if_neg c2]
          refine Or.inr ⟨j0, d0, h1, h2, h3, rfl, fun j d a1 a2 a3 a4 => ?_⟩
          by_cases e2 : j = k ∧ d = x
          · rw [e2.1, e2.2]; left; omega
          · exact h5 j d a1 a2 a3 (by omega)
theorem rpl_I {n v k x : Nat} : nI v + nI (10 ^ (n - 1 - k)) * (nI x - nI (bf_dg n v k)) = nI (rpl n v k x) := by
  have hle : 10 ^ (n - 1 - k) * bf_dg n v k ≤ v := by
    unfold bf_dg
    refine Nat.le_trans (Nat.mul_le_mul_left _ (Nat.mod_le _ _)) (Nat.mul_div_le _ _)
  unfold rpl
  generalize 10 ^ (n - 1 - k) = ww at *
  generalize bf_dg n v k = g at *
  rw [← nI_add, ← pk_mul]
  have e : nI v = nI (v - ww * g) + nI ww * nI g := by rw [pk_mul, nI_add]; congr 1; omega
  rw [e]
  grind
theorem nrQ_I (hv : vP P) {v k : Nat} {st : Int32 × Nat} (hx : v < pX P) (hk : k < pN P) (h : nrQ P v k 0 st) : ∀ x, x ≤ 10 → nrQ P v k x (pnI P v k (10 ^ (pN P - 1 - k)) st x) := by
  intro x
  induction x with
  | zero => intro _; exact h
  | succ x ih =>
    intro hx10
    have h2 := nrQ_s hv hx hk (show x < 10 by omega) (ih (by omega))
    rw [← rpl_I] at h2
    exact h2
theorem nrQ_O (hv : vP P) {v : Nat} (hx : v < pX P) : ∀ k st, k ≤ pN P → (∀ i, k = i + 1 → nrQ P v i 0 st) → (k = 0 → nrQ P v 0 10 st) → nrQ P v 0 10 (pnO P v k (10 ^ (pN P - k)) st) := by
  intro k
  induction k with
  | zero => intro st _ _ h; exact h rfl
  | succ k ih =>
    intro st hk h _
    have h1 := nrQ_I hv hx (show k < pN P by omega) (h k rfl) 10 (Nat.le_refl _)
    simp only [pnO]
    rw [show pN P - (k + 1) = pN P - 1 - k by omega, show (10 : Nat) ^ (pN P - 1 - k) * 10 = 10 ^ (pN P - k) by rw [← Nat.pow_succ]; congr 1; omega]
    refine ih _ (by omega) (fun i hi => ?_) (fun h0 => by subst h0; exact h1)
    subst hi
    rcases h1 with ⟨a1, a2⟩ | ⟨j0, d0, b1, b2, b3, b4, b5⟩
    · exact Or.inl ⟨a1, fun j d c1 c2 c3 c4 => a2 j d c1 c2 c3 (by omega)⟩
    · exact Or.inr ⟨j0, d0, b1, b2, b3, b4, fun j d c1 c2 c3 c4 => b5 j d c1 c2 c3 (by omega)⟩
theorem nr_one (hv : vP P) (hn : 1 ≤ pN P) {v : Nat} (hx : v < pX P) (hA : pA P v = 1) : ∃ w, isNr P v w ∧ (pnO P v (pN P) 1 (-9, 29)).1 = nI w := by
  have h1 := bf_pr_one (fun k => pC_pos P v k) (pN P) hA
  have h2 := nrQ_O hv hx (pN P) (-9, 29) (Nat.le_refl _) (fun i hi => Or.inl ⟨rfl, fun j d c1 c2 c3 c4 => by omega⟩) (fun h => by omega)
  rw [Nat.sub_self, Nat.pow_zero] at h2
  rcases h2 with ⟨-, h3⟩ | ⟨j0, d0, b1, b2, b3, b4, b5⟩
  · exfalso
    by_cases e : pG P v 0 = 0
    · exact h3 0 1 (by decide) (by omega) hn (Or.inr ⟨rfl, by decide⟩)
    · exact h3 0 0 (by decide) (fun q => e q.symm) hn (Or.inr ⟨rfl, by decide⟩)
  · refine ⟨rpl (pN P) v j0 d0, ⟨(rpl_all hv.1 b3 hx b1).1, rpl_ne hv b3 hx b1 b2, fun u hu hne => ?_⟩, by rw [b4]⟩
    rw [rpl_F hv b3 hx b1]
    obtain ⟨k, d, g1, g2, g3, g4⟩ := rpl_best hv hx hu hne h1
    have g5 := b5 k d g2 g3 g1 (by omega)
    rcases g4 with g4 | ⟨g4, g6⟩
    · omega
    · rw [g6] at g5; omega
theorem nr_al (hv : vP P) {v : Nat} (hx : v < pX P) (hA : ¬ pA P v = 1) : ∃ w, isNr P v w ∧ (if bf_oN (pNa P v (pN P) 0 1 0) = nI v then bf_oN (pNa P v (pN P) 0 1 1) else bf_oN (pNa P v (pN P) 0 1 0)) = nI w := by
  have hX := pX_le hv
  have hA1 : 1 ≤ bf_pr (pC P v) (pN P) := bf_pr_pos (fun k => pC_pos P v k) _
  have hA2 : ¬ bf_pr (pC P v) (pN P) = 1 := hA
  obtain ⟨w0, e0⟩ := nth_some (P := P) v (pN P) 0 (by omega)
  obtain ⟨w1, e1⟩ := nth_some (P := P) v (pN P) 1 (by omega)
  have g0 : gL (qF P v) (pX P) 0 0 = some w0 := by rw [which_eq hv, pNa_01]; exact e0
  have g1 : gL (qF P v) (pX P) 0 1 = some w1 := by rw [which_eq hv, pNa_01]; exact e1
  obtain ⟨a1, a2, a3, a4⟩ := gL_s _ _ _ g0
  obtain ⟨b1, b2, b3, b4⟩ := gL_s1 _ _ _ _ g1 g0
  rw [pNa_01, pNa_01, e0, e1]
  show ∃ w, isNr P v w ∧ (if nI w0 = nI v then nI w1 else nI w0) = nI w
  by_cases e : w0 = v
  · refine ⟨w1, ⟨by omega, by omega, fun u hu hne => ?_⟩, by rw [if_pos (by rw [e])]⟩
    have h0 : pF P w1 v = 0 := of_decide_eq_true b3
    rw [h0]
    rcases Nat.eq_zero_or_pos (pF P u v) with h2 | h2
    · right
      refine ⟨h2.symm, ?_⟩
      rcases Nat.lt_or_ge u w1 with h3 | h3
      · exact absurd ((b4 u (Nat.zero_le _) h3 (decide_eq_true h2)).trans e) hne
      · exact h3
    · exact Or.inl h2
  · refine ⟨w0, ⟨by omega, e, fun u hu hne => ?_⟩, by rw [if_neg (fun q => e ((nI_eq (by omega) (by omega)).mp q))]⟩
    have h0 : pF P w0 v = 0 := of_decide_eq_true a3
    rw [h0]
    rcases Nat.eq_zero_or_pos (pF P u v) with h2 | h2
    · right
      refine ⟨h2.symm, ?_⟩
      rcases Nat.lt_or_ge u w0 with h3 | h3
      · exact absurd (decide_eq_true h2) (a4 u (Nat.zero_le _) h3)
      · exact h3
    · exact Or.inl h2
theorem near_eq (hv : vP P) (hn : 1 ≤ pN P) {v : Nat} (hx : v < pX P) : ∃ w, w < pX P ∧ pNr P v = nI w ∧ nS P v (pX P) = (nI w, pF P v w) := by
  obtain ⟨w', hw', es⟩ := nS_fin hv hn v
  have key : ∃ w, isNr P v w ∧ pNr P v = nI w := by
    unfold pNr
    by_cases hA : pA P v = 1
    · rw [if_pos hA]; exact nr_one hv hn hx hA
    · rw [if_neg hA]; exact nr_al hv hx hA
  obtain ⟨w, hw, e⟩ := key
  have ew := isNr_u hw hw'
  subst ew
  exact ⟨w, hw.1, e, by rw [es, pF_comm]⟩
end
theorem c_X8_near {d : Nat} (hd : 8 ≤ d) {D : bf_D} {P : bf_Pn} (hv : vP P) (hc : cP D P) (v wh : Int32) : bf_Cf d mX8_near [.ref 0, .int (v), .int (wh)] D (some (.int (ox_near P v wh))) D := by
  refine bf_Cf_of 7 hd mo_X8_near (Nat.le_of_ble_eq_true rfl) (fun e he J r => ?_)
  show J 0 [some (.ref 0), some (.int (v)), some (.int (wh)), none] [] (bf_MD D)
  have hn4 := hv.1
  have hx4 := pX_le hv
  have hx0 := pX_pos P
  refine bf_aload_n r.1 dX8_near_0 rfl ?_
  refine ig_ref r (b := 2) dX8_near_1 fl_X8_20 rfl (by decide) rfl ?_
  refine cl_v r (y2 := mX2_isNone) dX8_near_4 li_X8_122 mv_X2_isNone rfl (by decide) [] [] rfl (Nat.le_of_ble_eq_true rfl) rfl (c_X2_isNone (by omega) hv hc) ?_
  show J 7 [some (.ref 0), some (.int (v)), some (.int (wh)), none] [.int (if pN P = 0 then 1 else 0)] (bf_MD D)
  refine nb_eq r (tgt := 13) dX8_near_7 (by decide) (fun c536 => ?_) (fun c536 => ?_)
  · have h1n : 1 ≤ pN P := by omega
    refine bf_aload_n r.1 dX8_near_13 rfl ?_
    refine ig_ref r (b := 2) dX8_near_14 fl_X8_20 rfl (by decide) rfl ?_
    refine bf_iload_n r.1 dX8_near_17 rfl ?_
    refine cl_v r (y2 := mX2_isNumber) dX8_near_18 li_X8_126 mv_X2_isNumber rfl (by decide) [.int (v)] [] rfl (Nat.le_of_ble_eq_true rfl) rfl (c_X2_isNumber (by omega) hv hc _) ?_
    show J 21 [some (.ref 0), some (.int (v)), some (.int (wh)), none] [.int (if 0 ≤ v ∧ v < nI (pX P) then 1 else 0)] (bf_MD D)
    refine nb_eq r (tgt := 32) dX8_near_21 (by decide) (fun c537 => ?_) (fun c537 => ?_)
    · have wv := rg_n c537
      refine bf_bipush r.1 (v := -2) dX8_near_32 rfl ?_
      exact rt_i r dX8_near_34 rfl rfl (by simp only [ox_near, if_neg c536, wv, on_n, on_s]) rfl
    · obtain ⟨v0, hv0, rfl⟩ := rg_in (by omega) c537
      have wv := rg_s hv0 (by omega)
      refine bf_iload_n r.1 dX8_near_24 rfl ?_
      refine bf_iconst r.1 (v := nI 2) dX8_near_25 rfl ?_
      refine cl_s r (y2 := mX8_isWithin) dX8_near_26 li_X8_50 mv_X8_isWithin [.int (wh), .int (nI 2)] [] rfl (Nat.le_of_ble_eq_true rfl) rfl (c_X8_isWithin (by omega) D _ _) ?_
      show J 29 [some (.ref 0), some (.int (nI v0)), some (.int (wh)), none] [.int (if 0 ≤ wh ∧ wh < nI 2 then 1 else 0)] (bf_MD D)
      refine nb_ne r (tgt := 35) dX8_near_29 (by decide) (fun c538 => ?_) (fun c538 => ?_)
      · obtain ⟨wh0, hwh0, rfl⟩ := rg_in (by decide) c538
        have wwh := rg_s hwh0 (by decide)
        refine bf_aload_n r.1 dX8_near_35 rfl ?_
        refine ig_ref r (b := 2) dX8_near_36 fl_X8_20 rfl (by decide) rfl ?_
        refine bf_iload_n r.1 dX8_near_39 rfl ?_
        refine cl_v r (y2 := mX2_nearestTo) dX8_near_40 li_X8_153 mv_X2_nearestTo rfl (by decide) [.int (nI v0)] [] rfl (Nat.le_of_ble_eq_true rfl) rfl (c_X2_nearestTo (by omega) hv hc (Nat.one_le_iff_ne_zero.mpr c536) (by omega)) ?_
        show J 43 [some (.ref 0), some (.int (nI v0)), some (.int (nI wh0)), none] [.int (pNr P v0)] (bf_MD D)
        obtain ⟨w9, hw9, ew9, hns⟩ := near_eq hv h1n hv0
        refine eq_i (v := nI w9) ew9 ?_
        refine bf_istore_n r.1 (L2 := [some (.ref 0), some (.int (nI v0)), some (.int (nI wh0)), some (.int (nI w9))]) dX8_near_43 rfl ?_
        refine bf_iload_n r.1 dX8_near_44 rfl ?_
        refine nz_ne r (tgt := 60) dX8_near_45 (by decide) (by omega) (fun c539 => ?_) (fun c539 => ?_)
        · refine bf_iload_n r.1 dX8_near_60 rfl ?_
          exact rt_i r dX8_near_61 rfl rfl (by simp only [ox_near, if_neg c536, wv, wwh, hns, if_neg c539, on_n, on_s]) rfl
        · refine bf_aload_n r.1 dX8_near_48 rfl ?_
          refine ig_ref r (b := 2) dX8_near_49 fl_X8_20 rfl (by decide) rfl ?_
          refine bf_iload_n r.1 dX8_near_52 rfl ?_
          refine bf_iload_n r.1 dX8_near_53 rfl ?_
          refine cl_v r (y2 := mX2_flipsBetween) dX8_near_54 li_X8_138 mv_X2_flipsBetween rfl (by decide) [.int (nI v0), .int (nI w9)] [] rfl (Nat.le_of_ble_eq_true rfl) rfl (c_X2_flipsBetween (by omega) hv hc (by omega) (by omega)) ?_
          show J 57 [some (.ref 0), some (.int (nI v0)), some (.int (nI wh0)), some (.int (nI w9))] [.int (nI (pF P v0 w9))] (bf_MD D)
          refine bf_goto r.1 (tgt := 61) dX8_near_57 (by decide) ?_
          exact rt_i r dX8_near_61 rfl rfl (by simp only [ox_near, if_neg c536, wv, wwh, hns, if_pos c539, on_n, on_s]) rfl
      · have wwh := rg_n c538
        refine bf_bipush r.1 (v := -2) dX8_near_32 rfl ?_
        exact rt_i r dX8_near_34 rfl rfl (by simp only [ox_near, if_neg c536, wv, wwh, on_n, on_s]) rfl
  · refine bf_bipush r.1 (v := -3) dX8_near_10 rfl ?_
    exact rt_i r dX8_near_12 rfl rfl (by simp only [ox_near, if_pos c536, on_n, on_s]) rfl
