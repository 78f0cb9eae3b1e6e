/-! which bar dies first -/
def fX (p : Nat → Bool) : Nat → Nat → Option Nat
  | 0, _ => none
  | f + 1, m => if p m = true then some m else fX p f (m + 1)
theorem fX_n {p : Nat → Bool} : ∀ f m, fX p f m = none → ∀ i, m ≤ i → i < m + f → ¬ p i = true := by
  intro f
  induction f with
  | zero => intro m _ i h1 h2; omega
  | succ f ih =>
    intro m h i h1 h2
    simp only [fX] at h
    by_cases hp : p m = true
    · rw [if_pos hp] at h; cases h
    · rw [if_neg hp] at h
      by_cases e : i = m
      · rw [e]; exact hp
      · exact ih (m + 1) h i (by omega) (by omega)
theorem fX_s {p : Nat → Bool} : ∀ f m q, fX p f m = some q → m ≤ q ∧ q < m + f ∧ p q = true ∧ ∀ i, m ≤ i → i < q → ¬ p i = true := by
  intro f
  induction f with
  | zero => intro m q h; cases h
  | succ f ih =>
    intro m q h
    simp only [fX] at h
    by_cases hp : p m = true
    · rw [if_pos hp] at h
      cases h
      exact ⟨Nat.le_refl _, by omega, hp, fun i h1 h2 => by omega⟩
    · rw [if_neg hp] at h
      obtain ⟨a1, a2, a3, a4⟩ := ih (m + 1) q h
      refine ⟨by omega, by omega, a3, fun i h1 h2 => ?_⟩
      by_cases e : i = m
      · rw [e]; exact hp
      · exact a4 i (by omega) h2
/-- is a bar, told by its number, dead in X and not in P -/
def fdP (P X : bf_Pn) (m : Nat) : Bool := (pD X (m / 7) &&& (127 ^^^ pD P (m / 7))).testBit (m % 7)
def ffL (P : bf_Pn) : Nat → Nat → Option (Nat × Nat)
  | 0, _ => none
  | f + 1, y => bf_on (fX (fdP P (gP P (y + 1))) (7 * pN P) 0) (ffL P f (y + 1)) (fun q => some (q, y + 1))
theorem ffL_n {P : bf_Pn} : ∀ f y, ffL P f y = none → ∀ x, y < x → x ≤ y + f → ∀ m, m < 7 * pN P → ¬ fdP P (gP P x) m = true := by
  intro f
  induction f with
  | zero => intro y _ x h1 h2; omega
  | succ f ih =>
    intro y h x h1 h2 m hm
    simp only [ffL] at h
    cases e : fX (fdP P (gP P (y + 1))) (7 * pN P) 0 with
    | some q => rw [e, on_s] at h; cases h
    | none =>
      rw [e, on_n] at h
      by_cases ex : x = y + 1
      · rw [ex]; exact fX_n _ _ e m (Nat.zero_le _) (by omega)
      · exact ih (y + 1) h x (by omega) (by omega) m hm
theorem ffL_s {P : bf_Pn} : ∀ f y q x, ffL P f y = some (q, x) → y < x ∧ x ≤ y + f ∧ q < 7 * pN P ∧ fdP P (gP P x) q = true ∧ (∀ m, m < q → ¬ fdP P (gP P x) m = true) ∧ ∀ x', y < x' → x' < x → ∀ m, m < 7 * pN P → ¬ fdP P (gP P x') m = true := by
  intro f
  induction f with
  | zero => intro y q x h; cases h
  | succ f ih =>
    intro y q x h
    simp only [ffL] at h
    cases e : fX (fdP P (gP P (y + 1))) (7 * pN P) 0 with
    | some q' =>
      rw [e, on_s] at h
      cases h
      obtain ⟨a1, a2, a3, a4⟩ := fX_s _ _ _ e
      exact ⟨by omega, by omega, by omega, a3, fun m hm => a4 m (Nat.zero_le _) hm, fun x' h1 h2 => by omega⟩
    | none =>
      rw [e, on_n] at h
      obtain ⟨a1, a2, a3, a4, a5, a6⟩ := ih (y + 1) q x h
      refine ⟨by omega, by omega, a3, a4, a5, fun x' h1 h2 m hm => ?_⟩
      by_cases ex : x' = y + 1
      · rw [ex]; exact fX_n _ _ e m (Nat.zero_le _) (by omega)
      · exact a6 x' (by omega) h2 m hm
section
variable {P : bf_Pn}
theorem dsF_s {k b : Nat} : ∀ f x s, dsF P k b f x = some s → x ≤ s ∧ s < x + f ∧ (pD (gP P s) k).testBit b = true ∧ ∀ y, x ≤ y → y < s → ¬ (pD (gP P y) k).testBit b = true := by
  intro f
  induction f with
  | zero => intro x s h; cases h
  | succ f ih =>
    intro x s h
    simp only [dsF] at h
    by_cases hp : (pD (gP P x) k).testBit b = true
    · rw [if_pos hp] at h
      cases h
      exact ⟨Nat.le_refl _, by omega, hp, fun i h1 h2 => by omega⟩
    · rw [if_neg hp] at h
      obtain ⟨a1, a2, a3, a4⟩ := ih (x + 1) s h
      refine ⟨by omega, by omega, a3, fun i h1 h2 => ?_⟩
      by_cases e : i = x
      · rw [e]; exact hp
      · exact a4 i (by omega) h2
theorem dsF_n {k b : Nat} : ∀ f x, dsF P k b f x = none → ∀ y, x ≤ y → y < x + f → ¬ (pD (gP P y) k).testBit b = true := by
  intro f
  induction f with
  | zero => intro x _ y h1 h2; omega
  | succ f ih =>
    intro x h y h1 h2
    simp only [dsF] at h
    by_cases hp : (pD (gP P x) k).testBit b = true
    · rw [if_pos hp] at h; cases h
    · rw [if_neg hp] at h
      by_cases e : y = x
      · rw [e]; exact hp
      · exact ih (x + 1) h y (by omega) (by omega)
theorem gP_mono (hv : vP P) {k b : Nat} (hk : k < pN P) : ∀ d x, (pD (gP P x) k).testBit b = true → (pD (gP P (x + d)) k).testBit b = true := by
  intro d
  induction d with
  | zero => intro x h; exact h
  | succ d ih =>
    intro x h
    rw [show x + (d + 1) = (x + d) + 1 by omega, gP_D hv hk, bf_wd_bit, ih x h, Bool.true_or]
theorem dy_not {k b lim s : Nat} (h : pDy P k b lim = some s) : (pD P k).testBit b = false := by
  cases e : (pD P k).testBit b with
  | false => rfl
  | true => rw [pDy_dead e] at h; cases h
theorem dy_s (hv : vP P) {k b lim s : Nat} (hk : k < pN P) (hb : b < 7) (h : pDy P k b lim = some s) : 1 ≤ s ∧ s ≤ lim ∧ (pD P k).testBit b = false ∧ (pD (gP P s) k).testBit b = true ∧ ∀ y, 1 ≤ y → y < s → ¬ (pD (gP P y) k).testBit b = true := by
  have h0 := dy_not h
  rw [← ds_dy hv hk hb h0] at h
  obtain ⟨a1, a2, a3, a4⟩ := dsF_s _ _ _ h
  exact ⟨a1, by omega, h0, a3, a4⟩
theorem dy_n (hv : vP P) {k b lim : Nat} (hk : k < pN P) (hb : b < 7) (h : pDy P k b lim = none) (h0 : (pD P k).testBit b = false) : ∀ y, 1 ≤ y → y ≤ lim → ¬ (pD (gP P y) k).testBit b = true := by
  rw [← ds_dy hv hk hb h0] at h
  exact fun y h1 h2 => dsF_n _ _ h y h1 (by omega)
theorem dy_lim (hv : vP P) {k b lim s : Nat} (hk : k < pN P) (hb : b < 7) (hl : lim ≤ 1000) (h : pDy P k b lim = some s) : pDy P k b 1000 = some s := by
  obtain ⟨a1, a2, a3, a4, a5⟩ := dy_s hv hk hb h
  cases e : pDy P k b 1000 with
  | none => exact absurd a4 (dy_n hv hk hb e a3 s a1 (by omega))
  | some s' =>
    obtain ⟨b1, b2, b3, b4, b5⟩ := dy_s hv hk hb e
    rcases Nat.lt_trichotomy s s' with h1 | h1 | h1
    · exact absurd a4 (b5 s a1 h1)
    · rw [h1]
    · exact absurd b4 (a5 s' b1 h1)
theorem dy_lim2 (hv : vP P) {k b lim s : Nat} (hk : k < pN P) (hb : b < 7) (h : pDy P k b 1000 = some s) (h2 : pDy P k b lim = none) : lim < s := by
  obtain ⟨a1, a2, a3, a4, a5⟩ := dy_s hv hk hb h
  rcases Nat.lt_or_ge lim s with h1 | h1
  · exact h1
  · exact absurd a4 (dy_n hv hk hb h2 a3 s a1 h1)
theorem fd_iff (hv : vP P) {m x : Nat} (hm : m < 7 * pN P) (hx : x ≤ 1000) : fdP P (gP P x) m = true ↔ ∃ s, pDy P (m / 7) (m % 7) 1000 = some s ∧ s ≤ x := by
  have hk : m / 7 < pN P := by omega
  have hb : m % 7 < 7 := Nat.mod_lt _ (by decide)
  unfold fdP
  generalize m / 7 = k at *
  generalize m % 7 = b at *
  have e : (pD (gP P x) k &&& (127 ^^^ pD P k)).testBit b = ((pD (gP P x) k).testBit b && !(pD P k).testBit b) := by
    rw [Nat.testBit_and, Nat.testBit_xor]
    have : Nat.testBit 127 b = true := by
      have h : ∀ b : Fin 7, Nat.testBit 127 b.1 = true := by decide
      exact h ⟨b, hb⟩
    rw [this, Bool.true_xor]
  rw [e, Bool.and_eq_true]
  constructor
  · rintro ⟨h1, h2⟩
    have h0 : (pD P k).testBit b = false := by
      cases e2 : (pD P k).testBit b with
      | false => rfl
      | true => rw [e2] at h2; cases h2
    have hx1 : 1 ≤ x := by
      rcases Nat.eq_zero_or_pos x with e3 | e3
      · rw [e3] at h1
        have h9 : (pD P k).testBit b = true := h1
        rw [h0] at h9; cases h9
      · exact e3
    cases e4 : pDy P k b 1000 with
    | none => exact absurd h1 (dy_n hv hk hb e4 h0 x hx1 hx)
    | some s =>
      obtain ⟨a1, a2, a3, a4, a5⟩ := dy_s hv hk hb e4
      refine ⟨s, rfl, ?_⟩
      rcases Nat.lt_or_ge x s with h5 | h5
      · exact absurd h1 (a5 x hx1 h5)
      · exact h5
  · rintro ⟨s, h1, h2⟩
    obtain ⟨a1, a2, a3, a4, a5⟩ := dy_s hv hk hb h1
    refine ⟨?_, by rw [a3]; rfl⟩
    have h9 := gP_mono hv hk (x - s) s a4
    rwa [show s + (x - s) = x by omega] at h9
/-- what the class has found among the bars below M -/
def fsQ (P : bf_Pn) (M : Nat) (q : Int32 × Int32 × Int32 × Nat) : Prop := (q = (-9, -9, -9, 1000) ∧ ∀ m, m < M → pDy P (m / 7) (m % 7) 1000 = none) ∨ ∃ m0 s, m0 < M ∧ pDy P (m0 / 7) (m0 % 7) 1000 = some s ∧ q = (nI (m0 / 7), nI (m0 % 7), nI s, s - 1) ∧ ∀ m, m < M → ∀ s', pDy P (m / 7) (m % 7) 1000 = some s' → s < s' ∨ (s = s' ∧ m0 ≤ m)
theorem fsQ_s (hv : vP P) {k b : Nat} {q : Int32 × Int32 × Int32 × Nat} (hk : k < pN P) (hb : b < 7) (h : fsQ P (7 * k + b) q) : fsQ P (7 * k + b + 1) (fsS P k b q) := by
  have e1 : (7 * k + b) / 7 = k := by omega
  have e2 : (7 * k + b) % 7 = b := by omega
  unfold fsS
  rcases h with ⟨rfl, h1⟩ | ⟨m0, s, h1, h2, rfl, h3⟩
  · show fsQ P _ (bf_on (pDy P k b 1000) _ _)
    cases e : pDy P k b 1000 with
    | none =>
      rw [on_n]
      refine Or.inl ⟨rfl, fun m hm => ?_⟩
      by_cases em : m = 7 * k + b
      · rw [em, e1, e2]; exact e
      · exact h1 m (by omega)
    | some s =>
      rw [on_s]
      refine Or.inr ⟨7 * k + b, s, by omega, by rw [e1, e2]; exact e, by rw [e1, e2], fun m hm s' hs => ?_⟩
      by_cases em : m = 7 * k + b
      · rw [em, e1, e2, e] at hs
        cases hs
        exact Or.inr ⟨rfl, by omega⟩
      · rw [h1 m (by omega)] at hs; cases hs
  · show fsQ P _ (bf_on (pDy P k b (s - 1)) _ _)
    have hs1 := (dy_s hv (show m0 / 7 < pN P by omega) (Nat.mod_lt _ (by decide)) h2)
    cases e : pDy P k b (s - 1) with
    | none =>
      rw [on_n]
      refine Or.inr ⟨m0, s, by omega, h2, rfl, fun m hm s' hs => ?_⟩
      by_cases em : m = 7 * k + b
      · rw [em, e1, e2] at hs
        have := dy_lim2 hv hk hb hs e
        omega
      · exact h3 m (by omega) s' hs
    | some s2 =>
      rw [on_s]
      have hl := dy_lim hv hk hb (by omega) e
      have hs2 := dy_s hv hk hb e
      refine Or.inr ⟨7 * k + b, s2, by omega, by rw [e1, e2]; exact hl, by rw [e1, e2], fun m hm s' hs => ?_⟩
      by_cases em : m = 7 * k + b
      · rw [em, e1, e2, hl] at hs
        cases hs
        exact Or.inr ⟨rfl, by omega⟩
      · have := h3 m (by omega) s' hs
        omega
theorem fsQ_I (hv : vP P) {k : Nat} {q : Int32 × Int32 × Int32 × Nat} (hk : k < pN P) (h : fsQ P (7 * k) q) : ∀ b, b ≤ 7 → fsQ P (7 * k + b) (fsI P k q b) := by
  intro b
  induction b with
  | zero => intro _; exact h
  | succ b ih => intro hb; exact fsQ_s hv hk (by omega) (ih (by omega))
theorem fsQ_O (hv : vP P) : ∀ k, k ≤ pN P → fsQ P (7 * k) (fsO P k) := by
  intro k
  induction k with
  | zero => intro _; exact Or.inl ⟨rfl, fun m hm => by omega⟩
  | succ k ih =>
    intro hk
    have h := fsQ_I hv (show k < pN P by omega) (ih (by omega)) 7 (Nat.le_refl _)
    rw [show 7 * (k + 1) = 7 * k + 7 by omega]
    exact h
theorem fs_none (hv : vP P) (h : ffL P 1000 0 = none) : fsO P (pN P) = (-9, -9, -9, 1000) := by
  rcases fsQ_O hv (pN P) (Nat.le_refl _) with ⟨e, -⟩ | ⟨m0, s, h1, h2, -, -⟩
  · exact e
  · have hs := dy_s hv (show m0 / 7 < pN P by omega) (Nat.mod_lt _ (by decide)) h2
    exact absurd ((fd_iff hv h1 hs.2.1).mpr ⟨s, h2, Nat.le_refl _⟩) (ffL_n _ _ h s (by omega) (by omega) m0 h1)
theorem fs_some (hv : vP P) {q x : Nat} (h : ffL P 1000 0 = some (q, x)) : fsO P (pN P) = (nI (q / 7), nI (q % 7), nI x, x - 1) := by
  obtain ⟨a1, a2, a3, a4, a5, a6⟩ := ffL_s _ _ _ _ h
  obtain ⟨s, b1, b2⟩ := (fd_iff hv a3 (by omega)).mp a4
  have hs := dy_s hv (show q / 7 < pN P by omega) (Nat.mod_lt _ (by decide)) b1
  have es : s = x := by
    rcases Nat.lt_or_ge s x with h1 | h1
    · exact absurd ((fd_iff hv a3 hs.2.1).mpr ⟨s, b1, Nat.le_refl _⟩) (a6 s (by omega) h1 q a3)
    · omega
  subst es
  rcases fsQ_O hv (pN P) (Nat.le_refl _) with ⟨-, h9⟩ | ⟨m0, s0, h1, h2, e, h3⟩
  · rw [h9 q a3] at b1; cases b1
  · have hs0 := dy_s hv (show m0 / 7 < pN P by omega) (Nat.mod_lt _ (by decide)) h2
    have hlt := h3 q a3 s b1
    have e0 : s0 = s := by
      rcases Nat.lt_or_ge s0 s with h4 | h4
      · exact absurd ((fd_iff hv h1 hs0.2.1).mpr ⟨s0, h2, Nat.le_refl _⟩) (a6 s0 (by omega) h4 m0 h1)
      · omega
    subst e0
    have em : m0 = q := by
      rcases Nat.lt_or_ge m0 q with h4 | h4
      · exact absurd ((fd_iff hv h1 hs0.2.1).mpr ⟨s0, h2, Nat.le_refl _⟩) (a5 m0 h4)
      · omega
    subst em
    exact e
end
theorem c_X9_firstDead {d : Nat} (hd : 2 ≤ d) {D : bf_D} {P X : bf_Pn} (hv : vP P) (hvX : vP X) (hm : mP D X) (hN : pN X = pN P) (hkd : ∀ k, k < pN P → D 45 k = nI (pD P k)) : bf_Cf d mX9_firstDead [.ref 37] D (some (.int (bf_oN (fX (fdP P X) (7 * pN P) 0)))) D := by
  refine bf_Cf_of 1 hd mo_X9_firstDead (Nat.le_of_ble_eq_true rfl) (fun e he J r => ?_)
  show J 0 [some (.ref 37), none, none] [] (bf_MD D)
  have hn4 := hv.1
  refine bf_iconst r.1 (v := nI 0) dX9_firstDead_0 rfl ?_
  refine bf_istore_n r.1 (L2 := [some (.ref 37), some (.int (nI 0)), none]) dX9_firstDead_1 rfl ?_
  have loop : ∀ k : Nat, k ≤ (pN P) → fX (fdP P X) (7 * (pN P - k)) (7 * k) = fX (fdP P X) (7 * pN P) 0 → J 2 [some (.ref 37), some (.int (nI k)), none] [] (bf_MD D) := by
    refine bf_down (fun k hle ih => ?_)
    intro he
    refine bf_iload_n r.1 dX9_firstDead_2 rfl ?_
    refine bf_aload_n r.1 dX9_firstDead_3 rfl ?_
    refine ig_int r (v := nI (pN P)) dX9_firstDead_4 fl_X9_77 rfl (by decide) rfl ((mP_n hm).trans (congrArg nI hN)) ?_
    refine nc_ge r (tgt := 59) dX9_firstDead_7 (by decide) (by omega) (by omega) (fun c499 => ?_) (fun c499 => ?_)
    · refine bf_bipush r.1 (v := -9) dX9_firstDead_59 rfl ?_
      exact rt_i r dX9_firstDead_61 rfl rfl (by rw [← he, show pN P - k = 0 by omega]; rfl) rfl
    · have hkX : k < pN X := by omega
      refine bf_iconst r.1 (v := nI 0) dX9_firstDead_10 rfl ?_
      refine bf_istore_n r.1 (L2 := [some (.ref 37), some (.int (nI k)), some (.int (nI 0))]) dX9_firstDead_11 rfl ?_
      have ihk := ih
      have hkn : k < pN P := c499
      have lob : ∀ b : Nat, b ≤ 7 → fX (fdP P X) (7 * (pN P - k) - b) (7 * k + b) = fX (fdP P X) (7 * pN P) 0 → J 12 [some (.ref 37), some (.int (nI k)), some (.int (nI b))] [] (bf_MD D) := by
        refine bf_down (fun b hle ih => ?_)
        intro he2
        refine bf_iload_n r.1 dX9_firstDead_12 rfl ?_
        refine bf_bipush r.1 (v := nI 7) dX9_firstDead_13 rfl ?_
        refine nc_ge r (tgt := 53) dX9_firstDead_15 (by decide) (by omega) (by decide) (fun c500 => ?_) (fun c500 => ?_)
        · refine na_inc r (v := k + 1) (L2 := [some (.ref 37), some (.int (nI (k + 1))), some (.int (nI b))]) dX9_firstDead_53 rfl (nI_add _ 1) rfl ?_
          refine bf_goto r.1 (tgt := 2) dX9_firstDead_56 (by decide) ?_
          have eb : b = 7 := by omega
          subst eb
          refine bf_fgt r.1 (i := 2) (L2 := [some (.ref 37), some (.int (nI (k + 1))), none]) rfl ?_
          exact ihk (by omega) (by rw [← he2, show 7 * (pN P - k) - 7 = 7 * (pN P - (k + 1)) by omega, show 7 * k + 7 = 7 * (k + 1) by omega])
        · have e1 : (7 * k + b) / 7 = k := by omega
          have e2 : (7 * k + b) % 7 = b := by omega
          rw [show 7 * (pN P - k) - b = (7 * (pN P - k) - (b + 1)) + 1 by omega] at he2
          simp only [fX] at he2
          refine bf_aload_n r.1 dX9_firstDead_18 rfl ?_
          refine ig_ref r (b := 39) dX9_firstDead_19 fl_X9_13 rfl (by decide) rfl ?_
          refine bf_iload_n r.1 dX9_firstDead_22 rfl ?_
          refine ia_ld r (n := 4) (v := nI (pD X k)) dX9_firstDead_23 rfl (by decide) (by omega) (mP_d hm hkX) ?_
          refine bf_aload_n r.1 dX9_firstDead_24 rfl ?_
          refine ig_ref r (b := 45) dX9_firstDead_25 fl_X9_31 rfl (by decide) rfl ?_
          refine bf_iload_n r.1 dX9_firstDead_28 rfl ?_
          refine ia_ld r (n := 4) (v := nI (pD P k)) dX9_firstDead_29 rfl (by decide) (by omega) (hkd k hkn) ?_
          refine bf_iconst r.1 (v := -1) dX9_firstDead_30 rfl ?_
          refine bf_ixor r.1 dX9_firstDead_31 ?_
          refine bf_iand r.1 dX9_firstDead_32 ?_
          refine eq_i (bf_nand (vP_d hvX hkX) (vP_d hv hkn)) ?_
          refine bf_iload_n r.1 dX9_firstDead_33 rfl ?_
          refine cl_s r (y2 := mX9_isIn) dX9_firstDead_34 li_X9_173 mv_X9_isIn [.int (nI (pD X k &&& (127 ^^^ pD P k))), .int (nI b)] [] rfl (Nat.le_of_ble_eq_true rfl) rfl (c_X9_isIn (by omega) D (bf_lt31 (bf_and_lt (vP_d hvX hkX)) (by decide)) (by omega)) ?_
          show J 37 [some (.ref 37), some (.int (nI k)), some (.int (nI b))] [.int (if ((pD X k &&& (127 ^^^ pD P k))).testBit b = true then 1 else 0)] (bf_MD D)
          refine nb_eq r (tgt := 47) dX9_firstDead_37 (by decide) (fun c501 => ?_) (fun c501 => ?_)
          · refine na_inc r (v := b + 1) (L2 := [some (.ref 37), some (.int (nI k)), some (.int (nI (b + 1)))]) dX9_firstDead_47 rfl (nI_add _ 1) rfl ?_
            refine bf_goto r.1 (tgt := 12) dX9_firstDead_50 (by decide) ?_
            rw [if_neg (show ¬ fdP P X (7 * k + b) = true by unfold fdP; rw [e1, e2]; exact c501)] at he2
            exact ih (by omega) he2
          · refine bf_bipush r.1 (v := nI 7) dX9_firstDead_40 rfl ?_
            refine bf_iload_n r.1 dX9_firstDead_42 rfl ?_
            refine na_mul r dX9_firstDead_43  ?_
            refine bf_iload_n r.1 dX9_firstDead_44 rfl ?_
            refine na_add r dX9_firstDead_45  ?_
            exact rt_i r dX9_firstDead_46 rfl rfl (by rw [← he2, if_pos (show fdP P X (7 * k + b) = true by unfold fdP; rw [e1, e2]; exact c501)]; rfl) rfl
      exact lob 0 (by omega) he
  exact loop 0 (Nat.zero_le _) rfl
theorem e_X9_first {d : Nat} (hd : 10 ≤ d) {D : bf_D} {P : bf_Pn} {S : bf_Sh} {Q : bf_Rd} {F : Nat} {T : Int32} (va : vA (P, S, Q, F, T)) (ma : mA D (P, S, Q, F, T)) (wh : Int32) : bf_Ce d mX9_first [.ref 37, .int (wh)] D (fun r D' => r = some (.int (ox_first P wh)) ∧ mA D' (P, S, Q, F, T) ∧ bf_fr 37 57 D D') := by
  refine bf_Ce_of 9 hd mo_X9_first (Nat.le_of_ble_eq_true rfl) (fun e he J r => ?_)
  show J 0 [some (.ref 37), some (.int (wh)), none, none] [] (bf_MD D)
  obtain ⟨hv, vs, vr, hF⟩ := id va
  obtain ⟨hm, ms, mr, c5, c6⟩ := id ma
  have hn4 := hv.1
  have hx4 := pX_le hv
  have hx0 := pX_pos P
  refine bf_iload_n r.1 dX9_first_0 rfl ?_
  refine bf_i2l r.1 dX9_first_1 ?_
  refine bf_lconst r.1 (v := lN 0) dX9_first_2 rfl ?_
  refine bf_ldc2 r.1 dX9_first_3 lc_X9_120 ?_
  refine eq_l (v := lN 2) rfl ?_
  refine cl_s r (y2 := mX9_in) dX9_first_6 li_X9_80 mv_X9_in [.long (wh.toInt64), .long (lN 0), .long (lN 2)] [] rfl (Nat.le_of_ble_eq_true rfl) rfl (c_X9_in32 (by omega) D wh (h := 2) (m := 3) rfl (by decide)) ?_
  show J 9 [some (.ref 37), some (.int (wh)), none, none] [.int (if 0 ≤ wh ∧ wh < nI 3 then 1 else 0)] (bf_MD D)
  refine nb_ne r (tgt := 15) dX9_first_9 (by decide) (fun c502 => ?_) (fun c502 => ?_)
  · obtain ⟨wh0, hwh0, rfl⟩ := rg_in (by decide) c502
    have wwh := rg_s hwh0 (by decide)
    refine bf_aload_n r.1 dX9_first_15 rfl ?_
    refine ig_int r (v := nI (pN P)) dX9_first_16 fl_X9_77 rfl (by decide) rfl (mP_n (P := P) hm) ?_
    refine nz_ne r (tgt := 25) dX9_first_19 (by decide) (by omega) (fun c503 => ?_) (fun c503 => ?_)
    · have h1n : 1 ≤ pN P := by omega
      refine bf_aload_n r.1 dX9_first_25 rfl ?_
      refine ce_v r (y2 := mX9_keepAll) dX9_first_26 li_X9_211 mv_X9_keepAll rfl (by decide) [] [] rfl (Nat.le_of_ble_eq_true rfl) rfl (e_X9_keepAll (by omega) (mP_n hm) hn4) (fun res D504 hq504 => ?_)
      obtain ⟨rfl, hkp⟩ := hq504
      show J 29 [some (.ref 37), some (.int (nI wh0)), none, none] [] (bf_MD D504)
      refine bf_bipush r.1 (v := -9) dX9_first_29 rfl ?_
      refine bf_istore_n r.1 (L2 := [some (.ref 37), some (.int (nI wh0)), some (.int (-9)), none]) dX9_first_31 rfl ?_
      refine bf_iconst r.1 (v := nI 0) dX9_first_32 rfl ?_
      refine bf_istore_n r.1 (L2 := [some (.ref 37), some (.int (nI wh0)), some (.int (-9)), some (.int (nI 0))]) dX9_first_33 rfl ?_
      have loop : ∀ (f y : Nat) (D2 : bf_D), y + f = 1000 → mP D2 (gP P y) → (∀ a j, a ≠ 39 → a ≠ 41 → (a ≠ 37 ∨ j ≠ 3) → D2 a j = D504 a j) → ffL P f y = ffL P 1000 0 → J 34 [some (.ref 37), some (.int (nI wh0)), some (.int (-9)), some (.int (nI y))] [] (bf_MD D2) := by
        intro f
        induction f with
        | zero =>
          intro y D2 hyf hm2 hO he
          have hfs := fs_none hv he.symm
          refine bf_iload_n r.1 dX9_first_34 rfl ?_
          refine bf_if_ge r.1 (tgt := 60) dX9_first_35 (by decide) (fun c505 => ?_) (fun c505 => ?_)
          · exact absurd c505 (by decide)
          · refine bf_iload_n r.1 dX9_first_38 rfl ?_
            refine bf_sipush r.1 (v := nI 1000) dX9_first_39 rfl ?_
            refine nc_ge r (tgt := 60) dX9_first_42 (by decide) (by omega) (by decide) (fun c506 => ?_) (fun c506 => ?_)
            · refine bf_aload_n r.1 dX9_first_60 rfl ?_
              refine ce_v r (y2 := mX9_bringBack) dX9_first_61 li_X9_214 mv_X9_bringBack rfl (by decide) [] [] rfl (Nat.le_of_ble_eq_true rfl) rfl (e_X9_bringBack (n := pN P) (by omega) ((mP_n hm2).trans (congrArg nI (gP_v hv y).2)) hn4) (fun res D507 hq507 => ?_)
              obtain ⟨rfl, hbk507⟩ := hq507
              show J 64 [some (.ref 37), some (.int (nI wh0)), some (.int (-9)), some (.int (nI y))] [] (bf_MD D507)
              refine bf_iload_n r.1 dX9_first_64 rfl ?_
              refine bf_if_ge r.1 (tgt := 73) dX9_first_65 (by decide) (fun c508 => ?_) (fun c508 => ?_)
              · exact absurd c508 (by decide)
              · refine bf_bipush r.1 (v := -9) dX9_first_68 rfl ?_
                refine bf_goto r.1 (tgt := 97) dX9_first_70 (by decide) ?_
                have hq := kp_bk hkp hO hbk507
                have ho : ox_first P (nI wh0) = -9 := by simp only [ox_first, wwh, if_neg c503, on_n, on_s, hfs, ite_self]
                exact re_i r dX9_first_97 rfl rfl ⟨by rw [ho], (mA_kp hn4 ma hq), (fun a j h => hq a j (by omega) (by omega) (by omega) (by omega) (by omega))⟩
            · exact absurd c506 (by omega)
        | succ f ih =>
          intro y D2 hyf hm2 hO he
          refine bf_iload_n r.1 dX9_first_34 rfl ?_
          refine bf_if_ge r.1 (tgt := 60) dX9_first_35 (by decide) (fun c509 => ?_) (fun c509 => ?_)
          · exact absurd c509 (by decide)
          · refine bf_iload_n r.1 dX9_first_38 rfl ?_
            refine bf_sipush r.1 (v := nI 1000) dX9_first_39 rfl ?_
            refine nc_ge r (tgt := 60) dX9_first_42 (by decide) (by omega) (by decide) (fun c510 => ?_) (fun c510 => ?_)
            · exact absurd c510 (by omega)
            · refine bf_aload_n r.1 dX9_first_45 rfl ?_
              refine ce_v r (y2 := mX9_step) dX9_first_46 li_X9_208 mv_X9_step rfl (by decide) [] [] rfl (Nat.le_of_ble_eq_true rfl) rfl (e_X9_step (by omega) (gP_v hv y).1 hm2) (fun res D511 hq511 => ?_)
              obtain ⟨rfl, hm511, hf511⟩ := hq511
              show J 49 [some (.ref 37), some (.int (nI wh0)), some (.int (-9)), some (.int (nI y))] [] (bf_MD D511)
              refine na_inc r (v := y + 1) (L2 := [some (.ref 37), some (.int (nI wh0)), some (.int (-9)), some (.int (nI (y + 1)))]) dX9_first_49 rfl (nI_add _ 1) rfl ?_
              have hO9 : ∀ a j, a ≠ 39 → a ≠ 41 → (a ≠ 37 ∨ j ≠ 3) → D511 a j = D504 a j := fun a j q1 q2 q3 => (hf511 a j q1 q2 q3).trans (hO a j q1 q2 q3)
              have hm9 : mP D511 (gP P (y + 1)) := hm511
              refine bf_aload_n r.1 dX9_first_52 rfl ?_
              refine cl_v r (y2 := mX9_firstDead) dX9_first_53 li_X9_220 mv_X9_firstDead rfl (by decide) [] [] rfl (Nat.le_of_ble_eq_true rfl) rfl (c_X9_firstDead (by omega) hv (gP_v hv (y + 1)).1 hm9 (gP_v hv (y + 1)).2 (fun k hk => (hO9 _ _ (by decide) (by decide) (by omega)).trans ((hkp.2.1 k hk).trans (mP_d hm hk)))) ?_
              show J 56 [some (.ref 37), some (.int (nI wh0)), some (.int (-9)), some (.int (nI (y + 1)))] [.int (bf_oN (fX (fdP P (gP P (y + 1))) (7 * pN P) 0))] (bf_MD D511)
              refine bf_istore_n r.1 (L2 := [some (.ref 37), some (.int (nI wh0)), some (.int (bf_oN (fX (fdP P (gP P (y + 1))) (7 * pN P) 0))), some (.int (nI (y + 1)))]) dX9_first_56 rfl ?_
              by_cases hd2 : fX (fdP P (gP P (y + 1))) (7 * pN P) 0 = none
              · rw [hd2]
                show J 57 [some (.ref 37), some (.int (nI wh0)), some (.int (-9)), some (.int (nI (y + 1)))] [] (bf_MD D511)
                refine bf_goto r.1 (tgt := 34) dX9_first_57 (by decide) ?_
                exact ih (y + 1) D511 (by omega) hm9 hO9 (by rw [← he]; simp only [ffL]; rw [hd2, on_n])
              · obtain ⟨q0, hq0⟩ := Option.ne_none_iff_exists'.mp hd2
                have hqb := (fX_s _ _ _ hq0).2.1
                rw [hq0]
                show J 57 [some (.ref 37), some (.int (nI wh0)), some (.int (nI q0)), some (.int (nI (y + 1)))] [] (bf_MD D511)
                refine bf_goto r.1 (tgt := 34) dX9_first_57 (by decide) ?_
                have hfs := fs_some (q := q0) (x := y + 1) hv (by rw [← he]; simp only [ffL]; rw [hq0, on_s])
                refine bf_iload_n r.1 dX9_first_34 rfl ?_
                refine nz_ge r (tgt := 60) dX9_first_35 (by decide) (by omega) (fun c512 => ?_) (fun c512 => ?_)
                · refine bf_aload_n r.1 dX9_first_60 rfl ?_
                  refine ce_v r (y2 := mX9_bringBack) dX9_first_61 li_X9_214 mv_X9_bringBack rfl (by decide) [] [] rfl (Nat.le_of_ble_eq_true rfl) rfl (e_X9_bringBack (n := pN P) (by omega) ((mP_n hm9).trans (congrArg nI (gP_v hv _).2)) hn4) (fun res D513 hq513 => ?_)
                  obtain ⟨rfl, hbk513⟩ := hq513
                  show J 64 [some (.ref 37), some (.int (nI wh0)), some (.int (nI q0)), some (.int (nI (y + 1)))] [] (bf_MD D513)
                  refine bf_iload_n r.1 dX9_first_64 rfl ?_
                  refine nz_ge r (tgt := 73) dX9_first_65 (by decide) (by omega) (fun c514 => ?_) (fun c514 => ?_)
                  · refine bf_iload_n r.1 dX9_first_73 rfl ?_
                    refine nz_ne r (tgt := 84) dX9_first_74 (by decide) (by omega) (fun c515 => ?_) (fun c515 => ?_)
                    · refine bf_iload_n r.1 dX9_first_84 rfl ?_
                      refine bf_iconst r.1 (v := nI 1) dX9_first_85 rfl ?_
                      refine nc_ne r (tgt := 96) dX9_first_86 (by decide) (by omega) (by decide) (fun c516 => ?_) (fun c516 => ?_)
                      · refine bf_iload_n r.1 dX9_first_96 rfl ?_
                        have hq := kp_bk hkp hO9 hbk513
                        have ho : ox_first P (nI wh0) = nI (y + 1) := by simp only [ox_first, wwh, if_neg c503, if_neg (show ¬ nI wh0 = 0 from fun q => c515 ((nI_eq (show wh0 < 2 ^ 31 by omega) (show 0 < 2 ^ 31 by decide)).mp q)), if_neg (show ¬ nI wh0 = nI 1 from fun q => c516 ((nI_eq (by omega) (by decide)).mp q)), on_n, on_s, hfs]
                        exact re_i r dX9_first_97 rfl rfl ⟨by rw [ho], (mA_kp hn4 ma hq), (fun a j h => hq a j (by omega) (by omega) (by omega) (by omega) (by omega))⟩
                      · refine bf_iload_n r.1 dX9_first_89 rfl ?_
                        refine bf_bipush r.1 (v := nI 7) dX9_first_90 rfl ?_
                        refine na_rem r dX9_first_92 (by omega) (by decide) (by decide) ?_
                        refine bf_goto r.1 (tgt := 97) dX9_first_93 (by decide) ?_
                        have hq := kp_bk hkp hO9 hbk513
                        have ho : ox_first P (nI wh0) = nI (q0 % 7) := by simp only [ox_first, wwh, if_neg c503, if_neg (show ¬ nI wh0 = 0 from fun q => c515 ((nI_eq (show wh0 < 2 ^ 31 by omega) (show 0 < 2 ^ 31 by decide)).mp q)), if_pos (show nI wh0 = nI 1 by rw [c516]), on_n, on_s, hfs]
                        exact re_i r dX9_first_97 rfl rfl ⟨by rw [ho], (mA_kp hn4 ma hq), (fun a j h => hq a j (by omega) (by omega) (by omega) (by omega) (by omega))⟩
                    · refine bf_iload_n r.1 dX9_first_77 rfl ?_
                      refine bf_bipush r.1 (v := nI 7) dX9_first_78 rfl ?_
                      refine na_div r dX9_first_80 (by omega) (by decide) (by decide) ?_
                      refine bf_goto r.1 (tgt := 97) dX9_first_81 (by decide) ?_
                      have hq := kp_bk hkp hO9 hbk513
                      have ho : ox_first P (nI wh0) = nI (q0 / 7) := by simp only [ox_first, wwh, if_neg c503, if_pos (show nI wh0 = 0 by rw [c515]; rfl), on_n, on_s, hfs]
                      exact re_i r dX9_first_97 rfl rfl ⟨by rw [ho], (mA_kp hn4 ma hq), (fun a j h => hq a j (by omega) (by omega) (by omega) (by omega) (by omega))⟩
                  · exact absurd c514 (by omega)
                · exact absurd c512 (by omega)
      exact loop 1000 0 D504 (by omega) (mP_e hm hn4 (fun a j q => hkp.2.2.2 a j (by omega) (by omega) (by omega))) (fun _ _ _ _ _ => rfl) rfl
    · refine bf_bipush r.1 (v := -3) dX9_first_22 rfl ?_
      have ho : ox_first P (nI wh0) = -3 := by simp only [ox_first, wwh, if_pos c503, on_n, on_s]
      exact re_i r dX9_first_24 rfl rfl ⟨by rw [ho], ma, fr_0⟩
  · have wwh := rg_n c502
    refine bf_bipush r.1 (v := -2) dX9_first_12 rfl ?_
    have ho : ox_first P wh = -2 := by simp only [ox_first, wwh, on_n, on_s]
    exact re_i r dX9_first_14 rfl rfl ⟨by rw [ho], ma, fr_0⟩
