/-! which numbers look alike; the nearest -/
/-- the a-th number from u on with q -/
def gL (q : Nat → Bool) : Nat → Nat → Nat → Option Nat
  | 0, _, _ => none
  | f + 1, u, a => if q u = true then (if a = 0 then some u else gL q f (u + 1) (a - 1)) else gL q f (u + 1) a
theorem gL_c {q q' : Nat → Bool} : ∀ f u a, (∀ x, u ≤ x → x < u + f → q x = q' x) → gL q f u a = gL q' f u a := by
  intro f
  induction f with
  | zero => intro u a _; rfl
  | succ f ih =>
    intro u a h
    simp only [gL]
    rw [h u (Nat.le_refl _) (by omega), ih (u + 1) a (fun x h1 h2 => h x (by omega) (by omega)), ih (u + 1) (a - 1) (fun x h1 h2 => h x (by omega) (by omega))]
def cF (m : Nat) : Nat → Nat → Nat
  | 0, _ => 0
  | f + 1, j => (if m / 2 ^ j &&& 1 = 0 then 0 else 1) + cF m f (j + 1)
theorem cF_pc (m : Nat) : ∀ f j, cF m f j = bf_pcF f (m / 2 ^ j) := by
  intro f
  induction f with
  | zero => intro j; rfl
  | succ f ih =>
    intro j
    simp only [cF, bf_pcF]
    rw [ih (j + 1), Nat.pow_succ, ← Nat.div_div_eq_div_mul]
    congr 1
    rw [bf_and1]
    split <;> omega
section
variable {m f j a : Nat}
theorem cF_s0 (h : m / 2 ^ j &&& 1 = 0) : cF m (f + 1) j = cF m f (j + 1) := by
  show (if m / 2 ^ j &&& 1 = 0 then 0 else 1) + cF m f (j + 1) = _
  rw [if_pos h, Nat.zero_add]
theorem cF_s1 (h : ¬ m / 2 ^ j &&& 1 = 0) : cF m (f + 1) j = 1 + cF m f (j + 1) := by
  show (if m / 2 ^ j &&& 1 = 0 then 0 else 1) + cF m f (j + 1) = _
  rw [if_neg h]
theorem mb_s0 (h : m / 2 ^ j &&& 1 = 0) : bf_mbF m (f + 1) j a = bf_mbF m f (j + 1) a := if_pos h
theorem mb_s1 (h : ¬ m / 2 ^ j &&& 1 = 0) : bf_mbF m (f + 1) j 0 = j := by
  show (if m / 2 ^ j &&& 1 = 0 then _ else if 0 = 0 then j else _) = _
  rw [if_neg h, if_pos rfl]
theorem mb_s2 (h : ¬ m / 2 ^ j &&& 1 = 0) (ha : ¬ a = 0) : bf_mbF m (f + 1) j a = bf_mbF m f (j + 1) (a - 1) := by
  show (if m / 2 ^ j &&& 1 = 0 then _ else if a = 0 then j else _) = _
  rw [if_neg h, if_neg ha]
end
theorem gL_blk {q q' : Nat → Bool} {m u R : Nat} (hq : ∀ d, d < 10 → q' (10 * u + d) = (q u && decide (¬ m / 2 ^ d &&& 1 = 0))) : ∀ f j a, j + f = 10 → gL q' (f + R) (10 * u + j) a = if q u = true then (if a < cF m f j then some (10 * u + bf_mbF m f j a) else gL q' R (10 * (u + 1)) (a - cF m f j)) else gL q' R (10 * (u + 1)) a := by
  intro f
  induction f with
  | zero =>
    intro j a hj
    rw [Nat.zero_add, show 10 * u + j = 10 * (u + 1) by omega, show cF m 0 j = 0 from rfl, if_neg (Nat.not_lt_zero _), Nat.sub_zero]
    split <;> rfl
  | succ f ih =>
    intro j a hj
    rw [show f + 1 + R = (f + R) + 1 by omega]
    simp only [gL]
    rw [show 10 * u + j + 1 = 10 * u + (j + 1) by omega, ih (j + 1) a (by omega), ih (j + 1) (a - 1) (by omega), hq j (by omega)]
    by_cases hu : q u = true
    · rw [if_pos hu, if_pos hu, if_pos hu, hu, Bool.true_and]
      by_cases hb : m / 2 ^ j &&& 1 = 0
      · rw [decide_eq_false (not_not_intro hb), if_neg (by decide), cF_s0 hb, mb_s0 hb]
      · rw [decide_eq_true hb, if_pos rfl, cF_s1 hb]
        by_cases ha : a = 0
        · subst ha; rw [if_pos rfl, if_pos (by omega), mb_s1 hb]
        · rw [if_neg ha, mb_s2 hb ha]
          by_cases hc : a - 1 < cF m f (j + 1)
          · rw [if_pos hc, if_pos (by omega)]
          · rw [if_neg hc, if_neg (by omega), show a - 1 - cF m f (j + 1) = a - (1 + cF m f (j + 1)) by omega]
    · have hf : q u = false := Bool.not_eq_true _ |>.mp hu
      rw [if_neg hu, if_neg hu, if_neg hu, hf, Bool.false_and, if_neg (by decide)]
theorem gL_ten {q q' : Nat → Bool} {m : Nat} (hC : 1 ≤ cF m 10 0) (hq : ∀ u d, d < 10 → q' (10 * u + d) = (q u && decide (¬ m / 2 ^ d &&& 1 = 0))) : ∀ N u a, gL q' (10 * N) (10 * u) a = (gL q N u (a / cF m 10 0)).map (fun x => 10 * x + bf_mb m (a % cF m 10 0)) := by
  intro N
  induction N with
  | zero => intro u a; rfl
  | succ N ih =>
    intro u a
    have h := gL_blk (q := q) (q' := q') (m := m) (u := u) (R := 10 * N) (hq u) 10 0 a rfl
    rw [Nat.add_zero] at h
    rw [show 10 * (N + 1) = 10 + 10 * N by omega, h]
    simp only [gL]
    generalize cF m 10 0 = C at *
    by_cases hu : q u = true
    · rw [if_pos hu, if_pos hu]
      by_cases ha : a < C
      · rw [if_pos ha, Nat.div_eq_of_lt ha, if_pos rfl, Nat.mod_eq_of_lt ha]; rfl
      · rw [if_neg ha, ih (u + 1) (a - C)]
        have e1 : (a - C) / C = a / C - 1 := by
          have := Nat.sub_mul_div a C 1
          rw [Nat.mul_one] at this
          exact this
        have e2 : (a - C) % C = a % C := by
          have := Nat.sub_mul_mod (x := a) (k := 1) (n := C) (by omega)
          rw [Nat.mul_one] at this
          exact this
        rw [e1, e2, if_neg (Nat.ne_of_gt (Nat.div_pos (by omega) (by omega)))]
    · rw [if_neg hu, if_neg hu, ih (u + 1) a]
/-- which digits of v's look, at k -/
def pMv (P : bf_Pn) (v k : Nat) : Nat := pM P k (pB P k (pG P v k))
def qJ (P : bf_Pn) (v j u : Nat) : Bool := bf_al (fun k => decide (¬ pMv P v k / 2 ^ bf_dg j u k &&& 1 = 0)) j
def nth (P : bf_Pn) (v : Nat) : Nat → Nat → Option Nat
  | 0, i => if i = 0 then some 0 else none
  | j + 1, i => (nth P v j (i / pC P v j)).map (fun x => 10 * x + bf_mb (pMv P v j) (i % pC P v j))
theorem bf_al_c {p p' : Nat → Bool} : ∀ n, (∀ i, i < n → p i = p' i) → bf_al p n = bf_al p' n := by
  intro n
  induction n with
  | zero => intro _; rfl
  | succ n ih => intro h; simp only [bf_al]; rw [ih (fun i hi => h i (by omega)), h n (by omega)]
theorem qJ_s {P : bf_Pn} {v j u d : Nat} (hd : d < 10) : qJ P v (j + 1) (10 * u + d) = (qJ P v j u && decide (¬ pMv P v j / 2 ^ d &&& 1 = 0)) := by
  unfold qJ
  simp only [bf_al]
  rw [bf_dg_l, show (10 * u + d) % 10 = d by omega]
  congr 1
  refine bf_al_c _ (fun k hk => ?_)
  rw [bf_dg_s hk, show (10 * u + d) / 10 = u by omega]
theorem pC_cF (P : bf_Pn) (v k : Nat) : cF (pMv P v k) 10 0 = pC P v k := by
  rw [cF_pc, Nat.pow_zero, Nat.div_one]; rfl
theorem gL_nth (P : bf_Pn) (v : Nat) : ∀ j i, gL (qJ P v j) (10 ^ j) 0 i = nth P v j i := by
  intro j
  induction j with
  | zero =>
    intro i
    show gL _ 1 0 i = _
    simp only [gL, nth]
    rw [if_pos (show qJ P v 0 0 = true from rfl)]
  | succ j ih =>
    intro i
    have h := gL_ten (q := qJ P v j) (q' := qJ P v (j + 1)) (m := pMv P v j) (by rw [pC_cF]; exact pC_pos P v j) (fun u d hd => qJ_s hd) (10 ^ j) 0 i
    rw [Nat.pow_succ, Nat.mul_comm]
    rw [Nat.mul_zero, pC_cF] at h
    rw [h, ih]
    rfl
theorem pNa_nth (P : bf_Pn) (v : Nat) : ∀ j nn ww a, pNa P v j nn ww a = (nth P v j a).map (fun u => nn + ww * u) := by
  intro j
  induction j with
  | zero =>
    intro nn ww a
    simp only [pNa, nth]
    by_cases h : a = 0
    · rw [if_pos h, if_pos h]; simp
    · rw [if_neg h, if_neg h]; rfl
  | succ j ih =>
    intro nn ww a
    simp only [pNa, nth]
    rw [ih, Option.map_map]
    congr 1
    funext u
    show nn + ww * bf_mb (pM P j (pB P j (pG P v j))) (a % pC P v j) + ww * 10 * u = nn + ww * (10 * u + bf_mb (pMv P v j) (a % pC P v j))
    rw [Nat.mul_add, Nat.mul_assoc]
    show nn + ww * bf_mb (pMv P v j) (a % pC P v j) + ww * (10 * u) = _
    omega
theorem pNa_01 (P : bf_Pn) (v j a : Nat) : pNa P v j 0 1 a = nth P v j a := by
  rw [pNa_nth]
  cases nth P v j a with
  | none => rfl
  | some u => simp
theorem bf_sm_z {f : Nat → Nat} : ∀ n, bf_sm f n = 0 ↔ ∀ k, k < n → f k = 0 := by
  intro n
  constructor
  · induction n with
    | zero => intro _ k hk; omega
    | succ n ih =>
      intro h k hk
      simp only [bf_sm] at h
      by_cases e : k = n
      · rw [e]; omega
      · exact ih (by omega) k (by omega)
  · exact fun h => bf_sm_0 h
theorem bf_pc_z {x : Nat} (h : x < 128) : bf_pc x = 0 ↔ x = 0 := by
  have key : ∀ x : Fin 128, bf_pc x.1 = 0 ↔ x.1 = 0 := by decide +kernel
  exact key ⟨x, h⟩
theorem bf_xor_z {a b : Nat} : a ^^^ b = 0 ↔ a = b := by
  constructor
  · intro h
    have h2 : (a ^^^ b) ^^^ b = 0 ^^^ b := by rw [h]
    rw [Nat.xor_assoc, Nat.xor_self, Nat.xor_zero, Nat.zero_xor] at h2
    exact h2
  · intro h; rw [h, Nat.xor_self]
section
variable {P : bf_Pn}
theorem pF_z (hv : vP P) {u v : Nat} : pF P u v = 0 ↔ qJ P v (pN P) u = true := by
  unfold pF qJ
  rw [bf_sm_z, bf_al_t]
  constructor
  · intro h k hk
    have h1 := (bf_pc_z (bf_xor_lt (pB_lt hv hk _) (pB_lt hv hk _))).mp (h k hk)
    rw [bf_xor_z] at h1
    refine decide_eq_true (fun q => ?_)
    rw [bf_tb0] at q
    unfold pMv at q
    rw [pM_bit, decide_eq_true (bf_dg_lt _ _ _), Bool.true_and] at q
    exact of_decide_eq_false q h1
  · intro h k hk
    have h1 := of_decide_eq_true (h k hk)
    rw [bf_tb0] at h1
    unfold pMv at h1
    rw [pM_bit, decide_eq_true (bf_dg_lt _ _ _), Bool.true_and] at h1
    have h2 : pB P k (pG P u k) = pB P k (pG P v k) := Decidable.not_not.mp (fun q => h1 (decide_eq_false q))
    show bf_pc (pB P k (pG P u k) ^^^ pB P k (pG P v k)) = 0
    rw [h2, Nat.xor_self]; rfl
def qF (P : bf_Pn) (v u : Nat) : Bool := decide (pF P u v = 0)
theorem qF_J (hv : vP P) {u v : Nat} : qF P v u = qJ P v (pN P) u := by
  unfold qF
  cases h : qJ P v (pN P) u with
  | true => exact decide_eq_true ((pF_z hv).mpr h)
  | false => exact decide_eq_false (fun q => by rw [(pF_z hv).mp q] at h; cases h)
theorem which_eq (hv : vP P) (v i : Nat) : gL (qF P v) (pX P) 0 i = pNa P v (pN P) 0 1 i := by
  rw [pNa_01, ← gL_nth]
  exact gL_c _ _ _ (fun x _ _ => qF_J hv)
theorem gL_s {q : Nat → Bool} : ∀ f u w, gL q f u 0 = some w → u ≤ w ∧ w < u + f ∧ q w = true ∧ ∀ x, u ≤ x → x < w → ¬ q x = true := by
  intro f
  induction f with
  | zero => intro u w h; cases h
  | succ f ih =>
    intro u w h
    simp only [gL] at h
    by_cases hu : q u = true
    · rw [if_pos hu, if_pos trivial] at h
      cases h
      exact ⟨Nat.le_refl _, by omega, hu, fun x h1 h2 => by omega⟩
    · rw [if_neg hu] at h
      obtain ⟨a1, a2, a3, a4⟩ := ih (u + 1) w h
      refine ⟨by omega, by omega, a3, fun x h1 h2 => ?_⟩
      by_cases e : x = u
      · rw [e]; exact hu
      · exact a4 x (by omega) h2
theorem gL_s1 {q : Nat → Bool} : ∀ f u w w0, gL q f u 1 = some w → gL q f u 0 = some w0 → w0 < w ∧ w < u + f ∧ q w = true ∧ ∀ x, u ≤ x → x < w → q x = true → x = w0 := by
  intro f
  induction f with
  | zero => intro u w w0 h; cases h
  | succ f ih =>
    intro u w w0 h h0
    simp only [gL] at h h0
    by_cases hu : q u = true
    · rw [if_pos hu, if_pos trivial] at h0
      rw [if_pos hu, if_neg (by decide)] at h
      cases h0
      obtain ⟨a1, a2, a3, a4⟩ := gL_s _ _ _ h
      refine ⟨by omega, by omega, a3, fun x h1 h2 h3 => ?_⟩
      by_cases e : x = u
      · exact e
      · exact absurd h3 (a4 x (by omega) h2)
    · rw [if_neg hu] at h h0
      obtain ⟨a1, a2, a3, a4⟩ := ih (u + 1) w w0 h h0
      refine ⟨a1, by omega, a3, fun x h1 h2 h3 => ?_⟩
      by_cases e : x = u
      · rw [e] at h3; exact absurd h3 hu
      · exact a4 x (by omega) h2 h3
theorem nth_some (v : Nat) : ∀ j i, i < bf_pr (pC P v) j → ∃ u, nth P v j i = some u := by
  intro j
  induction j with
  | zero =>
    intro i h
    have h0 : i = 0 := by simp only [bf_pr] at h; omega
    exact ⟨0, by simp only [nth]; rw [if_pos h0]⟩
  | succ j ih =>
    intro i h
    simp only [bf_pr] at h
    obtain ⟨u, hu⟩ := ih (i / pC P v j) (by rw [Nat.div_lt_iff_lt_mul (pC_pos P v j)]; exact h)
    exact ⟨_, by simp only [nth]; rw [hu]; rfl⟩
theorem bf_pr_pos {f : Nat → Nat} (h : ∀ k, 1 ≤ f k) : ∀ n, 1 ≤ bf_pr f n := by
  intro n
  induction n with
  | zero => exact Nat.le_refl _
  | succ n ih => simp only [bf_pr]; exact Nat.mul_pos ih (h n)
/-- the reference's search for the nearest -/
def nrC (P : bf_Pn) (v u : Nat) : Nat := if u = v then 99 else pF P u v
def nS (P : bf_Pn) (v : Nat) : Nat → Int32 × Nat
  | 0 => (-9, 99)
  | u + 1 => if nrC P v u < (nS P v u).2 then (nI u, nrC P v u) else nS P v u
/-- w is the nearest of v -/
def isNr (P : bf_Pn) (v w : Nat) : Prop := w < pX P ∧ w ≠ v ∧ ∀ u, u < pX P → u ≠ v → pF P w v < pF P u v ∨ (pF P w v = pF P u v ∧ w ≤ u)
theorem isNr_u {v w w' : Nat} (h : isNr P v w) (h' : isNr P v w') : w = w' := by
  have h1 := h.2.2 w' h'.1 h'.2.1
  have h2 := h'.2.2 w h.1 h.2.1
  omega
theorem bf_sm_le {f : Nat → Nat} {B : Nat} : ∀ n, (∀ k, k < n → f k ≤ B) → bf_sm f n ≤ B * n := by
  intro n
  induction n with
  | zero => intro _; exact Nat.le_refl _
  | succ n ih => intro h; simp only [bf_sm]; have h1 := ih (fun k hk => h k (by omega)); have h2 := h n (by omega); rw [Nat.mul_succ]; omega
theorem pF_le (hv : vP P) (u v : Nat) : pF P u v ≤ 40 := by
  have h := bf_sm_le (f := fun k => bf_pc (pB P k (pG P u k) ^^^ pB P k (pG P v k))) (pN P) (fun k _ => bf_pc_le _)
  have := hv.1
  unfold pF
  omega
theorem nS_inv (hv : vP P) (v : Nat) : ∀ n, n ≤ pX P → (nS P v n = (-9, 99) ∧ ∀ u, u < n → u = v) ∨ ∃ w, w < n ∧ w ≠ v ∧ nS P v n = (nI w, pF P w v) ∧ ∀ u, u < n → u ≠ v → pF P w v < pF P u v ∨ (pF P w v = pF P u v ∧ w ≤ u) := by
  intro n
  induction n with
  | zero => intro _; exact Or.inl ⟨rfl, fun u h => by omega⟩
  | succ n ih =>
    intro hn
    simp only [nS]
    by_cases e : n = v
    · have hc : nrC P v n = 99 := if_pos e
      rcases ih (by omega) with ⟨h1, h2⟩ | ⟨w, h1, h2, h3, h4⟩
      · left
        rw [h1, hc, if_neg (by decide)]
        exact ⟨rfl, fun u hu => by
          by_cases e2 : u = n
          · rw [e2]; exact e
          · exact h2 u (by omega)⟩
      · right
        have h5 := pF_le hv w v
        refine ⟨w, by omega, h2, ?_, fun u hu hne => h4 u (by omega) hne⟩
        rw [h3, hc, if_neg (by show ¬ 99 < pF P w v; omega)]
    · have hc : nrC P v n = pF P n v := if_neg e
      have h5 := pF_le hv n v
      right
      rcases ih (by omega) with ⟨h1, h2⟩ | ⟨w, h1, h2, h3, h4⟩
      · refine ⟨n, by omega, e, ?_, fun u hu hne => ?_⟩
        · rw [h1, hc, if_pos (by show pF P n v < 99; omega)]
        · by_cases e2 : u = n
          · rw [e2]; exact Or.inr ⟨rfl, Nat.le_refl _⟩
          · exact absurd (h2 u (by omega)) hne
      · rw [h3, hc]
        by_cases hlt : pF P n v < pF P w v
        · refine ⟨n, by omega, e, by rw [if_pos hlt], fun u hu hne => ?_⟩
          by_cases e2 : u = n
          · rw [e2]; exact Or.inr ⟨rfl, Nat.le_refl _⟩
          · have := h4 u (by omega) hne; omega
        · refine ⟨w, by omega, h2, by rw [if_neg hlt], fun u hu hne => ?_⟩
          by_cases e2 : u = n
          · rw [e2]; omega
          · exact h4 u (by omega) hne
theorem nS_fin (hv : vP P) (h1 : 1 ≤ pN P) (v : Nat) : ∃ w, isNr P v w ∧ nS P v (pX P) = (nI w, pF P w v) := by
  have hx : 10 ≤ pX P := by
    unfold pX
    have := Nat.pow_le_pow_right (n := 10) (by decide) h1
    omega
  rcases nS_inv hv v (pX P) (Nat.le_refl _) with ⟨-, h⟩ | ⟨w, a1, a2, a3, a4⟩
  · have e0 := h 0 (by omega)
    have e1 := h 1 (by omega)
    omega
  · exact ⟨w, ⟨a1, a2, a4⟩, a3⟩
theorem pF_comm (u v : Nat) : pF P u v = pF P v u := by
  unfold pF
  exact bf_sm_c (fun k _ => by rw [Nat.xor_comm])
theorem pF_self (v : Nat) : pF P v v = 0 := bf_sm_0 (fun k _ => by rw [Nat.xor_self]; rfl)
end
theorem c_X9_which {d : Nat} (hd : 9 ≤ d) {D : bf_D} {P : bf_Pn} (hv : vP P) (hm : mP D P) (v i : Int32) : bf_Cf d mX9_which [.ref 37, .int (v), .int (i)] D (some (.int (ox_which P v i))) D := by
  refine bf_Cf_of 8 hd mo_X9_which (Nat.le_of_ble_eq_true rfl) (fun e he J r => ?_)
  show J 0 [some (.ref 37), some (.int (v)), some (.int (i)), none, none] [] (bf_MD D)
  have hn4 := hv.1
  have hx4 := pX_le hv
  have hx0 := pX_pos P
  refine bf_aload_n r.1 dX9_which_0 rfl ?_
  refine ig_int r (v := nI (pN P)) dX9_which_1 fl_X9_77 rfl (by decide) rfl (mP_n (P := P) hm) ?_
  refine nz_ne r (tgt := 10) dX9_which_4 (by decide) (by omega) (fun c517 => ?_) (fun c517 => ?_)
  · have h1n : 1 ≤ pN P := by omega
    refine bf_aload_n r.1 dX9_which_10 rfl ?_
    refine bf_iload_n r.1 dX9_which_11 rfl ?_
    refine cl_v r (y2 := mX9_noNumber) dX9_which_12 li_X9_185 mv_X9_noNumber rfl (by decide) [.int (v)] [] rfl (Nat.le_of_ble_eq_true rfl) rfl (c_X9_noNumber (by omega) hv hm _) ?_
    show J 15 [some (.ref 37), some (.int (v)), some (.int (i)), none, none] [.int (if ¬ (0 ≤ v ∧ v < nI (pX P)) then 1 else 0)] (bf_MD D)
    refine nb_ne r (tgt := 30) dX9_which_15 (by decide) (fun c518 => ?_) (fun c518 => ?_)
    · have wv := rg_n c518
      refine bf_bipush r.1 (v := -2) dX9_which_30 rfl ?_
      exact rt_i r dX9_which_32 rfl rfl (by simp only [ox_which, if_neg c517, wv, on_n, on_s]) rfl
    · obtain ⟨v0, hv0, rfl⟩ := rg_in (by omega) (Decidable.not_not.mp c518)
      have wv := rg_s hv0 (by omega)
      refine bf_iload_n r.1 dX9_which_18 rfl ?_
      refine bf_i2l r.1 dX9_which_19 ?_
      refine bf_lconst r.1 (v := lN 0) dX9_which_20 rfl ?_
      refine bf_ldc2 r.1 dX9_which_21 lc_X9_191 ?_
      refine eq_l (v := lN 9999) rfl ?_
      refine cl_s r (y2 := mX9_in) dX9_which_24 li_X9_80 mv_X9_in [.long (i.toInt64), .long (lN 0), .long (lN 9999)] [] rfl (Nat.le_of_ble_eq_true rfl) rfl (c_X9_in32 (by omega) D i (h := 9999) (m := 10000) rfl (by decide)) ?_
      show J 27 [some (.ref 37), some (.int (nI v0)), some (.int (i)), none, none] [.int (if 0 ≤ i ∧ i < nI 10000 then 1 else 0)] (bf_MD D)
      refine nb_ne r (tgt := 33) dX9_which_27 (by decide) (fun c519 => ?_) (fun c519 => ?_)
      · obtain ⟨i0, hi0, rfl⟩ := rg_in (by decide) c519
        have wi := rg_s hi0 (by decide)
        refine bf_iload_n r.1 dX9_which_33 rfl ?_
        refine bf_istore_n r.1 (L2 := [some (.ref 37), some (.int (nI v0)), some (.int (nI i0)), some (.int (nI i0)), none]) dX9_which_34 rfl ?_
        refine bf_iconst r.1 (v := nI 0) dX9_which_35 rfl ?_
        refine bf_istore r.1 (L2 := [some (.ref 37), some (.int (nI v0)), some (.int (nI i0)), some (.int (nI i0)), some (.int (nI 0))]) dX9_which_36 rfl ?_
        have hwh : ox_which P (nI v0) (nI i0) = bf_oN (gL (qF P v0) (pX P) 0 i0) := by simp only [ox_which, if_neg c517, wv, wi, on_s]; rw [which_eq hv]
        rw [hwh] at r
        have loop : ∀ (f u a : Nat), u + f = pX P → a < 2 ^ 31 → bf_oN (gL (qF P v0) f u a) = bf_oN (gL (qF P v0) (pX P) 0 i0) → J 38 [some (.ref 37), some (.int (nI v0)), some (.int (nI i0)), some (.int (nI a)), some (.int (nI u))] [] (bf_MD D) := by
          intro f
          induction f with
          | zero =>
            intro u a hs0 hs1 he
            refine bf_iload r.1 dX9_which_38 rfl ?_
            refine bf_aload_n r.1 dX9_which_40 rfl ?_
            refine cl_v r (y2 := mX9_last) dX9_which_41 li_X9_181 mv_X9_last rfl (by decide) [] [.int (nI u)] rfl (Nat.le_of_ble_eq_true rfl) rfl (c_X9_last (by omega) hv hm) ?_
            show J 44 [some (.ref 37), some (.int (nI v0)), some (.int (nI i0)), some (.int (nI a)), some (.int (nI u))] [.int (nI (pX P - 1)), .int (nI u)] (bf_MD D)
            refine nc_gt r (tgt := 73) dX9_which_44 (by decide) (by omega) (by omega) (fun c520 => ?_) (fun c520 => ?_)
            · refine bf_bipush r.1 (v := -9) dX9_which_73 rfl ?_
              exact rt_i r dX9_which_75 rfl rfl (by rw [← he]; rfl) rfl
            · exact absurd c520 (by omega)
          | succ f ih =>
            intro u a hs0 hs1 he
            refine bf_iload r.1 dX9_which_38 rfl ?_
            refine bf_aload_n r.1 dX9_which_40 rfl ?_
            refine cl_v r (y2 := mX9_last) dX9_which_41 li_X9_181 mv_X9_last rfl (by decide) [] [.int (nI u)] rfl (Nat.le_of_ble_eq_true rfl) rfl (c_X9_last (by omega) hv hm) ?_
            show J 44 [some (.ref 37), some (.int (nI v0)), some (.int (nI i0)), some (.int (nI a)), some (.int (nI u))] [.int (nI (pX P - 1)), .int (nI u)] (bf_MD D)
            refine nc_gt r (tgt := 73) dX9_which_44 (by decide) (by omega) (by omega) (fun c521 => ?_) (fun c521 => ?_)
            · exact absurd c521 (by omega)
            · refine bf_aload_n r.1 dX9_which_47 rfl ?_
              refine bf_iload r.1 dX9_which_48 rfl ?_
              refine bf_iload_n r.1 dX9_which_50 rfl ?_
              refine cl_v r (y2 := mX9_flipsOf) dX9_which_51 li_X9_193 mv_X9_flipsOf rfl (by decide) [.int (nI u), .int (nI v0)] [] rfl (Nat.le_of_ble_eq_true rfl) rfl (c_X9_flipsOf (by omega) hv hm (by omega) (by omega)) ?_
              show J 54 [some (.ref 37), some (.int (nI v0)), some (.int (nI i0)), some (.int (nI a)), some (.int (nI u))] [.int (nI (pF P u v0))] (bf_MD D)
              refine nz_ne r (tgt := 67) dX9_which_54 (by decide) (by have := pF_le hv u v0; omega) (fun c522 => ?_) (fun c522 => ?_)
              · refine na_inc r (v := u + 1) (L2 := [some (.ref 37), some (.int (nI v0)), some (.int (nI i0)), some (.int (nI a)), some (.int (nI (u + 1)))]) dX9_which_67 rfl (nI_add _ 1) rfl ?_
                refine bf_goto r.1 (tgt := 38) dX9_which_70 (by decide) ?_
                exact ih _ _ (by omega) hs1 (by rw [← he]; simp only [gL]; rw [if_neg (show ¬ qF P v0 u = true from fun q => c522 (of_decide_eq_true q))])
              · refine bf_iload_n r.1 dX9_which_57 rfl ?_
                refine nz_ne r (tgt := 64) dX9_which_58 (by decide) hs1 (fun c523 => ?_) (fun c523 => ?_)
                · refine na_inc r (v := a - 1) (L2 := [some (.ref 37), some (.int (nI v0)), some (.int (nI i0)), some (.int (nI (a - 1))), some (.int (nI u))]) dX9_which_64 rfl (bf_dec (by omega)) rfl ?_
                  refine na_inc r (v := u + 1) (L2 := [some (.ref 37), some (.int (nI v0)), some (.int (nI i0)), some (.int (nI (a - 1))), some (.int (nI (u + 1)))]) dX9_which_67 rfl (nI_add _ 1) rfl ?_
                  refine bf_goto r.1 (tgt := 38) dX9_which_70 (by decide) ?_
                  exact ih _ _ (by omega) (by omega) (by rw [← he]; simp only [gL]; rw [if_pos (show qF P v0 u = true from decide_eq_true c522), if_neg c523])
                · refine bf_iload r.1 dX9_which_61 rfl ?_
                  exact rt_i r dX9_which_63 rfl rfl (by rw [← he]; simp only [gL]; rw [if_pos (show qF P v0 u = true from decide_eq_true c522), if_pos c523]; rfl) rfl
        exact loop (pX P) 0 i0 (by omega) (by omega) rfl
      · have wi := rg_n c519
        refine bf_bipush r.1 (v := -2) dX9_which_30 rfl ?_
        exact rt_i r dX9_which_32 rfl rfl (by simp only [ox_which, if_neg c517, wv, wi, on_n, on_s]) rfl
  · refine bf_bipush r.1 (v := -3) dX9_which_7 rfl ?_
    exact rt_i r dX9_which_9 rfl rfl (by simp only [ox_which, if_pos c517, on_n, on_s]) rfl
def ox_near (P : bf_Pn) (v wh : Int32) : Int32 := if pN P = 0 then -3 else bf_on (bf_rg v (pX P)) (-2) fun v => bf_on (bf_rg wh 2) (-2) fun wh => if wh = 0 then nI (nS P v (pX P)).2 else (nS P v (pX P)).1
theorem nS_99 (P : bf_Pn) (v : Nat) : ∀ n, (nS P v n).2 ≤ 99 := by
  intro n
  induction n with
  | zero => exact Nat.le_refl _
  | succ n ih =>
    simp only [nS]
    split
    · show nrC P v n ≤ 99; omega
    · exact ih
theorem c_X9_near {d : Nat} (hd : 9 ≤ d) {D : bf_D} {P : bf_Pn} (hv : vP P) (hm : mP D P) (v wh : Int32) : bf_Cf d mX9_near [.ref 37, .int (v), .int (wh)] D (some (.int (ox_near P v wh))) D := by
  refine bf_Cf_of 8 hd mo_X9_near (Nat.le_of_ble_eq_true rfl) (fun e he J r => ?_)
  show J 0 [some (.ref 37), some (.int (v)), some (.int (wh)), none, none, none, none] [] (bf_MD D)
  have hn4 := hv.1
  have hx4 := pX_le hv
  have hx0 := pX_pos P
  refine bf_aload_n r.1 dX9_near_0 rfl ?_
  refine ig_int r (v := nI (pN P)) dX9_near_1 fl_X9_77 rfl (by decide) rfl (mP_n (P := P) hm) ?_
  refine nz_ne r (tgt := 10) dX9_near_4 (by decide) (by omega) (fun c524 => ?_) (fun c524 => ?_)
  · have h1n : 1 ≤ pN P := by omega
    refine bf_aload_n r.1 dX9_near_10 rfl ?_
    refine bf_iload_n r.1 dX9_near_11 rfl ?_
    refine cl_v r (y2 := mX9_noNumber) dX9_near_12 li_X9_185 mv_X9_noNumber rfl (by decide) [.int (v)] [] rfl (Nat.le_of_ble_eq_true rfl) rfl (c_X9_noNumber (by omega) hv hm _) ?_
    show J 15 [some (.ref 37), some (.int (v)), some (.int (wh)), none, none, none, none] [.int (if ¬ (0 ≤ v ∧ v < nI (pX P)) then 1 else 0)] (bf_MD D)
    refine nb_ne r (tgt := 28) dX9_near_15 (by decide) (fun c525 => ?_) (fun c525 => ?_)
    · have wv := rg_n c525
      refine bf_bipush r.1 (v := -2) dX9_near_28 rfl ?_
      exact rt_i r dX9_near_30 rfl rfl (by simp only [ox_near, if_neg c524, wv, on_n, on_s]) rfl
    · obtain ⟨v0, hv0, rfl⟩ := rg_in (by omega) (Decidable.not_not.mp c525)
      have wv := rg_s hv0 (by omega)
      refine bf_iload_n r.1 dX9_near_18 rfl ?_
      refine bf_i2l r.1 dX9_near_19 ?_
      refine bf_lconst r.1 (v := lN 0) dX9_near_20 rfl ?_
      refine bf_lconst r.1 (v := lN 1) dX9_near_21 rfl ?_
      refine cl_s r (y2 := mX9_in) dX9_near_22 li_X9_80 mv_X9_in [.long (wh.toInt64), .long (lN 0), .long (lN 1)] [] rfl (Nat.le_of_ble_eq_true rfl) rfl (c_X9_in32 (by omega) D wh (h := 1) (m := 2) rfl (by decide)) ?_
      show J 25 [some (.ref 37), some (.int (nI v0)), some (.int (wh)), none, none, none, none] [.int (if 0 ≤ wh ∧ wh < nI 2 then 1 else 0)] (bf_MD D)
      refine nb_ne r (tgt := 31) dX9_near_25 (by decide) (fun c526 => ?_) (fun c526 => ?_)
      · obtain ⟨wh0, hwh0, rfl⟩ := rg_in (by decide) c526
        have wwh := rg_s hwh0 (by decide)
        refine bf_bipush r.1 (v := -9) dX9_near_31 rfl ?_
        refine bf_istore_n r.1 (L2 := [some (.ref 37), some (.int (nI v0)), some (.int (nI wh0)), some (.int (-9)), none, none, none]) dX9_near_33 rfl ?_
        refine bf_bipush r.1 (v := nI 99) dX9_near_34 rfl ?_
        refine bf_istore r.1 (L2 := [some (.ref 37), some (.int (nI v0)), some (.int (nI wh0)), some (.int (-9)), some (.int (nI 99)), none, none]) dX9_near_36 rfl ?_
        refine bf_iconst r.1 (v := nI 0) dX9_near_38 rfl ?_
        refine bf_istore r.1 (L2 := [some (.ref 37), some (.int (nI v0)), some (.int (nI wh0)), some (.int (-9)), some (.int (nI 99)), some (.int (nI 0)), none]) dX9_near_39 rfl ?_
        have loop : ∀ u : Nat, u ≤ (pX P) → J 41 [some (.ref 37), some (.int (nI v0)), some (.int (nI wh0)), some (.int ((nS P v0 u).1)), some (.int (nI ((nS P v0 u).2))), some (.int (nI u)), none] [] (bf_MD D) := by
          refine bf_down (fun u hle ih => ?_)
          have h99 := nS_99 P v0 u
          have h40 := pF_le hv u v0
          refine bf_iload r.1 dX9_near_41 rfl ?_
          refine bf_aload_n r.1 dX9_near_43 rfl ?_
          refine cl_v r (y2 := mX9_last) dX9_near_44 li_X9_181 mv_X9_last rfl (by decide) [] [.int (nI u)] rfl (Nat.le_of_ble_eq_true rfl) rfl (c_X9_last (by omega) hv hm) ?_
          show J 47 [some (.ref 37), some (.int (nI v0)), some (.int (nI wh0)), some (.int ((nS P v0 u).1)), some (.int (nI ((nS P v0 u).2))), some (.int (nI u)), none] [.int (nI (pX P - 1)), .int (nI u)] (bf_MD D)
          refine nc_gt r (tgt := 106) dX9_near_47 (by decide) (by omega) (by omega) (fun c527 => ?_) (fun c527 => ?_)
          · have eu : u = pX P := by omega
            subst eu
            refine bf_iload_n r.1 dX9_near_106 rfl ?_
            refine nz_ne r (tgt := 115) dX9_near_107 (by decide) (by omega) (fun c528 => ?_) (fun c528 => ?_)
            · refine bf_iload_n r.1 dX9_near_115 rfl ?_
              exact rt_i r dX9_near_116 rfl rfl (by simp only [ox_near, if_neg c524, wv, wwh, if_neg c528, on_n, on_s]) rfl
            · refine bf_iload r.1 dX9_near_110 rfl ?_
              refine bf_goto r.1 (tgt := 116) dX9_near_112 (by decide) ?_
              exact rt_i r dX9_near_116 rfl rfl (by simp only [ox_near, if_neg c524, wv, wwh, if_pos c528, on_n, on_s]) rfl
          · refine bf_iload r.1 dX9_near_50 rfl ?_
            refine bf_iload_n r.1 dX9_near_52 rfl ?_
            refine nc_ne r (tgt := 61) dX9_near_53 (by decide) (by omega) (by omega) (fun c529 => ?_) (fun c529 => ?_)
            · refine bf_aload_n r.1 dX9_near_61 rfl ?_
              refine bf_iload r.1 dX9_near_62 rfl ?_
              refine bf_iload_n r.1 dX9_near_64 rfl ?_
              refine cl_v r (y2 := mX9_flipsOf) dX9_near_65 li_X9_193 mv_X9_flipsOf rfl (by decide) [.int (nI u), .int (nI v0)] [] rfl (Nat.le_of_ble_eq_true rfl) rfl (c_X9_flipsOf (by omega) hv hm (by omega) (by omega)) ?_
              show J 68 [some (.ref 37), some (.int (nI v0)), some (.int (nI wh0)), some (.int ((nS P v0 u).1)), some (.int (nI ((nS P v0 u).2))), some (.int (nI u)), none] [.int (nI (pF P u v0))] (bf_MD D)
              have hcv : nrC P v0 u = pF P u v0 := if_neg c529
              have hc31 : nrC P v0 u < 2 ^ 31 := by omega
              refine eq_i (v := nI (nrC P v0 u)) (congrArg nI hcv.symm) ?_
              refine bf_istore r.1 (L2 := [some (.ref 37), some (.int (nI v0)), some (.int (nI wh0)), some (.int ((nS P v0 u).1)), some (.int (nI ((nS P v0 u).2))), some (.int (nI u)), some (.int (nI (nrC P v0 u)))]) dX9_near_68 rfl ?_
              refine bf_iload r.1 dX9_near_70 rfl ?_
              refine bf_iload r.1 dX9_near_72 rfl ?_
              refine nc_ge r (tgt := 82) dX9_near_74 (by decide) hc31 (by omega) (fun c530 => ?_) (fun c530 => ?_)
              · refine bf_iload_n r.1 dX9_near_82 rfl ?_
                refine bf_istore_n r.1 (L2 := [some (.ref 37), some (.int (nI v0)), some (.int (nI wh0)), some (.int ((nS P v0 u).1)), some (.int (nI ((nS P v0 u).2))), some (.int (nI u)), some (.int (nI (nrC P v0 u)))]) dX9_near_83 rfl ?_
                refine bf_iload r.1 dX9_near_84 rfl ?_
                refine bf_iload r.1 dX9_near_86 rfl ?_
                refine nc_ge r (tgt := 96) dX9_near_88 (by decide) hc31 (by omega) (fun c531 => ?_) (fun c531 => ?_)
                · refine bf_iload r.1 dX9_near_96 rfl ?_
                  refine bf_istore r.1 (L2 := [some (.ref 37), some (.int (nI v0)), some (.int (nI wh0)), some (.int ((nS P v0 u).1)), some (.int (nI ((nS P v0 u).2))), some (.int (nI u)), some (.int (nI (nrC P v0 u)))]) dX9_near_98 rfl ?_
                  refine na_inc r (v := u + 1) (L2 := [some (.ref 37), some (.int (nI v0)), some (.int (nI wh0)), some (.int ((nS P v0 u).1)), some (.int (nI ((nS P v0 u).2))), some (.int (nI (u + 1))), some (.int (nI (nrC P v0 u)))]) dX9_near_100 rfl (nI_add _ 1) rfl ?_
                  refine bf_goto r.1 (tgt := 41) dX9_near_103 (by decide) ?_
                  refine bf_fgt r.1 (i := 6) (L2 := [some (.ref 37), some (.int (nI v0)), some (.int (nI wh0)), some (.int ((nS P v0 u).1)), some (.int (nI ((nS P v0 u).2))), some (.int (nI (u + 1))), none]) rfl ?_
                  have hi := ih (by omega)
                  rw [show nS P v0 (u + 1) = nS P v0 u from if_neg (Nat.not_lt.mpr c530)] at hi
                  exact hi
                · exact absurd c531 (Nat.not_lt.mpr c530)
              · refine bf_iload r.1 dX9_near_77 rfl ?_
                refine bf_goto r.1 (tgt := 83) dX9_near_79 (by decide) ?_
                refine bf_istore_n r.1 (L2 := [some (.ref 37), some (.int (nI v0)), some (.int (nI wh0)), some (.int (nI u)), some (.int (nI ((nS P v0 u).2))), some (.int (nI u)), some (.int (nI (nrC P v0 u)))]) dX9_near_83 rfl ?_
                refine bf_iload r.1 dX9_near_84 rfl ?_
                refine bf_iload r.1 dX9_near_86 rfl ?_
                refine nc_ge r (tgt := 96) dX9_near_88 (by decide) hc31 (by omega) (fun c532 => ?_) (fun c532 => ?_)
                · exact absurd c530 (Nat.not_lt.mpr c532)
                · refine bf_iload r.1 dX9_near_91 rfl ?_
                  refine bf_goto r.1 (tgt := 98) dX9_near_93 (by decide) ?_
                  refine bf_istore r.1 (L2 := [some (.ref 37), some (.int (nI v0)), some (.int (nI wh0)), some (.int (nI u)), some (.int (nI (nrC P v0 u))), some (.int (nI u)), some (.int (nI (nrC P v0 u)))]) dX9_near_98 rfl ?_
                  refine na_inc r (v := u + 1) (L2 := [some (.ref 37), some (.int (nI v0)), some (.int (nI wh0)), some (.int (nI u)), some (.int (nI (nrC P v0 u))), some (.int (nI (u + 1))), some (.int (nI (nrC P v0 u)))]) dX9_near_100 rfl (nI_add _ 1) rfl ?_
                  refine bf_goto r.1 (tgt := 41) dX9_near_103 (by decide) ?_
                  refine bf_fgt r.1 (i := 6) (L2 := [some (.ref 37), some (.int (nI v0)), some (.int (nI wh0)), some (.int (nI u)), some (.int (nI (nrC P v0 u))), some (.int (nI (u + 1))), none]) rfl ?_
                  have hi := ih (by omega)
                  rw [show nS P v0 (u + 1) = (nI u, nrC P v0 u) from if_pos c530] at hi
                  exact hi
            · refine bf_bipush r.1 (v := nI 99) dX9_near_56 rfl ?_
              refine bf_goto r.1 (tgt := 68) dX9_near_58 (by decide) ?_
              have hcv : nrC P v0 u = 99 := if_pos c529
              have hc31 : nrC P v0 u < 2 ^ 31 := by omega
              refine eq_i (v := nI (nrC P v0 u)) (congrArg nI hcv.symm) ?_
              refine bf_istore r.1 (L2 := [some (.ref 37), some (.int (nI v0)), some (.int (nI wh0)), some (.int ((nS P v0 u).1)), some (.int (nI ((nS P v0 u).2))), some (.int (nI u)), some (.int (nI (nrC P v0 u)))]) dX9_near_68 rfl ?_
              refine bf_iload r.1 dX9_near_70 rfl ?_
              refine bf_iload r.1 dX9_near_72 rfl ?_
              refine nc_ge r (tgt := 82) dX9_near_74 (by decide) hc31 (by omega) (fun c533 => ?_) (fun c533 => ?_)
              · refine bf_iload_n r.1 dX9_near_82 rfl ?_
                refine bf_istore_n r.1 (L2 := [some (.ref 37), some (.int (nI v0)), some (.int (nI wh0)), some (.int ((nS P v0 u).1)), some (.int (nI ((nS P v0 u).2))), some (.int (nI u)), some (.int (nI (nrC P v0 u)))]) dX9_near_83 rfl ?_
                refine bf_iload r.1 dX9_near_84 rfl ?_
                refine bf_iload r.1 dX9_near_86 rfl ?_
                refine nc_ge r (tgt := 96) dX9_near_88 (by decide) hc31 (by omega) (fun c534 => ?_) (fun c534 => ?_)
                · refine bf_iload r.1 dX9_near_96 rfl ?_
                  refine bf_istore r.1 (L2 := [some (.ref 37), some (.int (nI v0)), some (.int (nI wh0)), some (.int ((nS P v0 u).1)), some (.int (nI ((nS P v0 u).2))), some (.int (nI u)), some (.int (nI (nrC P v0 u)))]) dX9_near_98 rfl ?_
                  refine na_inc r (v := u + 1) (L2 := [some (.ref 37), some (.int (nI v0)), some (.int (nI wh0)), some (.int ((nS P v0 u).1)), some (.int (nI ((nS P v0 u).2))), some (.int (nI (u + 1))), some (.int (nI (nrC P v0 u)))]) dX9_near_100 rfl (nI_add _ 1) rfl ?_
                  refine bf_goto r.1 (tgt := 41) dX9_near_103 (by decide) ?_
                  refine bf_fgt r.1 (i := 6) (L2 := [some (.ref 37), some (.int (nI v0)), some (.int (nI wh0)), some (.int ((nS P v0 u).1)), some (.int (nI ((nS P v0 u).2))), some (.int (nI (u + 1))), none]) rfl ?_
                  have hi := ih (by omega)
                  rw [show nS P v0 (u + 1) = nS P v0 u from if_neg (Nat.not_lt.mpr c533)] at hi
                  exact hi
                · exact absurd c534 (Nat.not_lt.mpr c533)
              · refine bf_iload r.1 dX9_near_77 rfl ?_
                refine bf_goto r.1 (tgt := 83) dX9_near_79 (by decide) ?_
                refine bf_istore_n r.1 (L2 := [some (.ref 37), some (.int (nI v0)), some (.int (nI wh0)), some (.int (nI u)), some (.int (nI ((nS P v0 u).2))), some (.int (nI u)), some (.int (nI (nrC P v0 u)))]) dX9_near_83 rfl ?_
                refine bf_iload r.1 dX9_near_84 rfl ?_
                refine bf_iload r.1 dX9_near_86 rfl ?_
                refine nc_ge r (tgt := 96) dX9_near_88 (by decide) hc31 (by omega) (fun c535 => ?_) (fun c535 => ?_)
                · exact absurd c533 (Nat.not_lt.mpr c535)
                · refine bf_iload r.1 dX9_near_91 rfl ?_
                  refine bf_goto r.1 (tgt := 98) dX9_near_93 (by decide) ?_
                  refine bf_istore r.1 (L2 := [some (.ref 37), some (.int (nI v0)), some (.int (nI wh0)), some (.int (nI u)), some (.int (nI (nrC P v0 u))), some (.int (nI u)), some (.int (nI (nrC P v0 u)))]) dX9_near_98 rfl ?_
                  refine na_inc r (v := u + 1) (L2 := [some (.ref 37), some (.int (nI v0)), some (.int (nI wh0)), some (.int (nI u)), some (.int (nI (nrC P v0 u))), some (.int (nI (u + 1))), some (.int (nI (nrC P v0 u)))]) dX9_near_100 rfl (nI_add _ 1) rfl ?_
                  refine bf_goto r.1 (tgt := 41) dX9_near_103 (by decide) ?_
                  refine bf_fgt r.1 (i := 6) (L2 := [some (.ref 37), some (.int (nI v0)), some (.int (nI wh0)), some (.int (nI u)), some (.int (nI (nrC P v0 u))), some (.int (nI (u + 1))), none]) rfl ?_
                  have hi := ih (by omega)
                  rw [show nS P v0 (u + 1) = (nI u, nrC P v0 u) from if_pos c533] at hi
                  exact hi
        exact loop 0 (by omega) 
      · have wwh := rg_n c526
        refine bf_bipush r.1 (v := -2) dX9_near_28 rfl ?_
        exact rt_i r dX9_near_30 rfl rfl (by simp only [ox_near, if_neg c524, wv, wwh, on_n, on_s]) rfl
  · refine bf_bipush r.1 (v := -3) dX9_near_7 rfl ?_
    exact rt_i r dX9_near_9 rfl rfl (by simp only [ox_near, if_pos c524, on_n, on_s]) rfl
