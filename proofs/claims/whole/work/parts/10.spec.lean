/-! ===== pure words ===== -/
theorem bf_down {P : Nat → Prop} {n : Nat} (h : ∀ k, k ≤ n → (k < n → P (k + 1)) → P k) : ∀ k, k ≤ n → P k := by
  have key : ∀ f k, k ≤ n → n ≤ k + f → P k := by
    intro f
    induction f with
    | zero => intro k h1 h2; exact h k h1 (fun h3 => absurd h3 (by omega))
    | succ f ih => intro k h1 h2; exact h k h1 (fun h3 => ih (k + 1) h3 (by omega))
  exact fun k hk => key (n - k) k hk (by omega)
def bf_sm (f : Nat → Nat) : Nat → Nat
  | 0 => 0
  | n + 1 => bf_sm f n + f n
def bf_pr (f : Nat → Nat) : Nat → Nat
  | 0 => 1
  | n + 1 => bf_pr f n * f n
def bf_fd (D : bf_D) (a : Nat) (f : Nat → Int32) : Nat → bf_D
  | 0 => D
  | n + 1 => bf_u (bf_fd D a f n) a n (f n)
theorem bf_fd_in {D : bf_D} {a : Nat} {f : Nat → Int32} : ∀ {n j : Nat}, j < n → bf_fd D a f n a j = f j := by
  intro n
  induction n with
  | zero => intro j h; omega
  | succ n ih =>
    intro j h
    by_cases e : j = n
    · subst e; exact bf_us
    · show bf_u _ _ _ _ _ _ = _
      rw [bf_un (Or.inr e)]
      exact ih (by omega)
theorem bf_fd_out {D : bf_D} {a : Nat} {f : Nat → Int32} : ∀ {n b j : Nat}, (b ≠ a ∨ n ≤ j) → bf_fd D a f n b j = D b j := by
  intro n
  induction n with
  | zero => intro b j _; rfl
  | succ n ih =>
    intro b j h
    show bf_u _ _ _ _ _ _ = _
    rw [bf_un (by omega)]
    exact ih (by omega)
def bf_pcF : Nat → Nat → Nat
  | 0, _ => 0
  | f + 1, x => x % 2 + bf_pcF f (x / 2)
/-- how many of the ten low bits are set -/
def bf_pc (x : Nat) : Nat := bf_pcF 10 x
theorem bf_pcF_le : ∀ (f x : Nat), bf_pcF f x ≤ f := by
  intro f
  induction f with
  | zero => intro x; exact Nat.le_refl _
  | succ f ih => intro x; have := ih (x / 2); simp only [bf_pcF]; omega
theorem bf_pc_le (x : Nat) : bf_pc x ≤ 10 := bf_pcF_le 10 x
theorem bf_pcF_0 : ∀ (f : Nat), bf_pcF f 0 = 0 := by
  intro f
  induction f with
  | zero => rfl
  | succ f ih => simp only [bf_pcF]; rw [Nat.zero_div, ih]
def bf_lkL : List Nat := [63, 6, 91, 79, 102, 109, 125, 7, 127, 111, 63, 48, 109, 121, 114, 91, 95, 49, 127, 123, 63, 48, 91, 121, 116, 109, 111, 56, 127, 125]
def bf_lk (i : Nat) : Nat := bf_lkL.getD i 0
theorem bf_lk_lt (i : Nat) : bf_lk i < 128 := by
  by_cases h : i < 30
  · have key : ∀ i, i < 30 → bf_lk i < 128 := by decide +kernel
    exact key i h
  · unfold bf_lk
    rw [List.getD_eq_getElem?_getD, List.getElem?_eq_none (by show 30 ≤ i; omega)]
    decide
/-- what burns for a digit at a place of a kind with dead and stuck bars -/
def bf_bn (kd dd st d : Nat) : Nat := (bf_lk (kd * 10 + d) &&& (127 ^^^ dd)) ||| st
theorem bf_bn_lt {kd dd st d : Nat} (hs : st < 128) : bf_bn kd dd st d < 128 := by
  unfold bf_bn
  exact Nat.or_lt_two_pow (n := 7) (Nat.lt_of_le_of_lt Nat.and_le_left (bf_lk_lt _)) hs
theorem bf_xor_lt {a b : Nat} (ha : a < 128) (hb : b < 128) : a ^^^ b < 128 := Nat.xor_lt_two_pow (n := 7) ha hb
/-- x and not y, as the machine has it -/
theorem bf_nand {x y : Nat} (hx : x < 128) (hy : y < 128) : nI x &&& (nI y ^^^ (-1)) = nI (x &&& (127 ^^^ y)) := by
  apply Int32.toBitVec_inj.mp
  show BitVec.ofNat 32 x &&& (BitVec.ofNat 32 y ^^^ (-1 : Int32).toBitVec) = BitVec.ofNat 32 (x &&& (127 ^^^ y))
  have h1 : (-1 : Int32).toBitVec = BitVec.allOnes 32 := by decide
  rw [h1]
  apply BitVec.eq_of_getLsbD_eq
  intro i hi
  simp only [BitVec.getLsbD_and, BitVec.getLsbD_xor, BitVec.getLsbD_allOnes, BitVec.getLsbD_ofNat, Nat.testBit_and, Nat.testBit_xor, hi, decide_true, Bool.true_and]
  by_cases h7 : i < 7
  · have : Nat.testBit 127 i = true := by
      have key : ∀ i, i < 7 → Nat.testBit 127 i = true := by decide
      exact key i h7
    rw [this]
    cases x.testBit i <;> cases y.testBit i <;> rfl
  · have hx2 : x.testBit i = false := Nat.testBit_lt_two_pow (Nat.lt_of_lt_of_le hx (by have := Nat.pow_le_pow_right (n := 2) (by decide) (show 7 ≤ i by omega); simpa using this))
    simp [hx2]
/-- a digit of a number -/
def bf_dg (n u k : Nat) : Nat := u / 10 ^ (n - 1 - k) % 10
theorem bf_dg_lt (n u k : Nat) : bf_dg n u k < 10 := Nat.mod_lt _ (by decide)
theorem bf_dec {x v : Nat} (h : x = v + 1) : nI x + Int32.ofInt (-1) = nI v := by rw [h]; exact pk_m1 v
/-! ===== the panel: how many places, life, the number shown; kinds, dead, stuck, wear ===== -/
abbrev bf_Pn : Type := Nat × Nat × Nat × (Nat → Nat) × (Nat → Nat) × (Nat → Nat) × (Nat → Nat → Nat)
def pN (P : bf_Pn) : Nat := P.1
def pL (P : bf_Pn) : Nat := P.2.1
def pS (P : bf_Pn) : Nat := P.2.2.1
def pK (P : bf_Pn) (k : Nat) : Nat := P.2.2.2.1 k
def pD (P : bf_Pn) (k : Nat) : Nat := P.2.2.2.2.1 k
def pT (P : bf_Pn) (k : Nat) : Nat := P.2.2.2.2.2.1 k
def pW (P : bf_Pn) (k b : Nat) : Nat := P.2.2.2.2.2.2 k b
def pX (P : bf_Pn) : Nat := 10 ^ pN P
def pB (P : bf_Pn) (k d : Nat) : Nat := bf_bn (pK P k) (pD P k) (pT P k) d
def pG (P : bf_Pn) (u k : Nat) : Nat := bf_dg (pN P) u k
theorem pG_lt (P : bf_Pn) (u k : Nat) : pG P u k < 10 := bf_dg_lt _ _ _
def vP (P : bf_Pn) : Prop := pN P ≤ 4 ∧ pL P ≤ 99 ∧ (pN P = 0 ∨ 1 ≤ pL P) ∧ pS P < pX P ∧ ∀ k, k < pN P → pK P k < 3 ∧ pD P k < 128 ∧ pT P k < 128 ∧ ∀ b, b < 7 → pW P k b ≤ pL P ∧ ((pD P k).testBit b = false → pW P k b < pL P)
def cP (D : bf_D) (P : bf_Pn) : Prop := (D 2 1 = nI (pN P) ∧ D 2 2 = nI (pL P) ∧ D 2 3 = nI (pS P) ∧ D 2 4 = nI (pX P - 1)) ∧ (∀ k, k < pN P → D (6 + 3 * k) 3 = nI (pK P k) ∧ D (6 + 3 * k) 4 = nI (pD P k) ∧ D (6 + 3 * k) 5 = nI (pT P k) ∧ (∀ d, d < 10 → D (7 + 3 * k) d = nI (pB P k d)) ∧ ∀ b, b < 7 → D (8 + 3 * k) b = nI (pW P k b)) ∧ ∀ i, i < 30 → D 5 i = nI (bf_lk i)
def mP (D : bf_D) (P : bf_Pn) : Prop := (D 37 1 = nI (pN P) ∧ D 37 2 = nI (pL P) ∧ D 37 3 = nI (pS P)) ∧ ∀ k, k < pN P → D 38 k = nI (pK P k) ∧ D 39 k = nI (pD P k) ∧ D 40 k = nI (pT P k) ∧ ∀ b, b < 7 → D 41 (7 * k + b) = nI (pW P k b)
theorem pX_le {P : bf_Pn} (hv : vP P) : pX P ≤ 10000 := by
  unfold pX
  exact Nat.pow_le_pow_right (n := 10) (by decide) hv.1
theorem pX_pos (P : bf_Pn) : 0 < pX P := Nat.pow_pos (by decide)
theorem pB_lt {P : bf_Pn} (hv : vP P) {k : Nat} (hk : k < pN P) (d : Nat) : pB P k d < 128 := bf_bn_lt (hv.2.2.2.2 k hk).2.2.1
section bfcP
variable {D : bf_D} {P : bf_Pn} {k : Nat}
theorem cP_n (h : cP D P) : D 2 1 = nI (pN P) := h.1.1
theorem cP_l (h : cP D P) : D 2 2 = nI (pL P) := h.1.2.1
theorem cP_s (h : cP D P) : D 2 3 = nI (pS P) := h.1.2.2.1
theorem cP_x (h : cP D P) : D 2 4 = nI (pX P - 1) := h.1.2.2.2
theorem cP_k (h : cP D P) (hk : k < pN P) : D (6 + 3 * k) 3 = nI (pK P k) := (h.2.1 k hk).1
theorem cP_d (h : cP D P) (hk : k < pN P) : D (6 + 3 * k) 4 = nI (pD P k) := (h.2.1 k hk).2.1
theorem cP_t (h : cP D P) (hk : k < pN P) : D (6 + 3 * k) 5 = nI (pT P k) := (h.2.1 k hk).2.2.1
theorem cP_b (h : cP D P) (hk : k < pN P) {d : Nat} (hd : d < 10) : D (7 + 3 * k) d = nI (pB P k d) := (h.2.1 k hk).2.2.2.1 d hd
theorem cP_w (h : cP D P) (hk : k < pN P) {b : Nat} (hb : b < 7) : D (8 + 3 * k) b = nI (pW P k b) := (h.2.1 k hk).2.2.2.2 b hb
theorem cP_lk (h : cP D P) {i : Nat} (hi : i < 30) : D 5 i = nI (bf_lk i) := h.2.2 i hi
theorem mP_n (h : mP D P) : D 37 1 = nI (pN P) := h.1.1
theorem mP_l (h : mP D P) : D 37 2 = nI (pL P) := h.1.2.1
theorem mP_s (h : mP D P) : D 37 3 = nI (pS P) := h.1.2.2
theorem mP_k (h : mP D P) (hk : k < pN P) : D 38 k = nI (pK P k) := (h.2 k hk).1
theorem mP_d (h : mP D P) (hk : k < pN P) : D 39 k = nI (pD P k) := (h.2 k hk).2.1
theorem mP_t (h : mP D P) (hk : k < pN P) : D 40 k = nI (pT P k) := (h.2 k hk).2.2.1
theorem mP_w (h : mP D P) (hk : k < pN P) {b : Nat} (hb : b < 7) : D 41 (7 * k + b) = nI (pW P k b) := (h.2 k hk).2.2.2 b hb
end bfcP
