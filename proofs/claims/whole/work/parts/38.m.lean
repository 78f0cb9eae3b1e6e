/-! a step, place by place -/
theorem pn_ext {P Q : bf_Pn} (h1 : pN P = pN Q) (h2 : pL P = pL Q) (h3 : pS P = pS Q) (h4 : ∀ i, pK P i = pK Q i) (h5 : ∀ i, pD P i = pD Q i) (h6 : ∀ i, pT P i = pT Q i) (h7 : ∀ i b, pW P i b = pW Q i b) : P = Q := by
  obtain ⟨a1, a2, a3, a4, a5, a6, a7⟩ := P
  obtain ⟨b1, b2, b3, b4, b5, b6, b7⟩ := Q
  rw [show a1 = b1 from h1, show a2 = b2 from h2, show a3 = b3 from h3, show a4 = b4 from funext h4, show a5 = b5 from funext h5, show a6 = b6 from funext h6, show a7 = b7 from funext fun i => funext fun b => h7 i b]
def bf_wn (fl : Nat) (wf : Nat → Nat) (b : Nat) : Nat := if fl / 2 ^ b &&& 1 = 0 then wf b else wf b + 1
/-- all places below n flip -/
def pAll (P : bf_Pn) (f : Nat → Nat) (n : Nat) : bf_Pn := (pN P, pL P, pS P, pK P, (fun i => if i < n then bf_wd (f i) (pL P) (pW P i) (pD P i) 7 else pD P i), pT P, fun i b => if i < n then bf_wn (f i) (pW P i) b else pW P i b)
section
variable {P : bf_Pn} {f : Nat → Nat} {n : Nat}
theorem pAll_D {i : Nat} : pD (pAll P f n) i = if i < n then bf_wd (f i) (pL P) (pW P i) (pD P i) 7 else pD P i := rfl
theorem pAll_W {i b : Nat} : pW (pAll P f n) i b = if i < n then bf_wn (f i) (pW P i) b else pW P i b := rfl
theorem pAll_Wo {i : Nat} (h : ¬ i < n) : pW (pAll P f n) i = pW P i := funext fun b => by rw [pAll_W, if_neg h]
theorem pAll_B {i d : Nat} (h : ¬ i < n) : pB (pAll P f n) i d = pB P i d := by unfold pB; rw [pAll_D, if_neg h]; rfl
theorem pAll_0 : pAll P f 0 = P := pn_ext rfl rfl rfl (fun _ => rfl) (fun i => by rw [pAll_D, if_neg (Nat.not_lt_zero _)]) (fun _ => rfl) (fun i b => by rw [pAll_W, if_neg (Nat.not_lt_zero _)])
theorem bf_wd_0 {lf : Nat} {wf : Nat → Nat} {dd : Nat} : ∀ n, bf_wd 0 lf wf dd n = dd := by
  intro n
  induction n with
  | zero => rfl
  | succ n ih => simp only [bf_wd]; rw [if_pos (by rw [Nat.zero_div]; rfl)]; exact ih
theorem bf_wc_0 {lf : Nat} {wf : Nat → Nat} : ∀ n, bf_wc 0 lf wf n = 0 := by
  intro n
  induction n with
  | zero => rfl
  | succ n ih => simp only [bf_wc]; rw [if_pos (by rw [Nat.zero_div]; rfl)]; exact ih
theorem bf_wn_0 {wf : Nat → Nat} {b : Nat} : bf_wn 0 wf b = wf b := by unfold bf_wn; rw [if_pos (by rw [Nat.zero_div]; rfl)]
theorem pWr_K {k fl i : Nat} : pK (pWr P k fl) i = pK P i := by
  show (if i = k then pK P k else pK P i) = pK P i
  by_cases e : i = k
  · subst e; rw [if_pos rfl]
  · rw [if_neg e]
theorem pWr_T {k fl i : Nat} : pT (pWr P k fl) i = pT P i := by
  show (if i = k then pT P k else pT P i) = pT P i
  by_cases e : i = k
  · subst e; rw [if_pos rfl]
  · rw [if_neg e]
theorem pWr_Dk {k fl : Nat} : pD (pWr P k fl) k = bf_wd fl (pL P) (pW P k) (pD P k) 7 := by
  show (if k = k then _ else pD P k) = _
  rw [if_pos rfl]
theorem pWr_Do {k fl i : Nat} (h : i ≠ k) : pD (pWr P k fl) i = pD P i := by
  show (if i = k then _ else pD P i) = _
  rw [if_neg h]
theorem pWr_Wk {k fl b : Nat} : pW (pWr P k fl) k b = bf_wn fl (pW P k) b := by
  show (if k = k then (if fl / 2 ^ b &&& 1 = 0 then pW P k b else pW P k b + 1) else pW P k b) = _
  rw [if_pos rfl]; rfl
theorem pWr_Wo {k fl i b : Nat} (h : i ≠ k) : pW (pWr P k fl) i b = pW P i b := by
  show (if i = k then _ else pW P i b) = _
  rw [if_neg h]
theorem pWr_Wf {k fl i : Nat} (h : i ≠ k) : pW (pWr P k fl) i = pW P i := funext fun b => pWr_Wo h
theorem pWr_B {k fl i d : Nat} (h : i ≠ k) : pB (pWr P k fl) i d = pB P i d := by unfold pB; rw [pWr_K, pWr_Do h, pWr_T]
theorem pWr_all {k : Nat} : pWr (pAll P f k) k (f k) = pAll P f (k + 1) := by
  refine pn_ext rfl rfl rfl (fun i => pWr_K) (fun i => ?_) (fun i => pWr_T) (fun i b => ?_)
  · by_cases e : i = k
    · subst e
      rw [pWr_Dk, pAll_D, if_neg (Nat.lt_irrefl _), pAll_Wo (Nat.lt_irrefl _), pAll_D, if_pos (Nat.lt_succ_self _)]
      rfl
    · rw [pWr_Do e, pAll_D, pAll_D]
      exact bf_ifc (by omega)
  · by_cases e : i = k
    · subst e
      rw [pWr_Wk, pAll_Wo (Nat.lt_irrefl _), pAll_W, if_pos (Nat.lt_succ_self _)]
    · rw [pWr_Wo e, pAll_W, pAll_W]
      exact bf_ifc (by omega)
theorem pAll_wr {F g : Nat → Nat} {k fl : Nat} (h1 : F k = fl) (h2 : ∀ j, j < k → F j = g j) : pAll (pWr P k fl) g k = pAll P F (k + 1) := by
  refine pn_ext rfl rfl rfl (fun i => pWr_K (fl := fl)) (fun i => ?_) (fun i => pWr_T (fl := fl)) (fun i b => ?_)
  · rw [pAll_D, pAll_D]
    rcases Nat.lt_trichotomy i k with h | h | h
    · rw [if_pos h, if_pos (by omega), h2 i h, pWr_Wf (by omega), pWr_Do (by omega)]; rfl
    · subst h; rw [if_neg (Nat.lt_irrefl _), if_pos (by omega), h1, pWr_Dk]
    · rw [if_neg (by omega), if_neg (by omega), pWr_Do (by omega)]
  · rw [pAll_W, pAll_W]
    rcases Nat.lt_trichotomy i k with h | h | h
    · rw [if_pos h, if_pos (by omega), h2 i h, pWr_Wf (by omega)]
    · subst h; rw [if_neg (Nat.lt_irrefl _), if_pos (by omega), h1, pWr_Wk]
    · rw [if_neg (by omega), if_neg (by omega), pWr_Wo (by omega)]
theorem pAll_wr0 {F : Nat → Nat} {k fl : Nat} (h1 : F k = fl) (h2 : ∀ j, j < k → F j = 0) : pWr P k fl = pAll P F (k + 1) := by
  refine pn_ext rfl rfl rfl (fun i => pWr_K) (fun i => ?_) (fun i => pWr_T) (fun i b => ?_)
  · rw [pAll_D]
    rcases Nat.lt_trichotomy i k with h | h | h
    · rw [if_pos (by omega), h2 i h, bf_wd_0, pWr_Do (by omega)]
    · subst h; rw [if_pos (by omega), h1, pWr_Dk]
    · rw [if_neg (by omega), pWr_Do (by omega)]
  · rw [pAll_W]
    rcases Nat.lt_trichotomy i k with h | h | h
    · rw [if_pos (by omega), h2 i h, bf_wn_0, pWr_Wo (by omega)]
    · subst h; rw [if_pos (by omega), h1, pWr_Wk]
    · rw [if_neg (by omega), pWr_Wo (by omega)]
end
def nxI (i u : Nat) : Nat := if u + 1 < 10 ^ i then u + 1 else 0
def fFl (P : bf_Pn) (i u : Nat) (j : Nat) : Nat := pB P j (bf_dg i u j) ^^^ pB P j (bf_dg i (nxI i u) j)
theorem nxI_d {i u : Nat} (h9 : u % 10 = 9) : nxI (i + 1) u / 10 = nxI i (u / 10) := by
  unfold nxI
  rw [Nat.pow_succ]
  by_cases h : u + 1 < 10 ^ i * 10
  · rw [if_pos h, if_pos (by omega)]; omega
  · rw [if_neg h, if_neg (by omega)]
theorem nxI_m {i u : Nat} (hu : u < 10 ^ (i + 1)) : nxI (i + 1) u % 10 = bf_nx (u % 10) := by
  rw [bf_nx_s]
  unfold nxI
  rw [Nat.pow_succ] at *
  by_cases h : u + 1 < 10 ^ i * 10
  · rw [if_pos h]
  · rw [if_neg h]; omega
theorem nxI_n {i u : Nat} (hu : u < 10 ^ (i + 1)) (h9 : ¬ u % 10 = 9) : nxI (i + 1) u / 10 = u / 10 := by
  unfold nxI
  rw [Nat.pow_succ] at *
  rw [if_pos (by omega)]
  omega
theorem fFl_l {P : bf_Pn} {i u : Nat} (hu : u < 10 ^ (i + 1)) : fFl P (i + 1) u i = pB P i (u % 10) ^^^ pB P i (bf_nx (u % 10)) := by
  unfold fFl
  rw [bf_dg_l, bf_dg_l, nxI_m hu]
theorem fFl_s {P : bf_Pn} {i u j : Nat} (hj : j < i) (h9 : u % 10 = 9) : fFl P (i + 1) u j = fFl P i (u / 10) j := by
  unfold fFl
  rw [bf_dg_s hj, bf_dg_s hj, nxI_d h9]
theorem fFl_n {P : bf_Pn} {i u j : Nat} (hj : j < i) (hu : u < 10 ^ (i + 1)) (h9 : ¬ u % 10 = 9) : fFl P (i + 1) u j = 0 := by
  unfold fFl
  rw [bf_dg_s hj, bf_dg_s hj, nxI_n hu h9, Nat.xor_self]
theorem fFl_w {P : bf_Pn} {i u j fl : Nat} (hj : j < i) : fFl (pWr P i fl) i u j = fFl P i u j := by
  unfold fFl
  rw [pWr_B (by omega), pWr_B (by omega)]
theorem pMk_all : ∀ i u (P : bf_Pn), u < 10 ^ i → pMkP i u P = pAll P (fFl P i u) i := by
  intro i
  induction i with
  | zero => intro u P _; rw [pAll_0]; rfl
  | succ i ih =>
    intro u P hu
    simp only [pMkP]
    by_cases h9 : u % 10 = 9
    · rw [if_pos h9, ih _ _ (by rw [Nat.pow_succ] at hu; omega)]
      exact pAll_wr (fFl_l hu) (fun j hj => by rw [fFl_w hj]; exact fFl_s hj h9)
    · rw [if_neg h9]
      exact pAll_wr0 (fFl_l hu) (fun j hj => fFl_n hj hu h9)
theorem pMk_sum : ∀ i u (P : bf_Pn), u < 10 ^ i → pMkC i u P = bf_sm (fun j => bf_wc (fFl P i u j) (pL P) (pW P j) 7) i := by
  intro i
  induction i with
  | zero => intro u P _; rfl
  | succ i ih =>
    intro u P hu
    simp only [pMkC, bf_sm]
    rw [fFl_l hu, Nat.add_comm]
    congr 1
    by_cases h9 : u % 10 = 9
    · rw [if_pos h9, ih _ _ (by rw [Nat.pow_succ] at hu; omega)]
      refine bf_sm_c (fun j hj => ?_)
      rw [fFl_w hj, fFl_s hj h9, pWr_Wf (by omega)]
      rfl
    · rw [if_neg h9]
      exact (bf_sm_0 (fun j hj => by rw [fFl_n hj hu h9]; exact bf_wc_0 7)).symm
theorem nxI_x (P : bf_Pn) (u : Nat) : nxI (pN P) u = pNx P u := by
  have h := pX_pos P
  unfold nxI pNx pX at *
  exact bf_ifc (by omega)
def fF (P : bf_Pn) (j : Nat) : Nat := pB P j (pG P (pS P) j) ^^^ pB P j (pG P (pNx P (pS P)) j)
theorem fFl_F (P : bf_Pn) (j : Nat) : fFl P (pN P) (pS P) j = fF P j := by unfold fFl; rw [nxI_x]; rfl
theorem pMs_all {P : bf_Pn} (h : pS P < pX P) : pMs P = pSh (pAll P (fF P) (pN P)) (pNx P (pS P)) := by
  unfold pMs
  rw [pMk_all _ _ _ h, show fFl P (pN P) (pS P) = fF P from funext (fFl_F P)]
theorem pMc_sum {P : bf_Pn} (h : pS P < pX P) : pMc P = bf_sm (fun j => bf_wc (fF P j) (pL P) (pW P j) 7) (pN P) := by
  unfold pMc
  rw [pMk_sum _ _ _ h]
  exact bf_sm_c (fun j _ => by rw [fFl_F])
theorem bf_pc_or {x n : Nat} (hx : x < 128) (hn : n < 7) (h : x.testBit n = false) : bf_pc (x ||| 1 * 2 ^ n) = bf_pc x + 1 := by
  have key : ∀ x : Fin 128, ∀ n : Fin 7, x.1.testBit n.1 = false → bf_pc (x.1 ||| 1 * 2 ^ n.1) = bf_pc x.1 + 1 := by decide +kernel
  exact key ⟨x, hx⟩ ⟨n, hn⟩ h
theorem bf_wd_pc {fl lf : Nat} {wf : Nat → Nat} {dd : Nat} (hd : dd < 128) (hf : ∀ b, b < 7 → ¬ fl / 2 ^ b &&& 1 = 0 → dd.testBit b = false) : ∀ n, n ≤ 7 → bf_pc (bf_wd fl lf wf dd n) = bf_pc dd + bf_wc fl lf wf n := by
  intro n
  induction n with
  | zero => intro _; rfl
  | succ n ih =>
    intro hn
    have h := ih (by omega)
    simp only [bf_wd, bf_wc]
    by_cases h1 : fl / 2 ^ n &&& 1 = 0
    · rw [if_pos h1, if_pos h1]; exact h
    · rw [if_neg h1, if_neg h1]
      by_cases h2 : wf n + 1 < lf
      · rw [if_pos h2, if_pos h2]; exact h
      · rw [if_neg h2, if_neg h2, bf_pc_or (bf_wd_lt hd n (by omega)) (by omega) ?_, h, Nat.add_assoc]
        rw [bf_wd_bit, hf n (by omega) h1, Bool.false_or]
        exact decide_eq_false (fun q => absurd q.1 (Nat.lt_irrefl _))
theorem bf_sm_add {f g : Nat → Nat} : ∀ n, bf_sm (fun j => f j + g j) n = bf_sm f n + bf_sm g n := by
  intro n
  induction n with
  | zero => rfl
  | succ n ih => simp only [bf_sm]; rw [ih]; omega
theorem pMc_dd {P : bf_Pn} (hv : vP P) : pDd (pMs P) = pDd P + pMc P := by
  rw [pMc_sum hv.2.2.2.1, pMs_all hv.2.2.2.1]
  unfold pDd
  rw [← bf_sm_add]
  show bf_sm _ (pN P) = _
  refine bf_sm_c (fun j hj => ?_)
  show bf_pc (pD (pAll P (fF P) (pN P)) j) = _
  rw [pAll_D, if_pos hj]
  exact bf_wd_pc (vP_d hv hj) (fun b hb h => (pB_flip hb h).1) 7 (Nat.le_refl _)
theorem gC_dd {P : bf_Pn} (hv : vP P) : ∀ n, pDd (gP P n) = pDd P + gC P n := by
  intro n
  induction n with
  | zero => rfl
  | succ n ih =>
    show pDd (pMs (gP P n)) = pDd P + (gC P n + pMc (gP P n))
    rw [pMc_dd (gP_v hv n).1, ih]
    omega
theorem vP_all {P : bf_Pn} (hv : vP P) : ∀ k, k ≤ pN P → vP (pAll P (fF P) k) := by
  intro k
  induction k with
  | zero => intro _; rw [pAll_0]; exact hv
  | succ k ih =>
    intro hk
    rw [← pWr_all]
    have h := vP_wr (k := k) (x := pG P (pS P) k) (z := pG P (pNx P (pS P)) k) (ih (by omega)) (show k < pN P by omega)
    rw [pAll_B (Nat.lt_irrefl _), pAll_B (Nat.lt_irrefl _)] at h
    exact h
theorem wd_or {P : bf_Pn} {k x z : Nat} (hv : vP P) (hk : k < pN P) : pD P k ||| bf_bm (fun b => decide (pL P ≤ bf_wn (pB P k x ^^^ pB P k z) (pW P k) b)) 7 = bf_wd (pB P k x ^^^ pB P k z) (pL P) (pW P k) (pD P k) 7 := by
  apply Nat.eq_of_testBit_eq
  intro b
  rw [Nat.testBit_or, bf_bm_bit, bf_wd_bit]
  cases hd : (pD P k).testBit b with
  | true => rw [Bool.true_or, Bool.true_or]
  | false =>
    rw [Bool.false_or, Bool.false_or]
    by_cases hb : b < 7
    · have hw := ((hv.2.2.2.2 k hk).2.2.2 b hb).2 hd
      rw [decide_eq_true hb, Bool.true_and]
      unfold bf_wn
      by_cases hf : (pB P k x ^^^ pB P k z) / 2 ^ b &&& 1 = 0
      · rw [if_pos hf, decide_eq_false (by omega), decide_eq_false (fun q => q.2.1 hf)]
      · rw [if_neg hf]
        exact decide_eq_decide.mpr ⟨fun q => ⟨hb, hf, q⟩, fun q => q.2.2⟩
    · rw [decide_eq_false hb, Bool.false_and, decide_eq_false (fun q => hb q.1)]
theorem mP_sh {D : bf_D} {P : bf_Pn} (hn : pN P ≤ 4) (h : mP D P) (s : Nat) : mP (bf_u D 37 3 (nI s)) (pSh P s) :=
  ⟨⟨(bf_un (by omega)).trans (mP_n (P := P) h), (bf_un (by omega)).trans (mP_l (P := P) h), bf_us⟩, fun k hk => ⟨(bf_un (by omega)).trans (mP_k (P := P) h hk), (bf_un (by omega)).trans (mP_d (P := P) h hk), (bf_un (by omega)).trans (mP_t (P := P) h hk), fun b hb => (bf_un (by omega)).trans (mP_w (P := P) h hk hb)⟩⟩
theorem e_X9_wears {d : Nat} (hd : 3 ≤ d) {D : bf_D} {P : bf_Pn} (hv : vP P) (hm : mP D P) {k x z : Nat} (hk : k < pN P) : bf_Ce d mX9_wears [.ref 37, .int (nI k), .int (nI (pB P k x ^^^ pB P k z))] D (fun r D' => r = none ∧ mP D' (pWr P k (pB P k x ^^^ pB P k z)) ∧ ∀ a j, a ≠ 39 → a ≠ 41 → D' a j = D a j) := by
  refine bf_Ce_of 2 hd mo_X9_wears (Nat.le_of_ble_eq_true rfl) (fun e he J r => ?_)
  show J 0 [some (.ref 37), some (.int (nI k)), some (.int (nI (pB P k x ^^^ pB P k z))), none, none] [] (bf_MD D)
  have hn4 := hv.1
  have hx4 := pX_le hv
  have hx0 := pX_pos P
  have hwo := wd_or (x := x) (z := z) hv hk
  have hfl7 := bf_xor_lt (pB_lt hv hk x) (pB_lt hv hk z)
  refine bf_iconst r.1 (v := nI 0) dX9_wears_0 rfl ?_
  refine bf_istore_n r.1 (L2 := [some (.ref 37), some (.int (nI k)), some (.int (nI (pB P k x ^^^ pB P k z))), some (.int (nI 0)), none]) dX9_wears_1 rfl ?_
  refine bf_iconst r.1 (v := nI 0) dX9_wears_2 rfl ?_
  refine bf_istore r.1 (L2 := [some (.ref 37), some (.int (nI k)), some (.int (nI (pB P k x ^^^ pB P k z))), some (.int (nI 0)), some (.int (nI 0))]) dX9_wears_3 rfl ?_
  generalize pB P k x ^^^ pB P k z = fl at r hwo hfl7 ⊢
  have lo : ∀ j : Nat, j ≤ 7 → ∀ D2 : bf_D, (∀ a t, (a ≠ 41 ∨ t < 7 * k ∨ 7 * k + j ≤ t) → D2 a t = D a t) → (∀ b, b < j → D2 41 (7 * k + b) = nI (bf_wn fl (pW P k) b)) → J 5 [some (.ref 37), some (.int (nI k)), some (.int (nI fl)), some (.int (nI (bf_bm (fun b => decide (pL P ≤ bf_wn fl (pW P k) b)) j))), some (.int (nI j))] [] (bf_MD D2) := by
    refine bf_down (fun j hle ih => ?_)
    intro D2 hO hI
    have hL9 := hv.2.1
    refine bf_iload r.1 dX9_wears_5 rfl ?_
    refine bf_bipush r.1 (v := nI 7) dX9_wears_7 rfl ?_
    refine nc_ge r (tgt := 77) dX9_wears_9 (by decide) (by omega) (by decide) (fun c467 => ?_) (fun c467 => ?_)
    · have ej : j = 7 := by omega
      subst ej
      refine bf_aload_n r.1 dX9_wears_77 rfl ?_
      refine ig_ref r (b := 39) dX9_wears_78 fl_X9_13 rfl (by decide) rfl ?_
      refine bf_iload_n r.1 dX9_wears_81 rfl ?_
      refine bf_dup2 r.1 dX9_wears_82 rfl rfl ?_
      refine ia_ld r (n := 4) (v := nI (pD P k)) dX9_wears_83 rfl (by decide) (by omega) ((hO _ _ (by omega)).trans (mP_d hm hk)) ?_
      refine bf_iload_n r.1 dX9_wears_84 rfl ?_
      refine na_or r dX9_wears_85  ?_
      refine ia_st r (n := 4) dX9_wears_86 rfl (by decide) (by omega) ?_
      exact re_v r dX9_wears_87 rfl ⟨rfl, mP_set hm hn4 (fun a t q => (bf_un (by omega)).trans (hO a t (by omega))) ((bf_un (by omega)).trans ((hO _ _ (by omega)).trans (mP_k hm hk))) (bf_us.trans (congrArg nI hwo)) ((bf_un (by omega)).trans ((hO _ _ (by omega)).trans (mP_t hm hk))) (fun b hb => (bf_un (by omega)).trans (hI b hb)), fun a t q1 q2 => (bf_un (by omega)).trans (hO a t (by omega))⟩
    · refine bf_aload_n r.1 dX9_wears_12 rfl ?_
      refine ig_ref r (b := 41) dX9_wears_13 fl_X9_19 rfl (by decide) rfl ?_
      refine bf_bipush r.1 (v := nI 7) dX9_wears_16 rfl ?_
      refine bf_iload_n r.1 dX9_wears_18 rfl ?_
      refine na_mul r dX9_wears_19  ?_
      refine bf_iload r.1 dX9_wears_20 rfl ?_
      refine na_add r dX9_wears_22  ?_
      refine bf_dup2 r.1 dX9_wears_23 rfl rfl ?_
      refine ia_ld r (n := 28) (v := nI (pW P k j)) dX9_wears_24 rfl (by decide) (by omega) ((hO _ _ (by omega)).trans (mP_w hm hk (by omega))) ?_
      refine bf_iload_n r.1 dX9_wears_25 rfl ?_
      refine bf_iload r.1 dX9_wears_26 rfl ?_
      refine cl_s r (y2 := mX9_isIn) dX9_wears_28 li_X9_173 mv_X9_isIn [.int (nI fl), .int (nI j)] [.int (nI (pW P k j)), .int (nI (7 * k + j)), .ref 41] rfl (Nat.le_of_ble_eq_true rfl) rfl (c_X9_isIn (by omega) D2 (by omega) (by omega)) ?_
      show J 31 [some (.ref 37), some (.int (nI k)), some (.int (nI fl)), some (.int (nI (bf_bm (fun b => decide (pL P ≤ bf_wn fl (pW P k) b)) j))), some (.int (nI j))] [.int (if (fl).testBit j = true then 1 else 0), .int (nI (pW P k j)), .int (nI (7 * k + j)), .ref 41] (bf_MD D2)
      refine nb_eq r (tgt := 38) dX9_wears_31 (by decide) (fun c468 => ?_) (fun c468 => ?_)
      · have hwn : bf_wn fl (pW P k) j = pW P k j := if_pos ((bf_tb0 _ _).mpr (Bool.not_eq_true _ |>.mp c468))
        refine bf_iconst r.1 (v := nI 0) dX9_wears_38 rfl ?_
        refine na_add r dX9_wears_39  ?_
        refine eq_i (v := nI (bf_wn fl (pW P k) j)) (congrArg nI hwn.symm) ?_
        have hwl := ((hv.2.2.2.2 k hk).2.2.2 j (by omega)).1
        have hwb : bf_wn fl (pW P k) j < 2 ^ 31 := by omega
        refine ia_st r (n := 28) dX9_wears_40 rfl (by decide) (by omega) ?_
        refine bf_iload_n r.1 dX9_wears_41 rfl ?_
        refine bf_aload_n r.1 dX9_wears_42 rfl ?_
        refine ig_ref r (b := 41) dX9_wears_43 fl_X9_19 rfl (by decide) rfl ?_
        refine bf_bipush r.1 (v := nI 7) dX9_wears_46 rfl ?_
        refine bf_iload_n r.1 dX9_wears_48 rfl ?_
        refine na_mul r dX9_wears_49  ?_
        refine bf_iload r.1 dX9_wears_50 rfl ?_
        refine na_add r dX9_wears_52  ?_
        refine ia_ld r (n := 28) (v := nI (bf_wn fl (pW P k) j)) dX9_wears_53 rfl (by decide) (by omega) bf_us ?_
        refine bf_aload_n r.1 dX9_wears_54 rfl ?_
        refine ig_int r (v := nI (pL P)) dX9_wears_55 fl_X9_129 rfl (by decide) rfl ((bf_un (by omega)).trans ((hO _ _ (by omega)).trans (mP_l hm))) ?_
        refine nc_lt r (tgt := 68) dX9_wears_58 (by decide) hwb (by omega) (fun c469 => ?_) (fun c469 => ?_)
        · refine bf_iconst r.1 (v := nI 0) dX9_wears_68 rfl ?_
          refine na_or r dX9_wears_69  ?_
          refine eq_i (congrArg nI (Nat.or_zero _)) ?_
          refine bf_istore_n r.1 (L2 := [some (.ref 37), some (.int (nI k)), some (.int (nI fl)), some (.int (nI (bf_bm (fun b => decide (pL P ≤ bf_wn fl (pW P k) b)) j))), some (.int (nI j))]) dX9_wears_70 rfl ?_
          refine na_inc r (v := j + 1) (L2 := [some (.ref 37), some (.int (nI k)), some (.int (nI fl)), some (.int (nI (bf_bm (fun b => decide (pL P ≤ bf_wn fl (pW P k) b)) j))), some (.int (nI (j + 1)))]) dX9_wears_71 rfl (nI_add _ 1) rfl ?_
          refine bf_goto r.1 (tgt := 5) dX9_wears_74 (by decide) ?_
          have hi := ih (by omega) (bf_u D2 41 (7 * k + j) (nI (bf_wn fl (pW P k) j))) (fun a t q => (bf_un (by omega)).trans (hO a t (by omega))) (fun b hb => by
            by_cases eb : b = j
            · subst eb; exact bf_us
            · rw [bf_un (by omega)]; exact hI b (by omega))
          rw [bf_bm_f (p := (fun b => decide (pL P ≤ bf_wn fl (pW P k) b))) (fun q => absurd (of_decide_eq_true q) (Nat.not_le.mpr c469))] at hi
          exact hi
        · refine bf_iconst r.1 (v := nI 1) dX9_wears_61 rfl ?_
          refine bf_iload r.1 dX9_wears_62 rfl ?_
          refine na_shl r dX9_wears_64 (by omega) (bf_sh1 (by omega)) ?_
          refine bf_goto r.1 (tgt := 69) dX9_wears_65 (by decide) ?_
          refine na_or r dX9_wears_69  ?_
          refine bf_istore_n r.1 (L2 := [some (.ref 37), some (.int (nI k)), some (.int (nI fl)), some (.int (nI ((bf_bm (fun b => decide (pL P ≤ bf_wn fl (pW P k) b)) j) ||| (1 * 2 ^ j)))), some (.int (nI j))]) dX9_wears_70 rfl ?_
          refine na_inc r (v := j + 1) (L2 := [some (.ref 37), some (.int (nI k)), some (.int (nI fl)), some (.int (nI ((bf_bm (fun b => decide (pL P ≤ bf_wn fl (pW P k) b)) j) ||| (1 * 2 ^ j)))), some (.int (nI (j + 1)))]) dX9_wears_71 rfl (nI_add _ 1) rfl ?_
          refine bf_goto r.1 (tgt := 5) dX9_wears_74 (by decide) ?_
          have hi := ih (by omega) (bf_u D2 41 (7 * k + j) (nI (bf_wn fl (pW P k) j))) (fun a t q => (bf_un (by omega)).trans (hO a t (by omega))) (fun b hb => by
            by_cases eb : b = j
            · subst eb; exact bf_us
            · rw [bf_un (by omega)]; exact hI b (by omega))
          rw [bf_bm_t (p := (fun b => decide (pL P ≤ bf_wn fl (pW P k) b))) (decide_eq_true c469)] at hi
          exact hi
      · have hwn : bf_wn fl (pW P k) j = pW P k j + 1 := if_neg (fun q => by rw [(bf_tb0 _ _).mp q] at c468; cases c468)
        refine bf_iconst r.1 (v := nI 1) dX9_wears_34 rfl ?_
        refine bf_goto r.1 (tgt := 39) dX9_wears_35 (by decide) ?_
        refine na_add r dX9_wears_39  ?_
        refine eq_i (v := nI (bf_wn fl (pW P k) j)) (congrArg nI hwn.symm) ?_
        have hwl := ((hv.2.2.2.2 k hk).2.2.2 j (by omega)).1
        have hwb : bf_wn fl (pW P k) j < 2 ^ 31 := by omega
        refine ia_st r (n := 28) dX9_wears_40 rfl (by decide) (by omega) ?_
        refine bf_iload_n r.1 dX9_wears_41 rfl ?_
        refine bf_aload_n r.1 dX9_wears_42 rfl ?_
        refine ig_ref r (b := 41) dX9_wears_43 fl_X9_19 rfl (by decide) rfl ?_
        refine bf_bipush r.1 (v := nI 7) dX9_wears_46 rfl ?_
        refine bf_iload_n r.1 dX9_wears_48 rfl ?_
        refine na_mul r dX9_wears_49  ?_
        refine bf_iload r.1 dX9_wears_50 rfl ?_
        refine na_add r dX9_wears_52  ?_
        refine ia_ld r (n := 28) (v := nI (bf_wn fl (pW P k) j)) dX9_wears_53 rfl (by decide) (by omega) bf_us ?_
        refine bf_aload_n r.1 dX9_wears_54 rfl ?_
        refine ig_int r (v := nI (pL P)) dX9_wears_55 fl_X9_129 rfl (by decide) rfl ((bf_un (by omega)).trans ((hO _ _ (by omega)).trans (mP_l hm))) ?_
        refine nc_lt r (tgt := 68) dX9_wears_58 (by decide) hwb (by omega) (fun c470 => ?_) (fun c470 => ?_)
        · refine bf_iconst r.1 (v := nI 0) dX9_wears_68 rfl ?_
          refine na_or r dX9_wears_69  ?_
          refine eq_i (congrArg nI (Nat.or_zero _)) ?_
          refine bf_istore_n r.1 (L2 := [some (.ref 37), some (.int (nI k)), some (.int (nI fl)), some (.int (nI (bf_bm (fun b => decide (pL P ≤ bf_wn fl (pW P k) b)) j))), some (.int (nI j))]) dX9_wears_70 rfl ?_
          refine na_inc r (v := j + 1) (L2 := [some (.ref 37), some (.int (nI k)), some (.int (nI fl)), some (.int (nI (bf_bm (fun b => decide (pL P ≤ bf_wn fl (pW P k) b)) j))), some (.int (nI (j + 1)))]) dX9_wears_71 rfl (nI_add _ 1) rfl ?_
          refine bf_goto r.1 (tgt := 5) dX9_wears_74 (by decide) ?_
          have hi := ih (by omega) (bf_u D2 41 (7 * k + j) (nI (bf_wn fl (pW P k) j))) (fun a t q => (bf_un (by omega)).trans (hO a t (by omega))) (fun b hb => by
            by_cases eb : b = j
            · subst eb; exact bf_us
            · rw [bf_un (by omega)]; exact hI b (by omega))
          rw [bf_bm_f (p := (fun b => decide (pL P ≤ bf_wn fl (pW P k) b))) (fun q => absurd (of_decide_eq_true q) (Nat.not_le.mpr c470))] at hi
          exact hi
        · refine bf_iconst r.1 (v := nI 1) dX9_wears_61 rfl ?_
          refine bf_iload r.1 dX9_wears_62 rfl ?_
          refine na_shl r dX9_wears_64 (by omega) (bf_sh1 (by omega)) ?_
          refine bf_goto r.1 (tgt := 69) dX9_wears_65 (by decide) ?_
          refine na_or r dX9_wears_69  ?_
          refine bf_istore_n r.1 (L2 := [some (.ref 37), some (.int (nI k)), some (.int (nI fl)), some (.int (nI ((bf_bm (fun b => decide (pL P ≤ bf_wn fl (pW P k) b)) j) ||| (1 * 2 ^ j)))), some (.int (nI j))]) dX9_wears_70 rfl ?_
          refine na_inc r (v := j + 1) (L2 := [some (.ref 37), some (.int (nI k)), some (.int (nI fl)), some (.int (nI ((bf_bm (fun b => decide (pL P ≤ bf_wn fl (pW P k) b)) j) ||| (1 * 2 ^ j)))), some (.int (nI (j + 1)))]) dX9_wears_71 rfl (nI_add _ 1) rfl ?_
          refine bf_goto r.1 (tgt := 5) dX9_wears_74 (by decide) ?_
          have hi := ih (by omega) (bf_u D2 41 (7 * k + j) (nI (bf_wn fl (pW P k) j))) (fun a t q => (bf_un (by omega)).trans (hO a t (by omega))) (fun b hb => by
            by_cases eb : b = j
            · subst eb; exact bf_us
            · rw [bf_un (by omega)]; exact hI b (by omega))
          rw [bf_bm_t (p := (fun b => decide (pL P ≤ bf_wn fl (pW P k) b))) (decide_eq_true c470)] at hi
          exact hi
  exact lo 0 (by omega) D (fun _ _ _ => rfl) (fun b hb => absurd hb (Nat.not_lt_zero _))
theorem e_X9_step {d : Nat} (hd : 5 ≤ d) {D : bf_D} {P : bf_Pn} (hv : vP P) (hm : mP D P) : bf_Ce d mX9_step [.ref 37] D (fun r D' => r = none ∧ mP D' (pMs P) ∧ ∀ a j, a ≠ 39 → a ≠ 41 → (a ≠ 37 ∨ j ≠ 3) → D' a j = D a j) := by
  refine bf_Ce_of 4 hd mo_X9_step (Nat.le_of_ble_eq_true rfl) (fun e he J r => ?_)
  show J 0 [some (.ref 37), none, none] [] (bf_MD D)
  have hn4 := hv.1
  have hx4 := pX_le hv
  have hx0 := pX_pos P
  have hsS := hv.2.2.2.1
  refine bf_aload_n r.1 dX9_step_0 rfl ?_
  refine ig_int r (v := nI (pS P)) dX9_step_1 fl_X9_132 rfl (by decide) rfl (mP_s (P := P) hm) ?_
  refine bf_aload_n r.1 dX9_step_4 rfl ?_
  refine cl_v r (y2 := mX9_last) dX9_step_5 li_X9_181 mv_X9_last rfl (by decide) [] [.int (nI (pS P))] rfl (Nat.le_of_ble_eq_true rfl) rfl (c_X9_last (by omega) hv hm) ?_
  show J 8 [some (.ref 37), none, none] [.int (nI (pX P - 1)), .int (nI (pS P))] (bf_MD D)
  refine nc_ne r (tgt := 15) dX9_step_8 (by decide) (by omega) (by omega) (fun c471 => ?_) (fun c471 => ?_)
  · refine bf_aload_n r.1 dX9_step_15 rfl ?_
    refine ig_int r (v := nI (pS P)) dX9_step_16 fl_X9_132 rfl (by decide) rfl (mP_s (P := P) hm) ?_
    refine bf_iconst r.1 (v := nI 1) dX9_step_19 rfl ?_
    refine na_add r dX9_step_20  ?_
    refine eq_i (v := nI (pNx P (pS P))) (congrArg nI (show _ = pNx P (pS P) from (if_pos (by omega)).symm)) ?_
    refine bf_istore_n r.1 (L2 := [some (.ref 37), some (.int (nI (pNx P (pS P)))), none]) dX9_step_21 rfl ?_
    refine bf_iconst r.1 (v := nI 0) dX9_step_22 rfl ?_
    refine bf_istore_n r.1 (L2 := [some (.ref 37), some (.int (nI (pNx P (pS P)))), some (.int (nI 0))]) dX9_step_23 rfl ?_
    have hnx := pNx_lt P (pS P)
    have lo : ∀ k : Nat, k ≤ pN P → ∀ D2 : bf_D, mP D2 (pAll P (fF P) k) → (∀ a t, a ≠ 39 → a ≠ 41 → D2 a t = D a t) → J 24 [some (.ref 37), some (.int (nI (pNx P (pS P)))), some (.int (nI k))] [] (bf_MD D2) := by
      refine bf_down (fun k hle ih => ?_)
      intro D2 hm2 hO
      have hv2 := vP_all hv k hle
      refine bf_iload_n r.1 dX9_step_24 rfl ?_
      refine bf_aload_n r.1 dX9_step_25 rfl ?_
      refine ig_int r (v := nI (pN P)) dX9_step_26 fl_X9_77 rfl (by decide) rfl (mP_n (P := (pAll P (fF P) k)) hm2) ?_
      refine nc_ge r (tgt := 69) dX9_step_29 (by decide) (by omega) (by omega) (fun c472 => ?_) (fun c472 => ?_)
      · have ek : k = pN P := by omega
        refine bf_aload_n r.1 dX9_step_69 rfl ?_
        refine bf_iload_n r.1 dX9_step_70 rfl ?_
        refine ip_int r dX9_step_71 fp_X9_132 rfl (by decide) rfl ?_
        subst ek
        exact re_v r dX9_step_74 rfl ⟨rfl, by rw [pMs_all hsS]; exact mP_sh (P := pAll P (fF P) (pN P)) hn4 hm2 _, fun a t q1 q2 q3 => (bf_un (by omega)).trans (hO a t q1 q2)⟩
      · have hk2 : k < pN (pAll P (fF P) k) := c472
        refine bf_aload_n r.1 dX9_step_32 rfl ?_
        refine bf_iload_n r.1 dX9_step_33 rfl ?_
        refine bf_aload_n r.1 dX9_step_34 rfl ?_
        refine bf_iload_n r.1 dX9_step_35 rfl ?_
        refine bf_aload_n r.1 dX9_step_36 rfl ?_
        refine bf_iload_n r.1 dX9_step_37 rfl ?_
        refine bf_aload_n r.1 dX9_step_38 rfl ?_
        refine ig_int r (v := nI (pS P)) dX9_step_39 fl_X9_132 rfl (by decide) rfl (mP_s (P := (pAll P (fF P) k)) hm2) ?_
        refine cl_v r (y2 := mX9_digitAt) dX9_step_42 li_X9_166 mv_X9_digitAt rfl (by decide) [.int (nI k), .int (nI (pS P))] [.int (nI k), .ref 37, .int (nI k), .ref 37] rfl (Nat.le_of_ble_eq_true rfl) rfl (c_X9_digitAt (by omega) hv2 hm2 hk2 (by omega)) ?_
        show J 45 [some (.ref 37), some (.int (nI (pNx P (pS P)))), some (.int (nI k))] [.int (nI (pG P (pS P) k)), .int (nI k), .ref 37, .int (nI k), .ref 37] (bf_MD D2)
        refine cl_v r (y2 := mX9_burnsAt) dX9_step_45 li_X9_157 mv_X9_burnsAt rfl (by decide) [.int (nI k), .int (nI (pG P (pS P) k))] [.int (nI k), .ref 37] rfl (Nat.le_of_ble_eq_true rfl) rfl (c_X9_burnsAt (by omega) hv2 hm2 hk2 (pG_lt P _ _)) ?_
        show J 48 [some (.ref 37), some (.int (nI (pNx P (pS P)))), some (.int (nI k))] [.int (nI (pB (pAll P (fF P) k) k (pG P (pS P) k))), .int (nI k), .ref 37] (bf_MD D2)
        refine bf_aload_n r.1 dX9_step_48 rfl ?_
        refine bf_iload_n r.1 dX9_step_49 rfl ?_
        refine bf_aload_n r.1 dX9_step_50 rfl ?_
        refine bf_iload_n r.1 dX9_step_51 rfl ?_
        refine bf_iload_n r.1 dX9_step_52 rfl ?_
        refine cl_v r (y2 := mX9_digitAt) dX9_step_53 li_X9_166 mv_X9_digitAt rfl (by decide) [.int (nI k), .int (nI (pNx P (pS P)))] [.int (nI k), .ref 37, .int (nI (pB (pAll P (fF P) k) k (pG P (pS P) k))), .int (nI k), .ref 37] rfl (Nat.le_of_ble_eq_true rfl) rfl (c_X9_digitAt (by omega) hv2 hm2 hk2 (by omega)) ?_
        show J 56 [some (.ref 37), some (.int (nI (pNx P (pS P)))), some (.int (nI k))] [.int (nI (pG P (pNx P (pS P)) k)), .int (nI k), .ref 37, .int (nI (pB (pAll P (fF P) k) k (pG P (pS P) k))), .int (nI k), .ref 37] (bf_MD D2)
        refine cl_v r (y2 := mX9_burnsAt) dX9_step_56 li_X9_157 mv_X9_burnsAt rfl (by decide) [.int (nI k), .int (nI (pG P (pNx P (pS P)) k))] [.int (nI (pB (pAll P (fF P) k) k (pG P (pS P) k))), .int (nI k), .ref 37] rfl (Nat.le_of_ble_eq_true rfl) rfl (c_X9_burnsAt (by omega) hv2 hm2 hk2 (pG_lt P _ _)) ?_
        show J 59 [some (.ref 37), some (.int (nI (pNx P (pS P)))), some (.int (nI k))] [.int (nI (pB (pAll P (fF P) k) k (pG P (pNx P (pS P)) k))), .int (nI (pB (pAll P (fF P) k) k (pG P (pS P) k))), .int (nI k), .ref 37] (bf_MD D2)
        refine na_xor r dX9_step_59  ?_
        refine ce_v r (y2 := mX9_wears) dX9_step_60 li_X9_199 mv_X9_wears rfl (by decide) [.int (nI k), .int (nI ((pB (pAll P (fF P) k) k (pG P (pS P) k)) ^^^ (pB (pAll P (fF P) k) k (pG P (pNx P (pS P)) k))))] [] rfl (Nat.le_of_ble_eq_true rfl) rfl (e_X9_wears (by omega) hv2 hm2 hk2) (fun res D473 hq473 => ?_)
        obtain ⟨rfl, hm473, hf473⟩ := hq473
        show J 63 [some (.ref 37), some (.int (nI (pNx P (pS P)))), some (.int (nI k))] [] (bf_MD D473)
        refine na_inc r (v := k + 1) (L2 := [some (.ref 37), some (.int (nI (pNx P (pS P)))), some (.int (nI (k + 1)))]) dX9_step_63 rfl (nI_add _ 1) rfl ?_
        refine bf_goto r.1 (tgt := 24) dX9_step_66 (by decide) ?_
        rw [pAll_B (Nat.lt_irrefl _), pAll_B (Nat.lt_irrefl _)] at hm473
        have hm9 : mP D473 (pAll P (fF P) (k + 1)) := by rw [← pWr_all]; exact hm473
        exact ih (by omega) D473 hm9 (fun a t q1 q2 => (hf473 a t q1 q2).trans (hO a t q1 q2))
    exact lo 0 (Nat.zero_le _) D (by rw [pAll_0]; exact hm) (fun _ _ _ _ => rfl)
  · refine bf_iconst r.1 (v := nI 0) dX9_step_11 rfl ?_
    refine bf_goto r.1 (tgt := 21) dX9_step_12 (by decide) ?_
    refine eq_i (v := nI (pNx P (pS P))) (congrArg nI (show _ = pNx P (pS P) from (if_neg (by omega)).symm)) ?_
    refine bf_istore_n r.1 (L2 := [some (.ref 37), some (.int (nI (pNx P (pS P)))), none]) dX9_step_21 rfl ?_
    refine bf_iconst r.1 (v := nI 0) dX9_step_22 rfl ?_
    refine bf_istore_n r.1 (L2 := [some (.ref 37), some (.int (nI (pNx P (pS P)))), some (.int (nI 0))]) dX9_step_23 rfl ?_
    have hnx := pNx_lt P (pS P)
    have lo : ∀ k : Nat, k ≤ pN P → ∀ D2 : bf_D, mP D2 (pAll P (fF P) k) → (∀ a t, a ≠ 39 → a ≠ 41 → D2 a t = D a t) → J 24 [some (.ref 37), some (.int (nI (pNx P (pS P)))), some (.int (nI k))] [] (bf_MD D2) := by
      refine bf_down (fun k hle ih => ?_)
      intro D2 hm2 hO
      have hv2 := vP_all hv k hle
      refine bf_iload_n r.1 dX9_step_24 rfl ?_
      refine bf_aload_n r.1 dX9_step_25 rfl ?_
      refine ig_int r (v := nI (pN P)) dX9_step_26 fl_X9_77 rfl (by decide) rfl (mP_n (P := (pAll P (fF P) k)) hm2) ?_
      refine nc_ge r (tgt := 69) dX9_step_29 (by decide) (by omega) (by omega) (fun c474 => ?_) (fun c474 => ?_)
      · have ek : k = pN P := by omega
        refine bf_aload_n r.1 dX9_step_69 rfl ?_
        refine bf_iload_n r.1 dX9_step_70 rfl ?_
        refine ip_int r dX9_step_71 fp_X9_132 rfl (by decide) rfl ?_
        subst ek
        exact re_v r dX9_step_74 rfl ⟨rfl, by rw [pMs_all hsS]; exact mP_sh (P := pAll P (fF P) (pN P)) hn4 hm2 _, fun a t q1 q2 q3 => (bf_un (by omega)).trans (hO a t q1 q2)⟩
      · have hk2 : k < pN (pAll P (fF P) k) := c474
        refine bf_aload_n r.1 dX9_step_32 rfl ?_
        refine bf_iload_n r.1 dX9_step_33 rfl ?_
        refine bf_aload_n r.1 dX9_step_34 rfl ?_
        refine bf_iload_n r.1 dX9_step_35 rfl ?_
        refine bf_aload_n r.1 dX9_step_36 rfl ?_
        refine bf_iload_n r.1 dX9_step_37 rfl ?_
        refine bf_aload_n r.1 dX9_step_38 rfl ?_
        refine ig_int r (v := nI (pS P)) dX9_step_39 fl_X9_132 rfl (by decide) rfl (mP_s (P := (pAll P (fF P) k)) hm2) ?_
        refine cl_v r (y2 := mX9_digitAt) dX9_step_42 li_X9_166 mv_X9_digitAt rfl (by decide) [.int (nI k), .int (nI (pS P))] [.int (nI k), .ref 37, .int (nI k), .ref 37] rfl (Nat.le_of_ble_eq_true rfl) rfl (c_X9_digitAt (by omega) hv2 hm2 hk2 (by omega)) ?_
        show J 45 [some (.ref 37), some (.int (nI (pNx P (pS P)))), some (.int (nI k))] [.int (nI (pG P (pS P) k)), .int (nI k), .ref 37, .int (nI k), .ref 37] (bf_MD D2)
        refine cl_v r (y2 := mX9_burnsAt) dX9_step_45 li_X9_157 mv_X9_burnsAt rfl (by decide) [.int (nI k), .int (nI (pG P (pS P) k))] [.int (nI k), .ref 37] rfl (Nat.le_of_ble_eq_true rfl) rfl (c_X9_burnsAt (by omega) hv2 hm2 hk2 (pG_lt P _ _)) ?_
        show J 48 [some (.ref 37), some (.int (nI (pNx P (pS P)))), some (.int (nI k))] [.int (nI (pB (pAll P (fF P) k) k (pG P (pS P) k))), .int (nI k), .ref 37] (bf_MD D2)
        refine bf_aload_n r.1 dX9_step_48 rfl ?_
        refine bf_iload_n r.1 dX9_step_49 rfl ?_
        refine bf_aload_n r.1 dX9_step_50 rfl ?_
        refine bf_iload_n r.1 dX9_step_51 rfl ?_
        refine bf_iload_n r.1 dX9_step_52 rfl ?_
        refine cl_v r (y2 := mX9_digitAt) dX9_step_53 li_X9_166 mv_X9_digitAt rfl (by decide) [.int (nI k), .int (nI (pNx P (pS P)))] [.int (nI k), .ref 37, .int (nI (pB (pAll P (fF P) k) k (pG P (pS P) k))), .int (nI k), .ref 37] rfl (Nat.le_of_ble_eq_true rfl) rfl (c_X9_digitAt (by omega) hv2 hm2 hk2 (by omega)) ?_
        show J 56 [some (.ref 37), some (.int (nI (pNx P (pS P)))), some (.int (nI k))] [.int (nI (pG P (pNx P (pS P)) k)), .int (nI k), .ref 37, .int (nI (pB (pAll P (fF P) k) k (pG P (pS P) k))), .int (nI k), .ref 37] (bf_MD D2)
        refine cl_v r (y2 := mX9_burnsAt) dX9_step_56 li_X9_157 mv_X9_burnsAt rfl (by decide) [.int (nI k), .int (nI (pG P (pNx P (pS P)) k))] [.int (nI (pB (pAll P (fF P) k) k (pG P (pS P) k))), .int (nI k), .ref 37] rfl (Nat.le_of_ble_eq_true rfl) rfl (c_X9_burnsAt (by omega) hv2 hm2 hk2 (pG_lt P _ _)) ?_
        show J 59 [some (.ref 37), some (.int (nI (pNx P (pS P)))), some (.int (nI k))] [.int (nI (pB (pAll P (fF P) k) k (pG P (pNx P (pS P)) k))), .int (nI (pB (pAll P (fF P) k) k (pG P (pS P) k))), .int (nI k), .ref 37] (bf_MD D2)
        refine na_xor r dX9_step_59  ?_
        refine ce_v r (y2 := mX9_wears) dX9_step_60 li_X9_199 mv_X9_wears rfl (by decide) [.int (nI k), .int (nI ((pB (pAll P (fF P) k) k (pG P (pS P) k)) ^^^ (pB (pAll P (fF P) k) k (pG P (pNx P (pS P)) k))))] [] rfl (Nat.le_of_ble_eq_true rfl) rfl (e_X9_wears (by omega) hv2 hm2 hk2) (fun res D475 hq475 => ?_)
        obtain ⟨rfl, hm475, hf475⟩ := hq475
        show J 63 [some (.ref 37), some (.int (nI (pNx P (pS P)))), some (.int (nI k))] [] (bf_MD D475)
        refine na_inc r (v := k + 1) (L2 := [some (.ref 37), some (.int (nI (pNx P (pS P)))), some (.int (nI (k + 1)))]) dX9_step_63 rfl (nI_add _ 1) rfl ?_
        refine bf_goto r.1 (tgt := 24) dX9_step_66 (by decide) ?_
        rw [pAll_B (Nat.lt_irrefl _), pAll_B (Nat.lt_irrefl _)] at hm475
        have hm9 : mP D475 (pAll P (fF P) (k + 1)) := by rw [← pWr_all]; exact hm475
        exact ih (by omega) D475 hm9 (fun a t q1 q2 => (hf475 a t q1 q2).trans (hO a t q1 q2))
    exact lo 0 (Nat.zero_le _) D (by rw [pAll_0]; exact hm) (fun _ _ _ _ => rfl)
theorem r1_64 {n : Int32} : (lN 1 ≤ n.toInt64 ∧ n.toInt64 ≤ lN 500) ↔ (nI 1 ≤ n ∧ n ≤ nI 500) := by
  rw [Int64.le_iff_toInt_le, Int64.le_iff_toInt_le, Int32.le_iff_toInt_le, Int32.le_iff_toInt_le, bf_toL, lN_toInt (by decide), lN_toInt (by decide), nI_toInt (by decide), nI_toInt (by decide)]
theorem r1_no {n : Int32} (h : ¬ (lN 1 ≤ n.toInt64 ∧ n.toInt64 ≤ lN 500)) : bf_r1 n = none := if_neg (fun q => h (r1_64.mpr q))
theorem r1_ys {n : Int32} (h : lN 1 ≤ n.toInt64 ∧ n.toInt64 ≤ lN 500) : ∃ j, 1 ≤ j ∧ j ≤ 500 ∧ n = nI j ∧ bf_r1 (nI j) = some j := by
  have h2 := r1_64.mp h
  exact r1_i (Int32.not_lt.mpr h2.1) h2.2
theorem mA_stp {D D' : bf_D} {P P' : bf_Pn} {S : bf_Sh} {Q : bf_Rd} {F : Nat} {T : Int32} (h : mA D (P, S, Q, F, T)) (hp : mP D' P') (e : ∀ a j, a ≠ 39 → a ≠ 41 → (a ≠ 37 ∨ j ≠ 3) → D' a j = D a j) : mA D' (P', S, Q, F, T) := mA_P h hp (fun a j q => e a j (by omega) (by omega) (by omega))
theorem e_X9_go {d : Nat} (hd : 10 ≤ d) {D : bf_D} {P : bf_Pn} {S : bf_Sh} {Q : bf_Rd} {F : Nat} {T : Int32} (va : vA (P, S, Q, F, T)) (ma : mA D (P, S, Q, F, T)) (n : Int32) : bf_Ce d mX9_go [.ref 37, .int (n)] D (fun r D' => r = some (.int (ox_go P S Q F T n).1) ∧ mA D' (ox_go P S Q F T n).2 ∧ bf_fr 37 57 D D') := by
  refine bf_Ce_of 9 hd mo_X9_go (Nat.le_of_ble_eq_true rfl) (fun e he J r => ?_)
  show J 0 [some (.ref 37), some (.int (n)), none, none] [] (bf_MD D)
  obtain ⟨hv, vs, vr, hF⟩ := id va
  obtain ⟨hm, ms, mr, c5, c6⟩ := id ma
  have hn4 := hv.1
  have hx4 := pX_le hv
  have hx0 := pX_pos P
  refine bf_aload_n r.1 dX9_go_0 rfl ?_
  refine ig_int r (v := nI (pN P)) dX9_go_1 fl_X9_77 rfl (by decide) rfl (mP_n (P := P) hm) ?_
  refine nz_ne r (tgt := 10) dX9_go_4 (by decide) (by omega) (fun c476 => ?_) (fun c476 => ?_)
  · have h1n : 1 ≤ pN P := by omega
    refine bf_iload_n r.1 dX9_go_10 rfl ?_
    refine bf_i2l r.1 dX9_go_11 ?_
    refine bf_lconst r.1 (v := lN 1) dX9_go_12 rfl ?_
    refine bf_ldc2 r.1 dX9_go_13 lc_X9_203 ?_
    refine eq_l (v := lN 500) rfl ?_
    refine cl_s r (y2 := mX9_in) dX9_go_16 li_X9_80 mv_X9_in [.long (n.toInt64), .long (lN 1), .long (lN 500)] [] rfl (Nat.le_of_ble_eq_true rfl) rfl (c_X9_in (by omega) D _ _ _) ?_
    show J 19 [some (.ref 37), some (.int (n)), none, none] [.int (if lN 1 ≤ n.toInt64 ∧ n.toInt64 ≤ lN 500 then 1 else 0)] (bf_MD D)
    refine nb_ne r (tgt := 25) dX9_go_19 (by decide) (fun c477 => ?_) (fun c477 => ?_)
    · obtain ⟨n0, hn1, hn5, rfl, wn⟩ := r1_ys c477
      refine bf_aload_n r.1 dX9_go_25 rfl ?_
      refine cl_v r (y2 := mX9_deadNow) dX9_go_26 li_X9_205 mv_X9_deadNow rfl (by decide) [] [] rfl (Nat.le_of_ble_eq_true rfl) rfl (c_X9_deadNow (by omega) hv hm) ?_
      show J 29 [some (.ref 37), some (.int (nI n0)), none, none] [.int (nI (pDd P))] (bf_MD D)
      refine bf_istore_n r.1 (L2 := [some (.ref 37), some (.int (nI n0)), some (.int (nI (pDd P))), none]) dX9_go_29 rfl ?_
      refine bf_iconst r.1 (v := nI 0) dX9_go_30 rfl ?_
      refine bf_istore_n r.1 (L2 := [some (.ref 37), some (.int (nI n0)), some (.int (nI (pDd P))), some (.int (nI 0))]) dX9_go_31 rfl ?_
      have lo : ∀ j : Nat, j ≤ n0 → ∀ D2 : bf_D, mP D2 (gP P j) → (∀ a t, a ≠ 39 → a ≠ 41 → (a ≠ 37 ∨ t ≠ 3) → D2 a t = D a t) → J 32 [some (.ref 37), some (.int (nI n0)), some (.int (nI (pDd P))), some (.int (nI j))] [] (bf_MD D2) := by
        refine bf_down (fun j hle ih => ?_)
        intro D2 hm2 hO
        refine bf_iload_n r.1 dX9_go_32 rfl ?_
        refine bf_iload_n r.1 dX9_go_33 rfl ?_
        refine nc_ge r (tgt := 47) dX9_go_34 (by decide) (by omega) (by omega) (fun c478 => ?_) (fun c478 => ?_)
        · have ej : j = n0 := by omega
          have hgc := gC_dd hv j
          refine bf_aload_n r.1 dX9_go_47 rfl ?_
          refine cl_v r (y2 := mX9_deadNow) dX9_go_48 li_X9_205 mv_X9_deadNow rfl (by decide) [] [] rfl (Nat.le_of_ble_eq_true rfl) rfl (c_X9_deadNow (by omega) (gP_v hv j).1 hm2) ?_
          show J 51 [some (.ref 37), some (.int (nI n0)), some (.int (nI (pDd P))), some (.int (nI j))] [.int (nI (pDd (gP P j)))] (bf_MD D2)
          refine bf_iload_n r.1 dX9_go_51 rfl ?_
          refine na_sub r dX9_go_52 (by omega) ?_
          refine eq_i (v := nI (gC P j)) (congrArg nI (by omega)) ?_
          subst ej
          have ho : ox_go P S Q F T (nI j) = (nI (gC P j), (gP P j, S, Q, F, T)) := by simp only [ox_go, if_neg c476, wn, on_n, on_s]
          exact re_i r dX9_go_53 rfl rfl ⟨by rw [ho], by rw [ho]; exact (mA_stp ma hm2 hO), (fun a t q => hO a t (by omega) (by omega) (by omega))⟩
        · refine bf_aload_n r.1 dX9_go_37 rfl ?_
          refine ce_v r (y2 := mX9_step) dX9_go_38 li_X9_208 mv_X9_step rfl (by decide) [] [] rfl (Nat.le_of_ble_eq_true rfl) rfl (e_X9_step (by omega) (gP_v hv j).1 hm2) (fun res D479 hq479 => ?_)
          obtain ⟨rfl, hm479, hf479⟩ := hq479
          show J 41 [some (.ref 37), some (.int (nI n0)), some (.int (nI (pDd P))), some (.int (nI j))] [] (bf_MD D479)
          refine na_inc r (v := j + 1) (L2 := [some (.ref 37), some (.int (nI n0)), some (.int (nI (pDd P))), some (.int (nI (j + 1)))]) dX9_go_41 rfl (nI_add _ 1) rfl ?_
          refine bf_goto r.1 (tgt := 32) dX9_go_44 (by decide) ?_
          exact ih (by omega) D479 hm479 (fun a t q1 q2 q3 => (hf479 a t q1 q2 q3).trans (hO a t q1 q2 q3))
      exact lo 0 (Nat.zero_le _) D hm (fun _ _ _ _ _ => rfl)
    · have wn := r1_no c477
      refine bf_bipush r.1 (v := -2) dX9_go_22 rfl ?_
      have ho : ox_go P S Q F T n = (-2, (P, S, Q, F, T)) := by simp only [ox_go, if_neg c476, wn, on_n, on_s]
      exact re_i r dX9_go_24 rfl rfl ⟨by rw [ho], by rw [ho]; exact ma, fr_0⟩
  · refine bf_bipush r.1 (v := -3) dX9_go_7 rfl ?_
    have ho : ox_go P S Q F T n = (-3, (P, S, Q, F, T)) := by simp only [ox_go, if_pos c476, on_n, on_s]
    exact re_i r dX9_go_9 rfl rfl ⟨by rw [ho], by rw [ho]; exact ma, fr_0⟩
