/-! the reference: order -/
def nA (o : Nat → Nat) : Nat → Option Nat
  | 0 => none
  | k + 1 => if o (k + 1) < o k then nA o k else some k
def nB (o : Nat → Nat) (a : Nat) : Nat → Nat
  | 0 => 0
  | b + 1 => if o (b + 1) < o a then nB o a b else b + 1
def swp (o : Nat → Nat) (i j : Nat) : Nat → Nat := fun x => if x = j then o i else if x = i then o j else o x
def rv : Nat → Nat → Nat → (Nat → Nat) → Nat → Nat
  | 0, _, _, o => o
  | f + 1, lo, hi, o => if lo < hi then rv f (lo + 1) (hi - 1) (swp o lo hi) else o
def nxO (n : Nat) (o : Nat → Nat) : Option (Nat → Nat) := (nA o (n - 1)).map fun a => rv n (a + 1) (n - 1) (swp o a (nB o a (n - 1)))
def nxL (n : Nat) (l : List Nat) : Option (List Nat) := (nxO n (fun x => l.getD x 0)).map fun o => (List.range n).map o
def sq (n : Nat) : Nat → List Nat → List (List Nat)
  | 0, _ => []
  | f + 1, l => l :: match nxL n l with
    | none => []
    | some l' => sq n f l'
def sqE (n : Nat) : Nat → List Nat → Bool
  | 0, _ => false
  | f + 1, l => match nxL n l with
    | none => true
    | some l' => sqE n f l'
theorem sq_ok : ∀ n : Fin 7, sq n.1 720 (List.range n.1) = pms n.1 ∧ sqE n.1 720 (List.range n.1) = true := by decide +kernel
theorem nA_some {o : Nat → Nat} : ∀ k a, nA o k = some a → a < k ∧ o a ≤ o (a + 1) := by
  intro k
  induction k with
  | zero => intro a h; cases h
  | succ k ih =>
    intro a h
    simp only [nA] at h
    by_cases c : o (k + 1) < o k
    · rw [if_pos c] at h; have := ih a h; exact ⟨by omega, this.2⟩
    · rw [if_neg c] at h; cases h; exact ⟨by omega, by omega⟩
theorem nB_b {o : Nat → Nat} {a : Nat} : ∀ b, nB o a b ≤ b := by
  intro b
  induction b with
  | zero => exact Nat.le_refl _
  | succ b ih => simp only [nB]; split <;> omega
theorem range_getD {n x : Nat} {o : Nat → Nat} (h : x < n) : ((List.range n).map o).getD x 0 = o x := by
  rw [List.getD_eq_getElem?_getD, List.getElem?_map, List.getElem?_range h]; rfl
def rF (g : Nat → Nat → Nat) (o : Option (Nat × List Nat)) (p : List Nat) : Option (Nat × List Nat) := match o with
  | none => some (cst g p, p)
  | some st => some (stO g st p)
theorem rF_some {g : Nat → Nat → Nat} : ∀ (l : List (List Nat)) (st : Nat × List Nat), l.foldl (rF g) (some st) = some (l.foldl (stO g) st) := by
  intro l
  induction l with
  | nil => intro st; rfl
  | cons p l ih => intro st; rw [List.foldl_cons, List.foldl_cons]; exact ih _
theorem rF_all {g : Nat → Nat → Nat} {n : Nat} (hn : n ≤ 6) (hg : ∀ a b, a < n → b < n → g a b ≤ 28) : (pms n).foldl (rF g) none = some (xS g n) := by
  rw [xS_fold]
  have hne : pms n ≠ [] := (pms_ok ⟨n, by omega⟩).2
  have hcs := fun p hp => cst_le hn hg (p := p) hp
  cases h : pms n with
  | nil => exact absurd h hne
  | cons p l =>
    rw [h] at hcs
    rw [List.foldl_cons, List.foldl_cons]
    have e : stO g (169, []) p = (cst g p, p) := if_neg (by have := hcs p List.mem_cons_self; show ¬ 169 ≤ cst g p; omega)
    rw [e]
    exact rF_some l _
def oFw : Option (Nat × List Nat) → Int32
  | none => -9
  | some st => nI st.1
/-- a row as cells -/
def rowC (D : bf_D) (a n : Nat) (l : List Nat) : Prop := l.length = n ∧ (∀ x ∈ l, x < n) ∧ ∀ x, x < n → D a x = nI (l.getD x 0)
theorem cst_n {g : Nat → Nat → Nat} {l : List Nat} {n : Nat} (h : l.length = n) : cst g l = bf_sm (fun x => g (l.getD x 0) (l.getD (x + 1) 0)) (n - 1) := by rw [← h]; rfl
def frO (D D' : bf_D) : Prop := ∀ a q, a ≠ 48 → D' a q = D a q
theorem c_X9_orderFlips {d : Nat} (hd : 1 ≤ d) {D : bf_D} {n : Nat} (hn : n ≤ 6) {o : Nat → Nat} (ho : ∀ x, x < n → D 48 x = nI (o x)) (ho6 : ∀ x, x < n → o x < n) {g : Nat → Nat → Nat} (hG : ∀ a, a < n → ∀ b, b < n → D 47 (6 * a + b) = nI (g a b)) : bf_Cf d mX9_orderFlips [.ref 37, .int (nI n)] D (some (.int (nI (bf_sm (fun x => g (o x) (o (x + 1))) (n - 1))))) D := by
  refine bf_Cf_of 0 hd mo_X9_orderFlips (Nat.le_of_ble_eq_true rfl) (fun e he J r => ?_)
  show J 0 [some (.ref 37), some (.int (nI n)), none, none] [] (bf_MD D)
  refine bf_iconst r.1 (v := nI 0) dX9_orderFlips_0 rfl ?_
  refine bf_istore_n r.1 (L2 := [some (.ref 37), some (.int (nI n)), some (.int (nI 0)), none]) dX9_orderFlips_1 rfl ?_
  refine bf_iconst r.1 (v := nI 1) dX9_orderFlips_2 rfl ?_
  refine bf_istore_n r.1 (L2 := [some (.ref 37), some (.int (nI n)), some (.int (nI 0)), some (.int (nI 1))]) dX9_orderFlips_3 rfl ?_
  have loop : ∀ t : Nat, t ≤ (n - 1) → J 4 [some (.ref 37), some (.int (nI n)), some (.int (nI (bf_sm (fun x => g (o x) (o (x + 1))) t))), some (.int (nI (t + 1)))] [] (bf_MD D) := by
    refine bf_down (fun t hle ih => ?_)
    refine bf_iload_n r.1 dX9_orderFlips_4 rfl ?_
    refine bf_iload_n r.1 dX9_orderFlips_5 rfl ?_
    refine nc_ge r (tgt := 41) dX9_orderFlips_6 (by decide) (by omega) (by omega) (fun c728 => ?_) (fun c728 => ?_)
    · refine bf_iload_n r.1 dX9_orderFlips_41 rfl ?_
      have et : t = n - 1 := by omega
      subst et
      exact rt_i r dX9_orderFlips_42 rfl rfl rfl rfl
    · have o1 := ho6 t (by omega)
      have o2 := ho6 (t + 1) (by omega)
      refine bf_iload_n r.1 dX9_orderFlips_9 rfl ?_
      refine bf_aload_n r.1 dX9_orderFlips_10 rfl ?_
      refine ig_ref r (b := 47) dX9_orderFlips_11 fl_X9_37 rfl (by decide) rfl ?_
      refine bf_bipush r.1 (v := nI 6) dX9_orderFlips_14 rfl ?_
      refine bf_aload_n r.1 dX9_orderFlips_16 rfl ?_
      refine ig_ref r (b := 48) dX9_orderFlips_17 fl_X9_40 rfl (by decide) rfl ?_
      refine bf_iload_n r.1 dX9_orderFlips_20 rfl ?_
      refine bf_iconst r.1 (v := nI 1) dX9_orderFlips_21 rfl ?_
      refine na_sub r dX9_orderFlips_22 (by omega) ?_
      refine ia_ld r (n := 6) (v := nI (o t)) dX9_orderFlips_23 rfl (by decide) (by omega) (show D 48 (t + 1 - 1) = nI (o t) from ho t (by omega)) ?_
      refine na_mul r dX9_orderFlips_24  ?_
      refine bf_aload_n r.1 dX9_orderFlips_25 rfl ?_
      refine ig_ref r (b := 48) dX9_orderFlips_26 fl_X9_40 rfl (by decide) rfl ?_
      refine bf_iload_n r.1 dX9_orderFlips_29 rfl ?_
      refine ia_ld r (n := 6) (v := nI (o (t + 1))) dX9_orderFlips_30 rfl (by decide) (by omega) (ho (t + 1) (by omega)) ?_
      refine na_add r dX9_orderFlips_31  ?_
      refine ia_ld r (n := 36) (v := nI (g (o t) (o (t + 1)))) dX9_orderFlips_32 rfl (by decide) (by omega) (hG _ o1 _ o2) ?_
      refine na_add r dX9_orderFlips_33  ?_
      refine bf_istore_n r.1 (L2 := [some (.ref 37), some (.int (nI n)), some (.int (nI (bf_sm (fun x => g (o x) (o (x + 1))) t + (g (o t) (o (t + 1)))))), some (.int (nI (t + 1)))]) dX9_orderFlips_34 rfl ?_
      refine na_inc r (v := t + 1 + 1) (L2 := [some (.ref 37), some (.int (nI n)), some (.int (nI (bf_sm (fun x => g (o x) (o (x + 1))) t + (g (o t) (o (t + 1)))))), some (.int (nI (t + 1 + 1)))]) dX9_orderFlips_35 rfl (nI_add _ 1) rfl ?_
      refine bf_goto r.1 (tgt := 4) dX9_orderFlips_38 (by decide) ?_
      exact ih (by omega)
  exact loop 0 (by omega) 
theorem c_X9_exchange {d : Nat} (hd : 1 ≤ d) {D : bf_D} {i j : Nat} (hi : i < 6) (hj : j < 6) : bf_Cf d mX9_exchange [.ref 37, .int (nI i), .int (nI j)] D none (bf_u (bf_u D 48 i (D 48 j)) 48 j (D 48 i)) := by
  refine bf_Cf_of 0 hd mo_X9_exchange (Nat.le_of_ble_eq_true rfl) (fun e he J r => ?_)
  show J 0 [some (.ref 37), some (.int (nI i)), some (.int (nI j)), none] [] (bf_MD D)
  refine bf_aload_n r.1 dX9_exchange_0 rfl ?_
  refine ig_ref r (b := 48) dX9_exchange_1 fl_X9_40 rfl (by decide) rfl ?_
  refine bf_iload_n r.1 dX9_exchange_4 rfl ?_
  refine ia_ld r (n := 6) (v := D 48 i) dX9_exchange_5 rfl (by decide) hi rfl ?_
  refine bf_istore_n r.1 (L2 := [some (.ref 37), some (.int (nI i)), some (.int (nI j)), some (.int (D 48 i))]) dX9_exchange_6 rfl ?_
  refine bf_aload_n r.1 dX9_exchange_7 rfl ?_
  refine ig_ref r (b := 48) dX9_exchange_8 fl_X9_40 rfl (by decide) rfl ?_
  refine bf_iload_n r.1 dX9_exchange_11 rfl ?_
  refine bf_aload_n r.1 dX9_exchange_12 rfl ?_
  refine ig_ref r (b := 48) dX9_exchange_13 fl_X9_40 rfl (by decide) rfl ?_
  refine bf_iload_n r.1 dX9_exchange_16 rfl ?_
  refine ia_ld r (n := 6) (v := D 48 j) dX9_exchange_17 rfl (by decide) hj rfl ?_
  refine ia_st r (n := 6) dX9_exchange_18 rfl (by decide) hi ?_
  refine bf_aload_n r.1 dX9_exchange_19 rfl ?_
  refine ig_ref r (b := 48) dX9_exchange_20 fl_X9_40 rfl (by decide) rfl ?_
  refine bf_iload_n r.1 dX9_exchange_23 rfl ?_
  refine bf_iload_n r.1 dX9_exchange_24 rfl ?_
  refine ia_st r (n := 6) dX9_exchange_25 rfl (by decide) hj ?_
  exact rt_v r dX9_exchange_26 rfl rfl
theorem swp_c {D : bf_D} {n i j : Nat} {o : Nat → Nat} (ho : ∀ x, x < n → D 48 x = nI (o x)) (hi : i < n) (hj : j < n) : ∀ x, x < n → bf_u (bf_u D 48 i (D 48 j)) 48 j (D 48 i) 48 x = nI (swp o i j x) := by
  intro x hx
  unfold swp
  by_cases e : x = j
  · subst e; rw [bf_us, if_pos rfl]; exact ho i hi
  · rw [if_neg e, bf_un (Or.inr e)]
    by_cases e2 : x = i
    · subst e2; rw [bf_us, if_pos rfl]; exact ho j hj
    · rw [if_neg e2, bf_un (Or.inr e2)]; exact ho x hx
theorem swp_6 {n i j : Nat} {o : Nat → Nat} (ho : ∀ x, x < n → o x < n) (hi : i < n) (hj : j < n) : ∀ x, x < n → swp o i j x < n := by
  intro x hx
  unfold swp
  split
  · exact ho i hi
  · split
    · exact ho j hj
    · exact ho x hx
theorem rv_6 {n : Nat} : ∀ f lo hi (o : Nat → Nat), (∀ x, x < n → o x < n) → hi < n ∨ n = 0 → ∀ x, x < n → rv f lo hi o x < n := by
  intro f
  induction f with
  | zero => intro lo hi o ho _ x hx; exact ho x hx
  | succ f ih =>
    intro lo hi o ho hh x hx
    simp only [rv]
    split
    · rename_i h
      rcases hh with hh | hh
      · exact ih _ _ _ (swp_6 ho (by omega) hh) (by omega) x hx
      · omega
    · exact ho x hx
theorem e_X9_nextOrder {d : Nat} (hd : 2 ≤ d) {D : bf_D} {n : Nat} (hn : n ≤ 6) {o : Nat → Nat} (ho : ∀ x, x < n → D 48 x = nI (o x)) (ho6 : ∀ x, x < n → o x < n) : bf_Ce d mX9_nextOrder [.ref 37, .int (nI n)] D (fun r D' => frO D D' ∧ ((r = some (.int (nI 0)) ∧ nxO n o = none) ∨ (r = some (.int (nI 1)) ∧ ∃ o', nxO n o = some o' ∧ (∀ x, x < n → D' 48 x = nI (o' x)) ∧ ∀ x, x < n → o' x < n))) := by
  refine bf_Ce_of 1 hd mo_X9_nextOrder (Nat.le_of_ble_eq_true rfl) (fun e he J r => ?_)
  show J 0 [some (.ref 37), some (.int (nI n)), none, none, none, none] [] (bf_MD D)
  have hn31 : n < 2 ^ 31 := by omega
  refine bf_iload_n r.1 dX9_nextOrder_0 rfl ?_
  refine bf_iconst r.1 (v := nI 2) dX9_nextOrder_1 rfl ?_
  refine bf_isub r.1 dX9_nextOrder_2 ?_
  refine bf_istore_n r.1 (L2 := [some (.ref 37), some (.int (nI n)), some (.int ((nI n) - (nI 2))), none, none, none]) dX9_nextOrder_3 rfl ?_
  have ea : (nI n) - (nI 2) = nI (n - 1) + Int32.ofInt (-1) ∨ n = 0 := by
    rcases Nat.eq_zero_or_pos n with h | h
    · exact Or.inr h
    · left; obtain ⟨m, rfl⟩ : ∃ m, n = m + 1 := ⟨n - 1, by omega⟩; rw [Nat.add_sub_cancel, ← nI_add]; have e2 : nI 2 = 1 + 1 := by decide
      have e1 : nI 1 = 1 := by decide
      have e3 : Int32.ofInt (-1) = -1 := by decide
      rw [e1, e2, e3]; grind
  rcases ea with ea | h0
  · rw [ea]
    have loopA : ∀ k, k ≤ n - 1 → nA o k = nA o (n - 1) → J 4 [some (.ref 37), some (.int (nI n)), some (.int (nI k + Int32.ofInt (-1))), none, none, none] [] (bf_MD D) := by
      intro k
      induction k with
      | zero =>
        intro hk he
        rw [bf_m0]
        refine bf_iload_n r.1 dX9_nextOrder_4 rfl ?_
        refine bf_if_lt r.1 (tgt := 31) dX9_nextOrder_5 (by decide) (fun c729 => ?_) (fun c729 => ?_)
        · refine bf_iload_n r.1 dX9_nextOrder_31 rfl ?_
          refine bf_if_ge r.1 (tgt := 37) dX9_nextOrder_32 (by decide) (fun c730 => ?_) (fun c730 => ?_)
          · exact absurd c730 (by decide)
          · refine bf_iconst r.1 (v := nI 0) dX9_nextOrder_35 rfl ?_
            exact re_i r dX9_nextOrder_36 rfl (by decide) ⟨fun _ _ _ => rfl, Or.inl ⟨rfl, by unfold nxO; rw [← he]; rfl⟩⟩
        · exact absurd (by decide) c729
      | succ k ih =>
        intro hk he
        rw [bf_ms1]
        have o1 := ho6 k (by omega)
        have o2 := ho6 (k + 1) (by omega)
        refine bf_iload_n r.1 dX9_nextOrder_4 rfl ?_
        refine nz_lt r (tgt := 31) dX9_nextOrder_5 (by decide) (by omega) (fun c731 => ?_) (fun c731 => ?_)
        · exact absurd c731 (Nat.not_lt_zero _)
        · refine bf_aload_n r.1 dX9_nextOrder_8 rfl ?_
          refine ig_ref r (b := 48) dX9_nextOrder_9 fl_X9_40 rfl (by decide) rfl ?_
          refine bf_iload_n r.1 dX9_nextOrder_12 rfl ?_
          refine ia_ld r (n := 6) (v := nI (o k)) dX9_nextOrder_13 rfl (by decide) (by omega) (ho _ (by omega)) ?_
          refine bf_aload_n r.1 dX9_nextOrder_14 rfl ?_
          refine ig_ref r (b := 48) dX9_nextOrder_15 fl_X9_40 rfl (by decide) rfl ?_
          refine bf_iload_n r.1 dX9_nextOrder_18 rfl ?_
          refine bf_iconst r.1 (v := nI 1) dX9_nextOrder_19 rfl ?_
          refine na_add r dX9_nextOrder_20  ?_
          refine ia_ld r (n := 6) (v := nI (o (k + 1))) dX9_nextOrder_21 rfl (by decide) (by omega) (ho _ (by omega)) ?_
          refine nc_le r (tgt := 31) dX9_nextOrder_22 (by decide) (by omega) (by omega) (fun c732 => ?_) (fun c732 => ?_)
          · refine bf_iload_n r.1 dX9_nextOrder_31 rfl ?_
            refine nz_ge r (tgt := 37) dX9_nextOrder_32 (by decide) (by omega) (fun c733 => ?_) (fun c733 => ?_)
            · refine bf_iload_n r.1 dX9_nextOrder_37 rfl ?_
              refine bf_iconst r.1 (v := nI 1) dX9_nextOrder_38 rfl ?_
              refine na_sub r dX9_nextOrder_39 (by omega) ?_
              refine bf_istore_n r.1 (L2 := [some (.ref 37), some (.int (nI n)), some (.int (nI k)), some (.int (nI (n - 1))), none, none]) dX9_nextOrder_40 rfl ?_
              have hA : nA o (n - 1) = some k := by rw [← he]; simp only [nA]; rw [if_neg (Nat.not_lt.mpr c732)]
              have hk1 : o k ≤ o (k + 1) := c732
              have loopB : ∀ b, k < b → b < n → nB o k b = nB o k (n - 1) → J 41 [some (.ref 37), some (.int (nI n)), some (.int (nI k)), some (.int (nI b)), none, none] [] (bf_MD D) := by
                intro b
                induction b with
                | zero => intro hb; omega
                | succ b ihb =>
                  intro hb1 hb2 heb
                  have o3 := ho6 (b + 1) (by omega)
                  refine bf_aload_n r.1 dX9_nextOrder_41 rfl ?_
                  refine ig_ref r (b := 48) dX9_nextOrder_42 fl_X9_40 rfl (by decide) rfl ?_
                  refine bf_iload_n r.1 dX9_nextOrder_45 rfl ?_
                  refine ia_ld r (n := 6) (v := nI (o (b + 1))) dX9_nextOrder_46 rfl (by decide) (by omega) (ho _ (by omega)) ?_
                  refine bf_aload_n r.1 dX9_nextOrder_47 rfl ?_
                  refine ig_ref r (b := 48) dX9_nextOrder_48 fl_X9_40 rfl (by decide) rfl ?_
                  refine bf_iload_n r.1 dX9_nextOrder_51 rfl ?_
                  refine ia_ld r (n := 6) (v := nI (o k)) dX9_nextOrder_52 rfl (by decide) (by omega) (ho _ (by omega)) ?_
                  refine nc_ge r (tgt := 62) dX9_nextOrder_53 (by decide) (by omega) (by omega) (fun c734 => ?_) (fun c734 => ?_)
                  · refine bf_aload_n r.1 dX9_nextOrder_62 rfl ?_
                    refine bf_iload_n r.1 dX9_nextOrder_63 rfl ?_
                    refine bf_iload_n r.1 dX9_nextOrder_64 rfl ?_
                    refine cl_v r (y2 := mX9_exchange) dX9_nextOrder_65 li_X9_235 mv_X9_exchange rfl (by decide) [.int (nI k), .int (nI (b + 1))] [] rfl (Nat.le_of_ble_eq_true rfl) rfl (c_X9_exchange (by omega) (D := D) (i := k) (j := b + 1) (by omega) (by omega)) ?_
                    show J 68 [some (.ref 37), some (.int (nI n)), some (.int (nI k)), some (.int (nI (b + 1))), none, none] [] (bf_MD (bf_u (bf_u D 48 k (D 48 (b + 1))) 48 (b + 1) (D 48 k)))
                    refine bf_iload_n r.1 dX9_nextOrder_68 rfl ?_
                    refine bf_iconst r.1 (v := nI 1) dX9_nextOrder_69 rfl ?_
                    refine na_add r dX9_nextOrder_70  ?_
                    refine bf_istore r.1 (L2 := [some (.ref 37), some (.int (nI n)), some (.int (nI k)), some (.int (nI (b + 1))), some (.int (nI (k + 1))), none]) dX9_nextOrder_71 rfl ?_
                    refine bf_iload_n r.1 dX9_nextOrder_73 rfl ?_
                    refine bf_iconst r.1 (v := nI 1) dX9_nextOrder_74 rfl ?_
                    refine na_sub r dX9_nextOrder_75 (by omega) ?_
                    refine bf_istore r.1 (L2 := [some (.ref 37), some (.int (nI n)), some (.int (nI k)), some (.int (nI (b + 1))), some (.int (nI (k + 1))), some (.int (nI (n - 1)))]) dX9_nextOrder_76 rfl ?_
                    have hB : nB o k (n - 1) = b + 1 := by rw [← heb]; simp only [nB]; rw [if_neg (Nat.not_lt.mpr c734)]
                    have hc1 := swp_c (i := k) (j := b + 1) ho (by omega) (by omega)
                    have h61 := swp_6 (i := k) (j := b + 1) ho6 (by omega) (by omega)
                    have hf1 : frO D (bf_u (bf_u D 48 k (D 48 (b + 1))) 48 (b + 1) (D 48 k)) := fun a q h => (bf_un (Or.inl h)).trans (bf_un (Or.inl h))
                    generalize bf_u (bf_u D 48 k (D 48 (b + 1))) 48 (b + 1) (D 48 k) = D1 at hc1 hf1 ⊢
                    have loopC : ∀ (f lo hi : Nat) (p : Nat → Nat) (D2 : bf_D), hi ≤ lo + f → hi < n → lo ≤ n → (∀ x, x < n → D2 48 x = nI (p x)) → (∀ x, x < n → p x < n) → frO D D2 → rv f lo hi p = rv n (k + 1) (n - 1) (swp o k (b + 1)) → J 78 [some (.ref 37), some (.int (nI n)), some (.int (nI k)), some (.int (nI (b + 1))), some (.int (nI lo)), some (.int (nI hi))] [] (bf_MD D2) := by
                      intro f
                      induction f with
                      | zero =>
                        intro lo hi p D2 hfu hhi hlo hp hp6 hfr heC
                        refine bf_iload r.1 dX9_nextOrder_78 rfl ?_
                        refine bf_iload r.1 dX9_nextOrder_80 rfl ?_
                        refine nc_le r (tgt := 102) dX9_nextOrder_82 (by decide) (by omega) (by omega) (fun c735 => ?_) (fun c735 => ?_)
                        · refine bf_iconst r.1 (v := nI 1) dX9_nextOrder_102 rfl ?_
                          exact re_i r dX9_nextOrder_103 rfl (by decide) ⟨hfr, Or.inr ⟨rfl, p, by unfold nxO; rw [hA, Option.map_some, hB, ← heC]; exact congrArg some rfl, hp, hp6⟩⟩
                        · exact absurd c735 (by omega)
                      | succ f ihf =>
                        intro lo hi p D2 hfu hhi hlo hp hp6 hfr heC
                        refine bf_iload r.1 dX9_nextOrder_78 rfl ?_
                        refine bf_iload r.1 dX9_nextOrder_80 rfl ?_
                        refine nc_le r (tgt := 102) dX9_nextOrder_82 (by decide) (by omega) (by omega) (fun c736 => ?_) (fun c736 => ?_)
                        · refine bf_iconst r.1 (v := nI 1) dX9_nextOrder_102 rfl ?_
                          exact re_i r dX9_nextOrder_103 rfl (by decide) ⟨hfr, Or.inr ⟨rfl, p, by unfold nxO; rw [hA, Option.map_some, hB, ← heC]; exact congrArg some (by simp only [rv]; rw [if_neg (Nat.not_lt.mpr c736)]), hp, hp6⟩⟩
                        · refine bf_aload_n r.1 dX9_nextOrder_85 rfl ?_
                          refine bf_iload r.1 dX9_nextOrder_86 rfl ?_
                          refine bf_iload r.1 dX9_nextOrder_88 rfl ?_
                          refine cl_v r (y2 := mX9_exchange) dX9_nextOrder_90 li_X9_235 mv_X9_exchange rfl (by decide) [.int (nI lo), .int (nI hi)] [] rfl (Nat.le_of_ble_eq_true rfl) rfl (c_X9_exchange (by omega) (D := D2) (i := lo) (j := hi) (by omega) (by omega)) ?_
                          show J 93 [some (.ref 37), some (.int (nI n)), some (.int (nI k)), some (.int (nI (b + 1))), some (.int (nI lo)), some (.int (nI hi))] [] (bf_MD (bf_u (bf_u D2 48 lo (D2 48 hi)) 48 hi (D2 48 lo)))
                          refine na_inc r (v := lo + 1) (L2 := [some (.ref 37), some (.int (nI n)), some (.int (nI k)), some (.int (nI (b + 1))), some (.int (nI (lo + 1))), some (.int (nI hi))]) dX9_nextOrder_93 rfl (nI_add _ 1) rfl ?_
                          refine na_inc r (v := hi - 1) (L2 := [some (.ref 37), some (.int (nI n)), some (.int (nI k)), some (.int (nI (b + 1))), some (.int (nI (lo + 1))), some (.int (nI (hi - 1)))]) dX9_nextOrder_96 rfl (bf_dec (by omega)) rfl ?_
                          refine bf_goto r.1 (tgt := 78) dX9_nextOrder_99 (by decide) ?_
                          exact ihf _ _ _ _ (by omega) (by omega) (by omega) (swp_c hp (by omega) (by omega)) (swp_6 hp6 (by omega) (by omega)) (fun a q h => (bf_un (Or.inl h)).trans ((bf_un (Or.inl h)).trans (hfr a q h))) (by rw [← heC]; simp only [rv]; rw [if_pos c736])
                    exact loopC n (k + 1) (n - 1) _ D1 (by omega) (by omega) (by omega) hc1 h61 hf1 rfl
                  · refine na_inc r (v := b) (L2 := [some (.ref 37), some (.int (nI n)), some (.int (nI k)), some (.int (nI b)), none, none]) dX9_nextOrder_56 rfl (pk_m1 _) rfl ?_
                    refine bf_goto r.1 (tgt := 41) dX9_nextOrder_59 (by decide) ?_
                    have hbk : ¬ b = k := fun q => by subst q; omega
                    exact ihb (by omega) (by omega) (by rw [← heb]; simp only [nB]; rw [if_pos c734])
              exact loopB (n - 1) (by omega) (by omega) rfl
            · exact absurd c733 (Nat.not_lt_zero _)
          · refine bf_iinc r.1 (v := nI k + Int32.ofInt (-1)) (L2 := [some (.ref 37), some (.int (nI n)), some (.int (nI k + Int32.ofInt (-1))), none, none, none]) dX9_nextOrder_25 rfl rfl rfl ?_
            refine bf_goto r.1 (tgt := 4) dX9_nextOrder_28 (by decide) ?_
            exact ih (by omega) (by rw [← he]; simp only [nA]; rw [if_pos c732])
    exact loopA (n - 1) (Nat.le_refl _) rfl
  · subst h0
    show J 4 [some (.ref 37), some (.int (nI 0)), some (.int (nI 0 - nI 2)), none, none, none] [] (bf_MD D)
    refine bf_iload_n r.1 dX9_nextOrder_4 rfl ?_
    refine bf_if_lt r.1 (tgt := 31) dX9_nextOrder_5 (by decide) (fun c737 => ?_) (fun c737 => ?_)
    · refine bf_iload_n r.1 dX9_nextOrder_31 rfl ?_
      refine bf_if_ge r.1 (tgt := 37) dX9_nextOrder_32 (by decide) (fun c738 => ?_) (fun c738 => ?_)
      · exact absurd c738 (by decide)
      · refine bf_iconst r.1 (v := nI 0) dX9_nextOrder_35 rfl ?_
        exact re_i r dX9_nextOrder_36 rfl (by decide) ⟨fun _ _ _ => rfl, Or.inl ⟨rfl, rfl⟩⟩
    · exact absurd (by decide) c737
