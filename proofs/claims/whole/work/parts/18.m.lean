/-- a call whose cells afterwards are described -/
def bf_Ce (d : Nat) (y : bf_M) (vs : List Value) (D : bf_D) (Q : Option Value → bf_D → Prop) : Prop := bf_Cl d y vs (bf_MD D) 57 (fun r G => ∃ D', G = bf_MD D' ∧ Q r D')
theorem bf_Ce_of {d : Nat} {y : bf_M} {vs : List Value} {D : bf_D} {Q : Option Value → bf_D → Prop} {n : Nat} (k : Nat) (hd : k + 1 ≤ d) (ho : bf_mo y n) (hl : (bf_sl vs).length ≤ y.2.2.1) (h : ∀ (e : Nat), k ≤ e → ∀ J : bf_J, bf_All (bf_Cl e) 57 (fun r G => ∃ D', G = bf_MD D' ∧ Q r D') y J → J 0 (bf_ini y.2.2.1 vs) [] (bf_MD D)) : bf_Ce d y vs D Q := by
  obtain ⟨e, rfl⟩ : ∃ e, d = e + 1 := ⟨d - 1, by omega⟩
  exact ⟨⟨ho.1, ho.2.2.1⟩, Nat.le_refl _, Nat.le_refl _, hl, h e (by omega)⟩
theorem bf_Ce_Cf {d : Nat} {y : bf_M} {vs : List Value} {D D' : bf_D} {r : Option Value} {Q : Option Value → bf_D → Prop} (h : bf_Cf d y vs D r D') (hq : Q r D') : bf_Ce d y vs D Q := bf_Cl_post d h (fun _ _ e => ⟨D', e.2, by rw [e.1]; exact hq⟩)
theorem bf_Ce_w {d : Nat} {y : bf_M} {vs : List Value} {D : bf_D} {Q Q' : Option Value → bf_D → Prop} (h : bf_Ce d y vs D Q) (hq : ∀ r D', Q r D' → Q' r D') : bf_Ce d y vs D Q' := bf_Cl_post d h (fun _ _ ⟨D', e, q⟩ => ⟨D', e, hq _ _ q⟩)
section bfKe
variable {e : Nat} {Post : bf_P} {y : bf_M} {J : bf_J} {pc : Nat} {L : bf_L} {D : bf_D}
theorem ce_v (r : bf_All (bf_Cl e) 57 Post y J) {S0 : List Value} {i ci n a : Nat} {y2 : bf_M} {Q : Option Value → bf_D → Prop} (d : decode y.2.1 pc = .ok (.invokevirtual i, 3)) (hli : bf_li y.1.cls i y2.1) (hm : bf_mv y2 ci n) (hk : (bf_kd a).1 = ci) (ha : a < 57) (vs S : List Value) (hn : vs.length = n) (hsum : (S.map Value.category).sum ≤ 8) (hS : S0 = vs.reverse ++ .ref a :: S) (hC : bf_Ce e y2 (.ref a :: vs) D Q) (k : ∀ res D', Q res D' → J (pc + 3) L (res.toList ++ S) (bf_MD D')) : J pc L S0 (bf_MD D) :=
  r.2.1.1 pc L S S0 (bf_MD D) i y2 ci n a vs 57 _ d hli hm hk ha hn hsum hS hC (Nat.le_refl _) (fun r' G' ⟨D', h1, h2⟩ _ => by rw [h1]; exact k _ _ h2)
theorem ce_s (r : bf_All (bf_Cl e) 57 Post y J) {S0 : List Value} {i n : Nat} {y2 : bf_M} {Q : Option Value → bf_D → Prop} (d : decode y.2.1 pc = .ok (.invokestatic i, 3)) (hli : bf_li y.1.cls i y2.1) (hm : bf_ms y2 n) (vs S : List Value) (hn : vs.length = n) (hsum : (S.map Value.category).sum ≤ 8) (hS : S0 = vs.reverse ++ S) (hC : bf_Ce e y2 vs D Q) (k : ∀ res D', Q res D' → J (pc + 3) L (res.toList ++ S) (bf_MD D')) : J pc L S0 (bf_MD D) :=
  r.2.1.2.1 pc L S S0 (bf_MD D) i y2 n vs 57 _ d hli hm hn hsum hS hC (Nat.le_refl _) (fun r' G' ⟨D', h1, h2⟩ _ => by rw [h1]; exact k _ _ h2)
theorem re_i {C : bf_CR} {Q : Option Value → bf_D → Prop} {v : Int32} {ty : FieldType} (r : bf_All C 57 (fun r G => ∃ D', G = bf_MD D' ∧ Q r D') y J) (d : decode y.2.1 pc = .ok (.ireturn, 1)) (hty : y.2.2.2 = some ty) (hn : narrow ty (.int v) = .int v) (h : Q (some (.int v)) D) : J pc L [.int v] (bf_MD D) := r.2.2.2.1 pc L (bf_MD D) v ty d hty hn rfl ⟨D, rfl, h⟩
theorem re_l {C : bf_CR} {Q : Option Value → bf_D → Prop} {v : Int64} (r : bf_All C 57 (fun r G => ∃ D', G = bf_MD D' ∧ Q r D') y J) (d : decode y.2.1 pc = .ok (.lreturn, 1)) (hty : y.2.2.2 = some .long) (h : Q (some (.long v)) D) : J pc L [.long v] (bf_MD D) := r.2.2.2.2.1 pc L (bf_MD D) v d hty rfl ⟨D, rfl, h⟩
theorem re_v {C : bf_CR} {Q : Option Value → bf_D → Prop} (r : bf_All C 57 (fun r G => ∃ D', G = bf_MD D' ∧ Q r D') y J) (d : decode y.2.1 pc = .ok (.return_, 1)) (hty : y.2.2.2 = none) (h : Q none D) : J pc L [] (bf_MD D) := r.2.2.2.2.2 pc L (bf_MD D) d hty rfl ⟨D, rfl, h⟩
end bfKe
/-- nothing outside lo .. hi has changed -/
def bf_fr (lo hi : Nat) (D D' : bf_D) : Prop := ∀ a j, (a < lo ∨ hi ≤ a) → D' a j = D a j
theorem bf_fr_rf {lo hi : Nat} {D : bf_D} : bf_fr lo hi D D := fun _ _ _ => rfl
theorem bf_fr_tr {lo hi : Nat} {D D' D2 : bf_D} (h : bf_fr lo hi D D') (h2 : bf_fr lo hi D' D2) : bf_fr lo hi D D2 := fun a j ha => (h2 a j ha).trans (h a j ha)
theorem bf_fr_w {lo hi lo' hi' : Nat} {D D' : bf_D} (h : bf_fr lo hi D D') (h1 : lo' ≤ lo) (h2 : hi ≤ hi') : bf_fr lo' hi' D D' := fun a j ha => h a j (by omega)
theorem bf_fr_u {lo hi : Nat} {D D' : bf_D} {b i : Nat} {v : Int32} (h : bf_fr lo hi D D') (hb : lo ≤ b ∧ b < hi) : bf_fr lo hi D (bf_u D' b i v) := fun a j ha => (bf_un (by omega)).trans (h a j ha)
/-- a place becomes another one -/
def pSet (P : bf_Pn) (k q dd st : Nat) (wf : Nat → Nat) : bf_Pn := (pN P, pL P, pS P, (fun i => if i = k then q else pK P i), (fun i => if i = k then dd else pD P i), (fun i => if i = k then st else pT P i), fun i b => if i = k then wf b else pW P i b)
section bfset
variable {P : bf_Pn} {k q dd st : Nat} {wf : Nat → Nat}
theorem pSet_K {i : Nat} : pK (pSet P k q dd st wf) i = if i = k then q else pK P i := rfl
theorem pSet_D {i : Nat} : pD (pSet P k q dd st wf) i = if i = k then dd else pD P i := rfl
theorem pSet_T {i : Nat} : pT (pSet P k q dd st wf) i = if i = k then st else pT P i := rfl
theorem pSet_W {i b : Nat} : pW (pSet P k q dd st wf) i b = if i = k then wf b else pW P i b := rfl
theorem pSet_Bk {d : Nat} : pB (pSet P k q dd st wf) k d = bf_bn q dd st d := by unfold pB; rw [pSet_K, pSet_D, pSet_T, if_pos rfl, if_pos rfl, if_pos rfl]
theorem pSet_Bo {i d : Nat} (h : i ≠ k) : pB (pSet P k q dd st wf) i d = pB P i d := by unfold pB; rw [pSet_K, pSet_D, pSet_T, if_neg h, if_neg h, if_neg h]
theorem cP_set {D D' : bf_D} (hc : cP D P) (ho : ∀ a j, a ≠ 6 + 3 * k → a ≠ 7 + 3 * k → a ≠ 8 + 3 * k → a < 37 → D' a j = D a j) (hk4 : k < 4) (hn4 : pN P ≤ 4) (h3 : D' (6 + 3 * k) 3 = nI q) (h4 : D' (6 + 3 * k) 4 = nI dd) (h5 : D' (6 + 3 * k) 5 = nI st) (h7 : ∀ d, d < 10 → D' (7 + 3 * k) d = nI (bf_bn q dd st d)) (h8 : ∀ b, b < 7 → D' (8 + 3 * k) b = nI (wf b)) : cP D' (pSet P k q dd st wf) := by
  refine ⟨⟨?_, ?_, ?_, ?_⟩, fun i hi => ?_, fun i hi => ?_⟩
  · rw [ho 2 1 (by omega) (by omega) (by omega) (by omega)]; exact cP_n (P := P) hc
  · rw [ho 2 2 (by omega) (by omega) (by omega) (by omega)]; exact cP_l (P := P) hc
  · rw [ho 2 3 (by omega) (by omega) (by omega) (by omega)]; exact cP_s (P := P) hc
  · rw [ho 2 4 (by omega) (by omega) (by omega) (by omega)]; exact cP_x (P := P) hc
  · have hi4 : i < 4 := Nat.lt_of_lt_of_le hi hn4
    have hi' : i < pN P := hi
    by_cases e : i = k
    · subst e
      refine ⟨?_, ?_, ?_, fun d hd => ?_, fun b hb => ?_⟩
      · rw [pSet_K, if_pos rfl]; exact h3
      · rw [pSet_D, if_pos rfl]; exact h4
      · rw [pSet_T, if_pos rfl]; exact h5
      · rw [pSet_Bk]; exact h7 d hd
      · rw [pSet_W, if_pos rfl]; exact h8 b hb
    · refine ⟨?_, ?_, ?_, fun d hd => ?_, fun b hb => ?_⟩
      · rw [pSet_K, if_neg e, ho _ _ (by omega) (by omega) (by omega) (by omega)]; exact cP_k hc hi'
      · rw [pSet_D, if_neg e, ho _ _ (by omega) (by omega) (by omega) (by omega)]; exact cP_d hc hi'
      · rw [pSet_T, if_neg e, ho _ _ (by omega) (by omega) (by omega) (by omega)]; exact cP_t hc hi'
      · rw [pSet_Bo e, ho _ _ (by omega) (by omega) (by omega) (by omega)]; exact cP_b hc hi' hd
      · rw [pSet_W, if_neg e, ho _ _ (by omega) (by omega) (by omega) (by omega)]; exact cP_w hc hi' hb
  · rw [ho 5 i (by omega) (by omega) (by omega) (by omega)]; exact cP_lk hc hi
theorem vP_set (hv : vP P) (hk : k < pN P) (h1 : q < 3) (h2 : dd < 128) (h3 : st < 128) (h4 : ∀ b, b < 7 → wf b ≤ pL P ∧ (dd.testBit b = false → wf b < pL P)) : vP (pSet P k q dd st wf) := by
  refine ⟨hv.1, hv.2.1, hv.2.2.1, hv.2.2.2.1, fun i hi => ?_⟩
  by_cases e : i = k
  · subst e
    rw [pSet_K, pSet_D, pSet_T, if_pos rfl, if_pos rfl, if_pos rfl]
    exact ⟨h1, h2, h3, fun b hb => by rw [pSet_W, if_pos rfl]; exact h4 b hb⟩
  · rw [pSet_K, pSet_D, pSet_T, if_neg e, if_neg e, if_neg e]
    have h := hv.2.2.2.2 i hi
    exact ⟨h.1, h.2.1, h.2.2.1, fun b hb => by rw [pSet_W, if_neg e]; exact h.2.2.2 b hb⟩
end bfset
/-- what burns, bar by bar -/
theorem bf_bn_bit {kd dd st d b : Nat} (hb : b < 7) : (bf_bn kd dd st d).testBit b = (((bf_lk (kd * 10 + d)).testBit b && !dd.testBit b) || st.testBit b) := by
  unfold bf_bn
  have h7 : Nat.testBit 127 b = true := by
    have key : ∀ b, b < 7 → Nat.testBit 127 b = true := by decide
    exact key b hb
  rw [Nat.testBit_or, Nat.testBit_and, Nat.testBit_xor, h7]
  simp
theorem pB_flip {P : bf_Pn} {k x z b : Nat} (hb : b < 7) (h : ¬ (pB P k x ^^^ pB P k z) / 2 ^ b &&& 1 = 0) : (pD P k).testBit b = false ∧ (pT P k).testBit b = false := by
  rw [bf_tb0, Nat.testBit_xor] at h
  unfold pB at h
  rw [bf_bn_bit hb, bf_bn_bit hb] at h
  cases h1 : (pD P k).testBit b <;> cases h2 : (pT P k).testBit b <;> simp_all
theorem bf_wd_bit {fl lf : Nat} {wf : Nat → Nat} {dd b : Nat} : ∀ n, (bf_wd fl lf wf dd n).testBit b = (dd.testBit b || decide (b < n ∧ ¬ (fl / 2 ^ b &&& 1 = 0) ∧ lf ≤ wf b + 1)) := by
  intro n
  induction n with
  | zero => simp [bf_wd]
  | succ n ih =>
    simp only [bf_wd]
    by_cases h1 : fl / 2 ^ n &&& 1 = 0
    · rw [if_pos h1, ih]
      congr 1
      apply decide_eq_decide.mpr
      constructor
      · rintro ⟨a, c, e⟩; exact ⟨by omega, c, e⟩
      · rintro ⟨a, c, e⟩
        refine ⟨?_, c, e⟩
        by_cases e2 : b = n
        · subst e2; exact absurd h1 c
        · omega
    · rw [if_neg h1]
      by_cases h2 : wf n + 1 < lf
      · rw [if_pos h2, ih]
        congr 1
        apply decide_eq_decide.mpr
        constructor
        · rintro ⟨a, c, e⟩; exact ⟨by omega, c, e⟩
        · rintro ⟨a, c, e⟩
          refine ⟨?_, c, e⟩
          by_cases e2 : b = n
          · subst e2; omega
          · omega
      · rw [if_neg h2, Nat.testBit_or, ih, Nat.one_mul, Nat.testBit_two_pow]
        by_cases e2 : n = b
        · subst e2
          have : decide (n < n + 1 ∧ ¬ (fl / 2 ^ n &&& 1 = 0) ∧ lf ≤ wf n + 1) = true := decide_eq_true ⟨by omega, h1, by omega⟩
          rw [this]
          simp
        · have e3 : (b < n + 1 ∧ ¬ (fl / 2 ^ b &&& 1 = 0) ∧ lf ≤ wf b + 1) ↔ (b < n ∧ ¬ (fl / 2 ^ b &&& 1 = 0) ∧ lf ≤ wf b + 1) := ⟨fun ⟨a, c, e⟩ => ⟨by omega, c, e⟩, fun ⟨a, c, e⟩ => ⟨by omega, c, e⟩⟩
          simp only [e3]
          simp [e2]
theorem bf_wd_c0 {fl lf : Nat} {wf : Nat → Nat} {dd : Nat} : ∀ n, bf_wc fl lf wf n = 0 → bf_wd fl lf wf dd n = dd := by
  intro n
  induction n with
  | zero => intro _; rfl
  | succ n ih =>
    simp only [bf_wc, bf_wd]
    split
    · exact ih
    · split
      · exact ih
      · intro h; omega
/-- a place whose bars flip -/
def pWr (P : bf_Pn) (k fl : Nat) : bf_Pn := pSet P k (pK P k) (bf_wd fl (pL P) (pW P k) (pD P k) 7) (pT P k) (fun b => if fl / 2 ^ b &&& 1 = 0 then pW P k b else pW P k b + 1)
theorem vP_wr {P : bf_Pn} {k x z : Nat} (hv : vP P) (hk : k < pN P) : vP (pWr P k (pB P k x ^^^ pB P k z)) := by
  have h := hv.2.2.2.2 k hk
  refine vP_set hv hk h.1 (bf_wd_lt h.2.1 7 (Nat.le_refl _)) h.2.2.1 (fun b hb => ?_)
  have hw := h.2.2.2 b hb
  by_cases hz : (pB P k x ^^^ pB P k z) / 2 ^ b &&& 1 = 0
  · rw [if_pos hz]
    refine ⟨hw.1, fun hd => hw.2 ?_⟩
    rw [bf_wd_bit] at hd
    cases h2 : (pD P k).testBit b
    · rfl
    · rw [h2] at hd; simp at hd
  · rw [if_neg hz]
    have hl := hw.2 (pB_flip hb hz).1
    refine ⟨hl, fun hd => ?_⟩
    rw [bf_wd_bit] at hd
    have h3 : ¬ (b < 7 ∧ ¬ ((pB P k x ^^^ pB P k z) / 2 ^ b &&& 1 = 0) ∧ pL P ≤ pW P k b + 1) := by
      intro hh
      rw [decide_eq_true hh] at hd
      simp at hd
    rcases Nat.lt_or_ge (pW P k b + 1) (pL P) with h4 | h4
    · exact h4
    · exact absurd ⟨hb, hz, h4⟩ h3
theorem bf_lD_o {D : bf_D} {k q dd st b j : Nat} (h : b ≠ 7 + 3 * k) : bf_lD D k q dd st b j = D b j := bf_fd_out (Or.inl h)
theorem bf_lD_i {D : bf_D} {k q dd st d : Nat} (h : d < 10) : bf_lD D k q dd st (7 + 3 * k) d = nI (bf_bn q dd st d) := bf_fd_in h
theorem e_X3_wearBetween {d : Nat} (hd : 5 ≤ d) {D : bf_D} {P : bf_Pn} (hv : vP P) (hc : cP D P) {k x z : Nat} (hk : k < pN P) (hx : x < 10) (hz : z < 10) : bf_Ce d mX3_wearBetween [.ref (6 + 3 * k), .int (nI x), .int (nI z), .int (nI (pL P))] D (fun r D' => r = some (.int (nI (bf_wc (pB P k x ^^^ pB P k z) (pL P) (pW P k) 7))) ∧ cP D' (pWr P k (pB P k x ^^^ pB P k z)) ∧ bf_fr 2 18 D D') := by
  have hn4 := hv.1
  have hL := hv.2.1
  refine bf_Ce_Cf (c_X3_wearBetween hd hv hc hk hx hz (by omega)) ⟨rfl, ?_, ?_⟩
  · generalize pB P k x ^^^ pB P k z = fl
    have w8 : ∀ b, b < 7 → bf_wD D k fl (pL P) (pW P k) (pD P k) 7 (8 + 3 * k) b = nI (if fl / 2 ^ b &&& 1 = 0 then pW P k b else pW P k b + 1) := by
      intro b hb
      rw [bf_wD_lo hb]
      split
      · exact cP_w hc hk hb
      · rfl
    unfold bf_wE
    split
    · rename_i h0
      refine cP_set hc (fun a j h1 h2 h3 h4 => bf_wD_o h3 (Or.inl h1) 7) (by omega) hn4 ((bf_wD_o (by omega) (by omega) 7).trans (cP_k hc hk)) (bf_wD_d (cP_d hc hk) 7) ((bf_wD_o (by omega) (by omega) 7).trans (cP_t hc hk)) (fun d hd => ?_) w8
      rw [bf_wd_c0 7 (by omega), bf_wD_o (by omega) (by omega) 7]
      exact cP_b hc hk hd
    · refine cP_set hc (fun a j h1 h2 h3 h4 => (bf_lD_o h2).trans (bf_wD_o h3 (Or.inl h1) 7)) (by omega) hn4 ?_ ?_ ?_ (fun d hd => bf_lD_i hd) (fun b hb => ?_)
      · rw [bf_lD_o (by omega)]; exact (bf_wD_o (by omega) (by omega) 7).trans (cP_k hc hk)
      · rw [bf_lD_o (by omega)]; exact bf_wD_d (cP_d hc hk) 7
      · rw [bf_lD_o (by omega)]; exact (bf_wD_o (by omega) (by omega) 7).trans (cP_t hc hk)
      · rw [bf_lD_o (by omega)]; exact w8 b hb
  · intro a j ha
    unfold bf_wE
    split
    · exact bf_wD_o (by omega) (by omega) 7
    · rw [bf_lD_o (by omega)]; exact bf_wD_o (by omega) (by omega) 7
