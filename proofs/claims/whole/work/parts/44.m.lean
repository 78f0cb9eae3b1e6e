/-! the reference: seen -/
def bgR (P : bf_Pn) (c : Nat → Nat) (n s u : Nat) : Bool := decide (u + (n - 1) * s < pX P) && bf_al (fun i => bf_al (fun k => decide (pB P k (pG P (u + i * s) k) = c (pN P * i + k))) (pN P)) n
def bgN (P : bf_Pn) (c : Nat → Nat) (n s u : Nat) : Bool := decide (n = 0) || bgR P c n s u
theorem rw_al (F : Nat → Nat) (o : Nat) : ∀ k u, bf_rw F o k u = bf_al (fun j => decide (¬ F (o + j) / 2 ^ bf_dg k u j &&& 1 = 0)) k := by
  intro k
  induction k with
  | zero => intro u; rfl
  | succ k ih =>
    intro u
    simp only [bf_rw, bf_al]
    rw [ih (u / 10), bf_dg_l, Bool.and_comm]
    congr 1
    exact bf_al_c _ (fun j hj => by rw [bf_dg_s hj])
theorem bg_eq {P : bf_Pn} {c : Nat → Int32} {n s u : Nat} (h1 : 1 ≤ pN P) : bgN P (bf_cn c) n s u = bf_bg (bf_sF P c) (pN P) (pX P) s u n := by
  unfold bgN bf_bg
  rcases Nat.eq_zero_or_pos n with h0 | h0
  · subst h0; rfl
  · rw [decide_eq_false (by omega), Bool.false_or]
    unfold bgR
    rw [Bool.eq_iff_iff, Bool.and_eq_true, bf_al_t, bf_al_t]
    have hrow : ∀ i, bf_rw (bf_sF P c) (i * pN P) (pN P) (u + i * s) = bf_al (fun k => decide (pB P k (pG P (u + i * s) k) = bf_cn c (pN P * i + k))) (pN P) := by
      intro i
      rw [rw_al]
      refine bf_al_c _ (fun k hk => ?_)
      have e : (i * pN P + k) % pN P = k := by rw [Nat.mul_comm, Nat.mul_add_mod]; exact Nat.mod_eq_of_lt hk
      unfold bf_sF
      rw [e, Nat.mul_comm i]
      apply decide_eq_decide.mpr
      rw [bf_tb0, pM_bit, decide_eq_true (bf_dg_lt _ _ _), Bool.true_and]
      constructor
      · intro q; exact Decidable.not_not.mp (fun q2 => q (decide_eq_false q2))
      · intro q q2; exact of_decide_eq_false q2 q
    constructor
    · rintro ⟨q1, q2⟩ i hi
      have q3 := of_decide_eq_true q1
      have q4 : i * s ≤ (n - 1) * s := Nat.mul_le_mul_right _ (by omega)
      rw [Bool.and_eq_true, hrow i]
      exact ⟨decide_eq_true (by omega), q2 i hi⟩
    · intro q
      refine ⟨?_, fun i hi => ?_⟩
      · have q1 := q (n - 1) (by omega)
        rw [Bool.and_eq_true] at q1
        exact q1.1
      · have q1 := q i hi
        rw [Bool.and_eq_true, hrow i] at q1
        exact q1.2
theorem bf_pk_c {p p' : Nat → Bool} {n : Nat} {wh : Int32} (h : p = p') : bf_pk p n wh = bf_pk p' n wh := by rw [h]
theorem neg10 {x : Nat} (h : x ≤ 4) : ¬ 0 ≤ -10 - nI x := by
  have key : ∀ x : Fin 5, ¬ 0 ≤ -10 - nI x.1 := by decide
  exact key ⟨x, by omega⟩
theorem c_X9_begins {d : Nat} (hd : 5 ≤ d) {D : bf_D} {P : bf_Pn} (hv : vP P) (hm : mP D P) (h1 : 1 ≤ pN P) {c : Nat → Nat} {fr n s u : Nat} (hn : n ≤ 10) (hn1 : 1 ≤ n) (hs : s < 100) (hu : u < pX P) (hf : fr + n * pN P ≤ 240) (hcc : ∀ t, t < n * pN P → D 55 (fr + t) = nI (c t) ∧ c t < 128) : bf_Cf d mX9_begins [.ref 37, .int (nI fr), .int (nI n), .int (nI s), .int (nI u)] D (some (.int (if bgR P c n s u = true then 1 else 0))) D := by
  refine bf_Cf_of 4 hd mo_X9_begins (Nat.le_of_ble_eq_true rfl) (fun e he J r => ?_)
  show J 0 [some (.ref 37), some (.int (nI fr)), some (.int (nI n)), some (.int (nI s)), some (.int (nI u)), none, none, none] [] (bf_MD D)
  have hn4 := hv.1
  have hx4 := pX_le hv
  have hx0 := pX_pos P
  have hns : (n - 1) * s ≤ 9 * s := Nat.mul_le_mul_right _ (by omega)
  refine bf_iload r.1 dX9_begins_0 rfl ?_
  refine bf_iload_n r.1 dX9_begins_2 rfl ?_
  refine bf_iconst r.1 (v := nI 1) dX9_begins_3 rfl ?_
  refine na_sub r dX9_begins_4 (by omega) ?_
  refine bf_iload_n r.1 dX9_begins_5 rfl ?_
  refine na_mul r dX9_begins_6  ?_
  refine na_add r dX9_begins_7  ?_
  refine bf_aload_n r.1 dX9_begins_8 rfl ?_
  refine cl_v r (y2 := mX9_last) dX9_begins_9 li_X9_181 mv_X9_last rfl (by decide) [] [.int (nI (u + ((n - 1) * s)))] rfl (Nat.le_of_ble_eq_true rfl) rfl (c_X9_last (by omega) hv hm) ?_
  show J 12 [some (.ref 37), some (.int (nI fr)), some (.int (nI n)), some (.int (nI s)), some (.int (nI u)), none, none, none] [.int (nI (pX P - 1)), .int (nI (u + ((n - 1) * s)))] (bf_MD D)
  refine nc_gt r (tgt := 19) dX9_begins_12 (by decide) (by omega) (by omega) (fun c556 => ?_) (fun c556 => ?_)
  · refine bf_iconst r.1 (v := nI 0) dX9_begins_19 rfl ?_
    refine bf_istore r.1 (L2 := [some (.ref 37), some (.int (nI fr)), some (.int (nI n)), some (.int (nI s)), some (.int (nI u)), some (.int (nI 0)), none, none]) dX9_begins_20 rfl ?_
    refine bf_iconst r.1 (v := nI 0) dX9_begins_22 rfl ?_
    refine bf_istore r.1 (L2 := [some (.ref 37), some (.int (nI fr)), some (.int (nI n)), some (.int (nI s)), some (.int (nI u)), some (.int (nI 0)), some (.int (nI 0)), none]) dX9_begins_23 rfl ?_
    refine bf_iload r.1 dX9_begins_25 rfl ?_
    refine bf_iload_n r.1 dX9_begins_27 rfl ?_
    refine nc_ge r (tgt := 111) dX9_begins_28 (by decide) (by decide) (by omega) (fun c557 => ?_) (fun c557 => ?_)
    · exact absurd c557 (by omega)
    · refine bf_iload r.1 dX9_begins_31 rfl ?_
      refine nz_eq r (tgt := 111) dX9_begins_33 (by decide) (by decide) (fun c558 => ?_) (fun c558 => ?_)
      · refine bf_iload r.1 dX9_begins_111 rfl ?_
        exact rt_i r dX9_begins_113 rfl (by decide) (if_neg (fun q => by unfold bgR at q; rw [Bool.and_eq_true] at q; have q1 := of_decide_eq_true q.1; omega)).symm rfl
      · exact absurd rfl c558
  · refine bf_iconst r.1 (v := nI 1) dX9_begins_15 rfl ?_
    refine bf_goto r.1 (tgt := 20) dX9_begins_16 (by decide) ?_
    refine bf_istore r.1 (L2 := [some (.ref 37), some (.int (nI fr)), some (.int (nI n)), some (.int (nI s)), some (.int (nI u)), some (.int (nI 1)), none, none]) dX9_begins_20 rfl ?_
    refine bf_iconst r.1 (v := nI 0) dX9_begins_22 rfl ?_
    refine bf_istore r.1 (L2 := [some (.ref 37), some (.int (nI fr)), some (.int (nI n)), some (.int (nI s)), some (.int (nI u)), some (.int (nI 1)), some (.int (nI 0)), none]) dX9_begins_23 rfl ?_
    have hlast : u + (n - 1) * s < pX P := by omega
    have loop : ∀ i : Nat, i ≤ n → (∀ j, j < i → bf_al (fun k => decide (pB P k (pG P (u + j * s) k) = c (pN P * j + k))) (pN P) = true) → J 25 [some (.ref 37), some (.int (nI fr)), some (.int (nI n)), some (.int (nI s)), some (.int (nI u)), some (.int (nI 1)), some (.int (nI i)), none] [] (bf_MD D) := by
      refine bf_down (fun i hle ih => ?_)
      intro hrows
      refine bf_iload r.1 dX9_begins_25 rfl ?_
      refine bf_iload_n r.1 dX9_begins_27 rfl ?_
      refine nc_ge r (tgt := 111) dX9_begins_28 (by decide) (by omega) (by omega) (fun c559 => ?_) (fun c559 => ?_)
      · refine bf_iload r.1 dX9_begins_111 rfl ?_
        exact rt_i r dX9_begins_113 rfl (by decide) (if_pos (by unfold bgR; rw [Bool.and_eq_true]; exact ⟨decide_eq_true (by omega), bf_al_t.mpr (fun j hj => hrows j (by omega))⟩)).symm rfl
      · have hin : i < n := c559
        have his : i * s ≤ (n - 1) * s := Nat.mul_le_mul_right _ (by omega)
        have hpi : pN P * (i + 1) ≤ pN P * n := Nat.mul_le_mul_left _ hin
        rw [Nat.mul_succ, Nat.mul_comm (pN P) n] at hpi
        refine bf_iload r.1 dX9_begins_31 rfl ?_
        refine nz_eq r (tgt := 111) dX9_begins_33 (by decide) (by decide) (fun c560 => ?_) (fun c560 => ?_)
        · exact absurd c560 (by decide)
        · refine bf_iconst r.1 (v := nI 0) dX9_begins_36 rfl ?_
          refine bf_istore r.1 (L2 := [some (.ref 37), some (.int (nI fr)), some (.int (nI n)), some (.int (nI s)), some (.int (nI u)), some (.int (nI 1)), some (.int (nI i)), some (.int (nI 0))]) dX9_begins_37 rfl ?_
          have ihi := ih
          have lok : ∀ k : Nat, k ≤ (pN P) → (∀ j, j < k → decide (pB P j (pG P (u + i * s) j) = c (pN P * i + j)) = true) → J 39 [some (.ref 37), some (.int (nI fr)), some (.int (nI n)), some (.int (nI s)), some (.int (nI u)), some (.int (nI 1)), some (.int (nI i)), some (.int (nI k))] [] (bf_MD D) := by
            refine bf_down (fun k hle ih => ?_)
            intro hks
            refine bf_iload r.1 dX9_begins_39 rfl ?_
            refine bf_aload_n r.1 dX9_begins_41 rfl ?_
            refine ig_int r (v := nI (pN P)) dX9_begins_42 fl_X9_77 rfl (by decide) rfl (mP_n (P := P) hm) ?_
            refine nc_ge r (tgt := 105) dX9_begins_45 (by decide) (by omega) (by omega) (fun c561 => ?_) (fun c561 => ?_)
            · refine na_inc r (v := i + 1) (L2 := [some (.ref 37), some (.int (nI fr)), some (.int (nI n)), some (.int (nI s)), some (.int (nI u)), some (.int (nI 1)), some (.int (nI (i + 1))), some (.int (nI k))]) dX9_begins_105 rfl (nI_add _ 1) rfl ?_
              refine bf_goto r.1 (tgt := 25) dX9_begins_108 (by decide) ?_
              have hrow : bf_al (fun k => decide (pB P k (pG P (u + i * s) k) = c (pN P * i + k))) (pN P) = true := bf_al_t.mpr (fun k hk => hks k (by omega))
              refine bf_fgt r.1 (i := 7) (L2 := [some (.ref 37), some (.int (nI fr)), some (.int (nI n)), some (.int (nI s)), some (.int (nI u)), some (.int (nI 1)), some (.int (nI (i + 1))), none]) rfl ?_
              exact ihi (by omega) (lt_s hrows hrow)
            · have hkn : k < pN P := c561
              have hlt : pN P * i + k < n * pN P := by omega
              refine bf_iload r.1 dX9_begins_48 rfl ?_
              refine nz_eq r (tgt := 105) dX9_begins_50 (by decide) (by decide) (fun c562 => ?_) (fun c562 => ?_)
              · exact absurd c562 (by decide)
              · refine bf_aload_n r.1 dX9_begins_53 rfl ?_
                refine bf_iload r.1 dX9_begins_54 rfl ?_
                refine bf_aload_n r.1 dX9_begins_56 rfl ?_
                refine bf_iload r.1 dX9_begins_57 rfl ?_
                refine bf_iload r.1 dX9_begins_59 rfl ?_
                refine bf_iload r.1 dX9_begins_61 rfl ?_
                refine bf_iload_n r.1 dX9_begins_63 rfl ?_
                refine na_mul r dX9_begins_64  ?_
                refine na_add r dX9_begins_65  ?_
                refine cl_v r (y2 := mX9_digitAt) dX9_begins_66 li_X9_166 mv_X9_digitAt rfl (by decide) [.int (nI k), .int (nI (u + (i * s)))] [.int (nI k), .ref 37] rfl (Nat.le_of_ble_eq_true rfl) rfl (c_X9_digitAt (by omega) hv hm hkn (by omega)) ?_
                show J 69 [some (.ref 37), some (.int (nI fr)), some (.int (nI n)), some (.int (nI s)), some (.int (nI u)), some (.int (nI 1)), some (.int (nI i)), some (.int (nI k))] [.int (nI (pG P (u + (i * s)) k)), .int (nI k), .ref 37] (bf_MD D)
                refine cl_v r (y2 := mX9_burnsAt) dX9_begins_69 li_X9_157 mv_X9_burnsAt rfl (by decide) [.int (nI k), .int (nI (pG P (u + (i * s)) k))] [] rfl (Nat.le_of_ble_eq_true rfl) rfl (c_X9_burnsAt (by omega) hv hm hkn (pG_lt P _ _)) ?_
                show J 72 [some (.ref 37), some (.int (nI fr)), some (.int (nI n)), some (.int (nI s)), some (.int (nI u)), some (.int (nI 1)), some (.int (nI i)), some (.int (nI k))] [.int (nI (pB P k (pG P (u + (i * s)) k)))] (bf_MD D)
                refine bf_aload_n r.1 dX9_begins_72 rfl ?_
                refine ig_ref r (b := 55) dX9_begins_73 fl_X9_61 rfl (by decide) rfl ?_
                refine bf_iload_n r.1 dX9_begins_76 rfl ?_
                refine bf_aload_n r.1 dX9_begins_77 rfl ?_
                refine ig_int r (v := nI (pN P)) dX9_begins_78 fl_X9_77 rfl (by decide) rfl (mP_n (P := P) hm) ?_
                refine bf_iload r.1 dX9_begins_81 rfl ?_
                refine na_mul r dX9_begins_83  ?_
                refine na_add r dX9_begins_84  ?_
                refine bf_iload r.1 dX9_begins_85 rfl ?_
                refine na_add r dX9_begins_87  ?_
                refine ia_ld r (n := 240) (v := nI (c (pN P * i + k))) dX9_begins_88 rfl (by decide) (by omega) ((congrArg (D 55) (Nat.add_assoc fr (pN P * i) k)).trans (hcc _ hlt).1) ?_
                refine nc_ne r (tgt := 96) dX9_begins_89 (by decide) (bf_lt31 (pB_lt hv hkn _) (by decide)) (by have := (hcc _ hlt).2; omega) (fun c563 => ?_) (fun c563 => ?_)
                · refine bf_iconst r.1 (v := nI 0) dX9_begins_96 rfl ?_
                  refine bf_istore r.1 (L2 := [some (.ref 37), some (.int (nI fr)), some (.int (nI n)), some (.int (nI s)), some (.int (nI u)), some (.int (nI 0)), some (.int (nI i)), some (.int (nI k))]) dX9_begins_97 rfl ?_
                  refine na_inc r (v := k + 1) (L2 := [some (.ref 37), some (.int (nI fr)), some (.int (nI n)), some (.int (nI s)), some (.int (nI u)), some (.int (nI 0)), some (.int (nI i)), some (.int (nI (k + 1)))]) dX9_begins_99 rfl (nI_add _ 1) rfl ?_
                  refine bf_goto r.1 (tgt := 39) dX9_begins_102 (by decide) ?_
                  refine bf_iload r.1 dX9_begins_39 rfl ?_
                  refine bf_aload_n r.1 dX9_begins_41 rfl ?_
                  refine ig_int r (v := nI (pN P)) dX9_begins_42 fl_X9_77 rfl (by decide) rfl (mP_n (P := P) hm) ?_
                  refine nc_ge r (tgt := 105) dX9_begins_45 (by decide) (by omega) (by omega) (fun c564 => ?_) (fun c564 => ?_)
                  · refine na_inc r (v := i + 1) (L2 := [some (.ref 37), some (.int (nI fr)), some (.int (nI n)), some (.int (nI s)), some (.int (nI u)), some (.int (nI 0)), some (.int (nI (i + 1))), some (.int (nI (k + 1)))]) dX9_begins_105 rfl (nI_add _ 1) rfl ?_
                    refine bf_goto r.1 (tgt := 25) dX9_begins_108 (by decide) ?_
                    refine bf_iload r.1 dX9_begins_25 rfl ?_
                    refine bf_iload_n r.1 dX9_begins_27 rfl ?_
                    refine nc_ge r (tgt := 111) dX9_begins_28 (by decide) (by omega) (by omega) (fun c565 => ?_) (fun c565 => ?_)
                    · refine bf_iload r.1 dX9_begins_111 rfl ?_
                      exact rt_i r dX9_begins_113 rfl (by decide) (if_neg (fun q => by unfold bgR at q; rw [Bool.and_eq_true] at q; exact c563 (of_decide_eq_true (bf_al_t.mp (bf_al_t.mp q.2 i hin) k hkn)))).symm rfl
                    · refine bf_iload r.1 dX9_begins_31 rfl ?_
                      refine nz_eq r (tgt := 111) dX9_begins_33 (by decide) (by decide) (fun c566 => ?_) (fun c566 => ?_)
                      · refine bf_iload r.1 dX9_begins_111 rfl ?_
                        exact rt_i r dX9_begins_113 rfl (by decide) (if_neg (fun q => by unfold bgR at q; rw [Bool.and_eq_true] at q; exact c563 (of_decide_eq_true (bf_al_t.mp (bf_al_t.mp q.2 i hin) k hkn)))).symm rfl
                      · exact absurd rfl c566
                  · refine bf_iload r.1 dX9_begins_48 rfl ?_
                    refine nz_eq r (tgt := 105) dX9_begins_50 (by decide) (by decide) (fun c567 => ?_) (fun c567 => ?_)
                    · refine na_inc r (v := i + 1) (L2 := [some (.ref 37), some (.int (nI fr)), some (.int (nI n)), some (.int (nI s)), some (.int (nI u)), some (.int (nI 0)), some (.int (nI (i + 1))), some (.int (nI (k + 1)))]) dX9_begins_105 rfl (nI_add _ 1) rfl ?_
                      refine bf_goto r.1 (tgt := 25) dX9_begins_108 (by decide) ?_
                      refine bf_iload r.1 dX9_begins_25 rfl ?_
                      refine bf_iload_n r.1 dX9_begins_27 rfl ?_
                      refine nc_ge r (tgt := 111) dX9_begins_28 (by decide) (by omega) (by omega) (fun c568 => ?_) (fun c568 => ?_)
                      · refine bf_iload r.1 dX9_begins_111 rfl ?_
                        exact rt_i r dX9_begins_113 rfl (by decide) (if_neg (fun q => by unfold bgR at q; rw [Bool.and_eq_true] at q; exact c563 (of_decide_eq_true (bf_al_t.mp (bf_al_t.mp q.2 i hin) k hkn)))).symm rfl
                      · refine bf_iload r.1 dX9_begins_31 rfl ?_
                        refine nz_eq r (tgt := 111) dX9_begins_33 (by decide) (by decide) (fun c569 => ?_) (fun c569 => ?_)
                        · refine bf_iload r.1 dX9_begins_111 rfl ?_
                          exact rt_i r dX9_begins_113 rfl (by decide) (if_neg (fun q => by unfold bgR at q; rw [Bool.and_eq_true] at q; exact c563 (of_decide_eq_true (bf_al_t.mp (bf_al_t.mp q.2 i hin) k hkn)))).symm rfl
                        · exact absurd rfl c569
                    · exact absurd rfl c567
                · replace c563 := decide_eq_true (p := pB P k (pG P (u + i * s) k) = c (pN P * i + k)) c563
                  refine bf_iconst r.1 (v := nI 1) dX9_begins_92 rfl ?_
                  refine bf_goto r.1 (tgt := 97) dX9_begins_93 (by decide) ?_
                  refine bf_istore r.1 (L2 := [some (.ref 37), some (.int (nI fr)), some (.int (nI n)), some (.int (nI s)), some (.int (nI u)), some (.int (nI 1)), some (.int (nI i)), some (.int (nI k))]) dX9_begins_97 rfl ?_
                  refine na_inc r (v := k + 1) (L2 := [some (.ref 37), some (.int (nI fr)), some (.int (nI n)), some (.int (nI s)), some (.int (nI u)), some (.int (nI 1)), some (.int (nI i)), some (.int (nI (k + 1)))]) dX9_begins_99 rfl (nI_add _ 1) rfl ?_
                  refine bf_goto r.1 (tgt := 39) dX9_begins_102 (by decide) ?_
                  exact ih (by omega) (lt_s hks c563)
          exact lok 0 (Nat.zero_le _) lt_0
    exact loop 0 (Nat.zero_le _) lt_0
theorem c_X9_beginsBy {d : Nat} (hd : 6 ≤ d) {D : bf_D} {P : bf_Pn} (hv : vP P) (hm : mP D P) (h1 : 1 ≤ pN P) {c : Nat → Nat} {fr n s : Nat} (hn : n ≤ 10) (hs : s < 100) (hf : fr + n * pN P ≤ 240) (hcc : ∀ t, t < n * pN P → D 55 (fr + t) = nI (c t) ∧ c t < 128) {wh : Nat} (hw : wh < 3) : bf_Cf d mX9_beginsBy [.ref 37, .int (nI fr), .int (nI n), .int (nI s), .int (nI wh)] D (some (.int (bf_pk (fun u => bgN P c n s u) (pX P) (nI wh)))) D := by
  refine bf_Cf_of 5 hd mo_X9_beginsBy (Nat.le_of_ble_eq_true rfl) (fun e he J r => ?_)
  show J 0 [some (.ref 37), some (.int (nI fr)), some (.int (nI n)), some (.int (nI s)), some (.int (nI wh)), none, none, none, none] [] (bf_MD D)
  have hn4 := hv.1
  have hx4 := pX_le hv
  have hx0 := pX_pos P
  refine bf_iconst r.1 (v := nI 0) dX9_beginsBy_0 rfl ?_
  refine bf_istore r.1 (L2 := [some (.ref 37), some (.int (nI fr)), some (.int (nI n)), some (.int (nI s)), some (.int (nI wh)), some (.int (nI 0)), none, none, none]) dX9_beginsBy_1 rfl ?_
  refine bf_bipush r.1 (v := -9) dX9_beginsBy_3 rfl ?_
  refine bf_istore r.1 (L2 := [some (.ref 37), some (.int (nI fr)), some (.int (nI n)), some (.int (nI s)), some (.int (nI wh)), some (.int (nI 0)), some (.int (-9)), none, none]) dX9_beginsBy_5 rfl ?_
  refine bf_bipush r.1 (v := -9) dX9_beginsBy_7 rfl ?_
  refine bf_istore r.1 (L2 := [some (.ref 37), some (.int (nI fr)), some (.int (nI n)), some (.int (nI s)), some (.int (nI wh)), some (.int (nI 0)), some (.int (-9)), some (.int (-9)), none]) dX9_beginsBy_9 rfl ?_
  refine bf_iconst r.1 (v := nI 0) dX9_beginsBy_11 rfl ?_
  refine bf_istore r.1 (L2 := [some (.ref 37), some (.int (nI fr)), some (.int (nI n)), some (.int (nI s)), some (.int (nI wh)), some (.int (nI 0)), some (.int (-9)), some (.int (-9)), some (.int (nI 0))]) dX9_beginsBy_12 rfl ?_
  have loop : ∀ u : Nat, u ≤ (pX P) → J 14 [some (.ref 37), some (.int (nI fr)), some (.int (nI n)), some (.int (nI s)), some (.int (nI wh)), some (.int (nI (bf_ct (fun u => bgN P c n s u) u))), some (.int (bf_le (fun u => bgN P c n s u) u)), some (.int (bf_gr (fun u => bgN P c n s u) u)), some (.int (nI u))] [] (bf_MD D) := by
    refine bf_down (fun u hle ih => ?_)
    have hct := bf_ct_le (fun u => bgN P c n s u) u
    refine bf_iload r.1 dX9_beginsBy_14 rfl ?_
    refine bf_aload_n r.1 dX9_beginsBy_16 rfl ?_
    refine cl_v r (y2 := mX9_last) dX9_beginsBy_17 li_X9_181 mv_X9_last rfl (by decide) [] [.int (nI u)] rfl (Nat.le_of_ble_eq_true rfl) rfl (c_X9_last (by omega) hv hm) ?_
    show J 20 [some (.ref 37), some (.int (nI fr)), some (.int (nI n)), some (.int (nI s)), some (.int (nI wh)), some (.int (nI (bf_ct (fun u => bgN P c n s u) u))), some (.int (bf_le (fun u => bgN P c n s u) u)), some (.int (bf_gr (fun u => bgN P c n s u) u)), some (.int (nI u))] [.int (nI (pX P - 1)), .int (nI u)] (bf_MD D)
    refine nc_gt r (tgt := 66) dX9_beginsBy_20 (by decide) (by omega) (by omega) (fun c570 => ?_) (fun c570 => ?_)
    · have eu : u = pX P := by omega
      subst eu
      refine bf_iload r.1 dX9_beginsBy_66 rfl ?_
      refine nz_ne r (tgt := 76) dX9_beginsBy_68 (by decide) (by omega) (fun c571 => ?_) (fun c571 => ?_)
      · refine bf_iload r.1 dX9_beginsBy_76 rfl ?_
        refine bf_iconst r.1 (v := nI 1) dX9_beginsBy_78 rfl ?_
        refine nc_ne r (tgt := 87) dX9_beginsBy_79 (by decide) (by omega) (by decide) (fun c572 => ?_) (fun c572 => ?_)
        · refine bf_iload r.1 dX9_beginsBy_87 rfl ?_
          exact rt_i r dX9_beginsBy_89 rfl rfl (by unfold bf_pk; rw [if_neg (show ¬ nI wh = 0 from fun q => c571 ((nI_eq (show wh < 2 ^ 31 by omega) (show 0 < 2 ^ 31 by decide)).mp q)), if_neg (show ¬ nI wh = nI 1 from fun q => c572 ((nI_eq (by omega) (by decide)).mp q))]) rfl
        · refine bf_iload r.1 dX9_beginsBy_82 rfl ?_
          refine bf_goto r.1 (tgt := 89) dX9_beginsBy_84 (by decide) ?_
          exact rt_i r dX9_beginsBy_89 rfl rfl (by unfold bf_pk; rw [if_neg (show ¬ nI wh = 0 from fun q => c571 ((nI_eq (show wh < 2 ^ 31 by omega) (show 0 < 2 ^ 31 by decide)).mp q)), if_pos (show nI wh = nI 1 by rw [c572])]) rfl
      · refine bf_iload r.1 dX9_beginsBy_71 rfl ?_
        refine bf_goto r.1 (tgt := 89) dX9_beginsBy_73 (by decide) ?_
        exact rt_i r dX9_beginsBy_89 rfl rfl (by unfold bf_pk; rw [if_pos (show nI wh = 0 by rw [c571]; rfl)]) rfl
    · refine bf_iload_n r.1 dX9_beginsBy_23 rfl ?_
      refine nz_eq r (tgt := 39) dX9_beginsBy_24 (by decide) (by omega) (fun c573 => ?_) (fun c573 => ?_)
      · have hp : (fun u => bgN P c n s u) u = true := by show (decide (n = 0) || _) = true; rw [decide_eq_true c573]; rfl
        refine na_inc r (v := bf_ct (fun u => bgN P c n s u) u + 1) (L2 := [some (.ref 37), some (.int (nI fr)), some (.int (nI n)), some (.int (nI s)), some (.int (nI wh)), some (.int (nI (bf_ct (fun u => bgN P c n s u) u + 1))), some (.int (bf_le (fun u => bgN P c n s u) u)), some (.int (bf_gr (fun u => bgN P c n s u) u)), some (.int (nI u))]) dX9_beginsBy_39 rfl (nI_add _ 1) rfl ?_
        refine bf_iload r.1 dX9_beginsBy_42 rfl ?_
        refine bf_if_ge r.1 (tgt := 52) dX9_beginsBy_44 (by decide) (fun c574 => ?_) (fun c574 => ?_)
        · have h0 : ¬ bf_ct (fun u => bgN P c n s u) u = 0 := (bf_le_ge (by omega)).mp c574
          refine bf_iload r.1 dX9_beginsBy_52 rfl ?_
          refine bf_istore r.1 (L2 := [some (.ref 37), some (.int (nI fr)), some (.int (nI n)), some (.int (nI s)), some (.int (nI wh)), some (.int (nI (bf_ct (fun u => bgN P c n s u) u + 1))), some (.int (bf_le (fun u => bgN P c n s u) u)), some (.int (bf_gr (fun u => bgN P c n s u) u)), some (.int (nI u))]) dX9_beginsBy_54 rfl ?_
          refine bf_iload r.1 dX9_beginsBy_56 rfl ?_
          refine bf_istore r.1 (L2 := [some (.ref 37), some (.int (nI fr)), some (.int (nI n)), some (.int (nI s)), some (.int (nI wh)), some (.int (nI (bf_ct (fun u => bgN P c n s u) u + 1))), some (.int (bf_le (fun u => bgN P c n s u) u)), some (.int (nI u)), some (.int (nI u))]) dX9_beginsBy_58 rfl ?_
          refine na_inc r (v := u + 1) (L2 := [some (.ref 37), some (.int (nI fr)), some (.int (nI n)), some (.int (nI s)), some (.int (nI wh)), some (.int (nI (bf_ct (fun u => bgN P c n s u) u + 1))), some (.int (bf_le (fun u => bgN P c n s u) u)), some (.int (nI u)), some (.int (nI (u + 1)))]) dX9_beginsBy_60 rfl (nI_add _ 1) rfl ?_
          refine bf_goto r.1 (tgt := 14) dX9_beginsBy_63 (by decide) ?_
          have hi := ih (by omega)
          rw [bf_ct_t (p := (fun u => bgN P c n s u)) (n := u) hp] at hi
          simp only [bf_le, bf_gr] at hi
          rw [if_pos hp, if_pos hp, if_neg h0] at hi
          exact hi
        · have h0 : bf_ct (fun u => bgN P c n s u) u = 0 := Decidable.not_not.mp (fun q => c574 ((bf_le_ge (by omega)).mpr q))
          refine bf_iload r.1 dX9_beginsBy_47 rfl ?_
          refine bf_goto r.1 (tgt := 54) dX9_beginsBy_49 (by decide) ?_
          refine bf_istore r.1 (L2 := [some (.ref 37), some (.int (nI fr)), some (.int (nI n)), some (.int (nI s)), some (.int (nI wh)), some (.int (nI (bf_ct (fun u => bgN P c n s u) u + 1))), some (.int (nI u)), some (.int (bf_gr (fun u => bgN P c n s u) u)), some (.int (nI u))]) dX9_beginsBy_54 rfl ?_
          refine bf_iload r.1 dX9_beginsBy_56 rfl ?_
          refine bf_istore r.1 (L2 := [some (.ref 37), some (.int (nI fr)), some (.int (nI n)), some (.int (nI s)), some (.int (nI wh)), some (.int (nI (bf_ct (fun u => bgN P c n s u) u + 1))), some (.int (nI u)), some (.int (nI u)), some (.int (nI u))]) dX9_beginsBy_58 rfl ?_
          refine na_inc r (v := u + 1) (L2 := [some (.ref 37), some (.int (nI fr)), some (.int (nI n)), some (.int (nI s)), some (.int (nI wh)), some (.int (nI (bf_ct (fun u => bgN P c n s u) u + 1))), some (.int (nI u)), some (.int (nI u)), some (.int (nI (u + 1)))]) dX9_beginsBy_60 rfl (nI_add _ 1) rfl ?_
          refine bf_goto r.1 (tgt := 14) dX9_beginsBy_63 (by decide) ?_
          have hi := ih (by omega)
          rw [bf_ct_t (p := (fun u => bgN P c n s u)) (n := u) hp] at hi
          simp only [bf_le, bf_gr] at hi
          rw [if_pos hp, if_pos hp, if_pos h0] at hi
          exact hi
      · refine bf_aload_n r.1 dX9_beginsBy_27 rfl ?_
        refine bf_iload_n r.1 dX9_beginsBy_28 rfl ?_
        refine bf_iload_n r.1 dX9_beginsBy_29 rfl ?_
        refine bf_iload_n r.1 dX9_beginsBy_30 rfl ?_
        refine bf_iload r.1 dX9_beginsBy_31 rfl ?_
        refine cl_v r (y2 := mX9_begins) dX9_beginsBy_33 li_X9_223 mv_X9_begins rfl (by decide) [.int (nI fr), .int (nI n), .int (nI s), .int (nI u)] [] rfl (Nat.le_of_ble_eq_true rfl) rfl (c_X9_begins (by omega) hv hm h1 hn (by omega) hs (by omega) hf hcc) ?_
        show J 36 [some (.ref 37), some (.int (nI fr)), some (.int (nI n)), some (.int (nI s)), some (.int (nI wh)), some (.int (nI (bf_ct (fun u => bgN P c n s u) u))), some (.int (bf_le (fun u => bgN P c n s u) u)), some (.int (bf_gr (fun u => bgN P c n s u) u)), some (.int (nI u))] [.int (if bgR P c n s u = true then 1 else 0)] (bf_MD D)
        refine nb_eq r (tgt := 60) dX9_beginsBy_36 (by decide) (fun c575 => ?_) (fun c575 => ?_)
        · have hp : ¬ (fun u => bgN P c n s u) u = true := by show ¬ (decide (n = 0) || bgR P c n s u) = true; rw [decide_eq_false c573, Bool.false_or]; exact c575
          refine na_inc r (v := u + 1) (L2 := [some (.ref 37), some (.int (nI fr)), some (.int (nI n)), some (.int (nI s)), some (.int (nI wh)), some (.int (nI (bf_ct (fun u => bgN P c n s u) u))), some (.int (bf_le (fun u => bgN P c n s u) u)), some (.int (bf_gr (fun u => bgN P c n s u) u)), some (.int (nI (u + 1)))]) dX9_beginsBy_60 rfl (nI_add _ 1) rfl ?_
          refine bf_goto r.1 (tgt := 14) dX9_beginsBy_63 (by decide) ?_
          have hi := ih (by omega)
          rw [bf_ct_f (p := (fun u => bgN P c n s u)) (n := u) hp, Nat.add_zero] at hi
          simp only [bf_le, bf_gr] at hi
          rw [if_neg hp, if_neg hp] at hi
          exact hi
        · have hp : (fun u => bgN P c n s u) u = true := by show (decide (n = 0) || bgR P c n s u) = true; rw [c575, Bool.or_true]
          refine na_inc r (v := bf_ct (fun u => bgN P c n s u) u + 1) (L2 := [some (.ref 37), some (.int (nI fr)), some (.int (nI n)), some (.int (nI s)), some (.int (nI wh)), some (.int (nI (bf_ct (fun u => bgN P c n s u) u + 1))), some (.int (bf_le (fun u => bgN P c n s u) u)), some (.int (bf_gr (fun u => bgN P c n s u) u)), some (.int (nI u))]) dX9_beginsBy_39 rfl (nI_add _ 1) rfl ?_
          refine bf_iload r.1 dX9_beginsBy_42 rfl ?_
          refine bf_if_ge r.1 (tgt := 52) dX9_beginsBy_44 (by decide) (fun c576 => ?_) (fun c576 => ?_)
          · have h0 : ¬ bf_ct (fun u => bgN P c n s u) u = 0 := (bf_le_ge (by omega)).mp c576
            refine bf_iload r.1 dX9_beginsBy_52 rfl ?_
            refine bf_istore r.1 (L2 := [some (.ref 37), some (.int (nI fr)), some (.int (nI n)), some (.int (nI s)), some (.int (nI wh)), some (.int (nI (bf_ct (fun u => bgN P c n s u) u + 1))), some (.int (bf_le (fun u => bgN P c n s u) u)), some (.int (bf_gr (fun u => bgN P c n s u) u)), some (.int (nI u))]) dX9_beginsBy_54 rfl ?_
            refine bf_iload r.1 dX9_beginsBy_56 rfl ?_
            refine bf_istore r.1 (L2 := [some (.ref 37), some (.int (nI fr)), some (.int (nI n)), some (.int (nI s)), some (.int (nI wh)), some (.int (nI (bf_ct (fun u => bgN P c n s u) u + 1))), some (.int (bf_le (fun u => bgN P c n s u) u)), some (.int (nI u)), some (.int (nI u))]) dX9_beginsBy_58 rfl ?_
            refine na_inc r (v := u + 1) (L2 := [some (.ref 37), some (.int (nI fr)), some (.int (nI n)), some (.int (nI s)), some (.int (nI wh)), some (.int (nI (bf_ct (fun u => bgN P c n s u) u + 1))), some (.int (bf_le (fun u => bgN P c n s u) u)), some (.int (nI u)), some (.int (nI (u + 1)))]) dX9_beginsBy_60 rfl (nI_add _ 1) rfl ?_
            refine bf_goto r.1 (tgt := 14) dX9_beginsBy_63 (by decide) ?_
            have hi := ih (by omega)
            rw [bf_ct_t (p := (fun u => bgN P c n s u)) (n := u) hp] at hi
            simp only [bf_le, bf_gr] at hi
            rw [if_pos hp, if_pos hp, if_neg h0] at hi
            exact hi
          · have h0 : bf_ct (fun u => bgN P c n s u) u = 0 := Decidable.not_not.mp (fun q => c576 ((bf_le_ge (by omega)).mpr q))
            refine bf_iload r.1 dX9_beginsBy_47 rfl ?_
            refine bf_goto r.1 (tgt := 54) dX9_beginsBy_49 (by decide) ?_
            refine bf_istore r.1 (L2 := [some (.ref 37), some (.int (nI fr)), some (.int (nI n)), some (.int (nI s)), some (.int (nI wh)), some (.int (nI (bf_ct (fun u => bgN P c n s u) u + 1))), some (.int (nI u)), some (.int (bf_gr (fun u => bgN P c n s u) u)), some (.int (nI u))]) dX9_beginsBy_54 rfl ?_
            refine bf_iload r.1 dX9_beginsBy_56 rfl ?_
            refine bf_istore r.1 (L2 := [some (.ref 37), some (.int (nI fr)), some (.int (nI n)), some (.int (nI s)), some (.int (nI wh)), some (.int (nI (bf_ct (fun u => bgN P c n s u) u + 1))), some (.int (nI u)), some (.int (nI u)), some (.int (nI u))]) dX9_beginsBy_58 rfl ?_
            refine na_inc r (v := u + 1) (L2 := [some (.ref 37), some (.int (nI fr)), some (.int (nI n)), some (.int (nI s)), some (.int (nI wh)), some (.int (nI (bf_ct (fun u => bgN P c n s u) u + 1))), some (.int (nI u)), some (.int (nI u)), some (.int (nI (u + 1)))]) dX9_beginsBy_60 rfl (nI_add _ 1) rfl ?_
            refine bf_goto r.1 (tgt := 14) dX9_beginsBy_63 (by decide) ?_
            have hi := ih (by omega)
            rw [bf_ct_t (p := (fun u => bgN P c n s u)) (n := u) hp] at hi
            simp only [bf_le, bf_gr] at hi
            rw [if_pos hp, if_pos hp, if_pos h0] at hi
            exact hi
  exact loop 0 (by omega) 
theorem e_X9_seen {d : Nat} (hd : 10 ≤ d) {D : bf_D} {P : bf_Pn} {S : bf_Sh} {Q : bf_Rd} {F : Nat} {T : Int32} (va : vA (P, S, Q, F, T)) (ma : mA D (P, S, Q, F, T)) (k l i n s wh : Int32) : bf_Ce d mX9_seen [.ref 37, .int (k), .int (l), .int (i), .int (n), .int (s), .int (wh)] D (fun r D' => r = some (.int (ox_seen P S Q F T k l i n s wh).1) ∧ mA D' (ox_seen P S Q F T k l i n s wh).2 ∧ bf_fr 37 57 D D') := by
  refine bf_Ce_of 9 hd mo_X9_seen (Nat.le_of_ble_eq_true rfl) (fun e he J r => ?_)
  show J 0 [some (.ref 37), some (.int (k)), some (.int (l)), some (.int (i)), some (.int (n)), some (.int (s)), some (.int (wh)), none, none] [] (bf_MD D)
  obtain ⟨hv, vs, vr, hF⟩ := id va
  obtain ⟨hm, ms, mr, c5, c6⟩ := id ma
  have hn4 := hv.1
  have hx4 := pX_le hv
  have hx0 := pX_pos P
  refine bf_iload_n r.1 dX9_seen_0 rfl ?_
  refine cl_s r (y2 := mX9_noSheet) dX9_seen_1 li_X9_113 mv_X9_noSheet [.int (k)] [] rfl (Nat.le_of_ble_eq_true rfl) rfl (c_X9_noSheet (by omega) D _) ?_
  show J 4 [some (.ref 37), some (.int (k)), some (.int (l)), some (.int (i)), some (.int (n)), some (.int (s)), some (.int (wh)), none, none] [.int (if ¬ (0 ≤ k ∧ k < nI 4) then 1 else 0)] (bf_MD D)
  refine nb_eq r (tgt := 13) dX9_seen_4 (by decide) (fun c577 => ?_) (fun c577 => ?_)
  · obtain ⟨k0, hk0, rfl⟩ := rg_in (by decide) (Decidable.not_not.mp c577)
    have wk := rg_s hk0 (by decide)
    have z60k := (vs k0 hk0).2
    refine bf_iload_n r.1 dX9_seen_13 rfl ?_
    refine bf_i2l r.1 dX9_seen_14 ?_
    refine bf_lconst r.1 (v := lN 0) dX9_seen_15 rfl ?_
    refine bf_ldc2 r.1 dX9_seen_16 lc_X9_120 ?_
    refine eq_l (v := lN 2) rfl ?_
    refine cl_s r (y2 := mX9_in) dX9_seen_19 li_X9_80 mv_X9_in [.long (l.toInt64), .long (lN 0), .long (lN 2)] [] rfl (Nat.le_of_ble_eq_true rfl) rfl (c_X9_in32 (by omega) D l (h := 2) (m := 3) rfl (by decide)) ?_
    show J 22 [some (.ref 37), some (.int (nI k0)), some (.int (l)), some (.int (i)), some (.int (n)), some (.int (s)), some (.int (wh)), none, none] [.int (if 0 ≤ l ∧ l < nI 3 then 1 else 0)] (bf_MD D)
    refine nb_eq r (tgt := 64) dX9_seen_22 (by decide) (fun c578 => ?_) (fun c578 => ?_)
    · have wl := rg_n c578
      refine bf_aload_n r.1 dX9_seen_64 rfl ?_
      refine bf_bipush r.1 (v := -2) dX9_seen_65 rfl ?_
      refine cl_v r (y2 := mX9_refused) dX9_seen_67 li_X9_117 mv_X9_refused rfl (by decide) [.int (-2)] [] rfl (Nat.le_of_ble_eq_true rfl) rfl (c_X9_refused (by omega) D _) ?_
      show J 70 [some (.ref 37), some (.int (nI k0)), some (.int (l)), some (.int (i)), some (.int (n)), some (.int (s)), some (.int (wh)), none, none] [.int (-2)] (bf_MD (bf_u D 37 0 (nI 0)))
      have ho : ox_seen P S Q F T (nI k0) l i n s wh = (-2, (P, S, Q, 0, T)) := by simp only [ox_seen, wk, wl, on_n, on_s]
      exact re_i r dX9_seen_70 rfl rfl ⟨by rw [ho], by rw [ho]; exact (mA_0 hn4 0 ma), (fr_u fr_0 (by decide) (by decide))⟩
    · obtain ⟨l0, hl0, rfl⟩ := rg_in (by decide) c578
      have wl := rg_s hl0 (by decide)
      refine bf_iload r.1 dX9_seen_25 rfl ?_
      refine bf_i2l r.1 dX9_seen_27 ?_
      refine bf_lconst r.1 (v := lN 0) dX9_seen_28 rfl ?_
      refine bf_ldc2 r.1 dX9_seen_29 lc_X9_227 ?_
      refine eq_l (v := lN 10) rfl ?_
      refine cl_s r (y2 := mX9_in) dX9_seen_32 li_X9_80 mv_X9_in [.long (n.toInt64), .long (lN 0), .long (lN 10)] [] rfl (Nat.le_of_ble_eq_true rfl) rfl (c_X9_in32 (by omega) D n (h := 10) (m := 11) rfl (by decide)) ?_
      show J 35 [some (.ref 37), some (.int (nI k0)), some (.int (nI l0)), some (.int (i)), some (.int (n)), some (.int (s)), some (.int (wh)), none, none] [.int (if 0 ≤ n ∧ n < nI 11 then 1 else 0)] (bf_MD D)
      refine nb_eq r (tgt := 64) dX9_seen_35 (by decide) (fun c579 => ?_) (fun c579 => ?_)
      · have wn := rg_n c579
        refine bf_aload_n r.1 dX9_seen_64 rfl ?_
        refine bf_bipush r.1 (v := -2) dX9_seen_65 rfl ?_
        refine cl_v r (y2 := mX9_refused) dX9_seen_67 li_X9_117 mv_X9_refused rfl (by decide) [.int (-2)] [] rfl (Nat.le_of_ble_eq_true rfl) rfl (c_X9_refused (by omega) D _) ?_
        show J 70 [some (.ref 37), some (.int (nI k0)), some (.int (nI l0)), some (.int (i)), some (.int (n)), some (.int (s)), some (.int (wh)), none, none] [.int (-2)] (bf_MD (bf_u D 37 0 (nI 0)))
        have ho : ox_seen P S Q F T (nI k0) (nI l0) i n s wh = (-2, (P, S, Q, 0, T)) := by simp only [ox_seen, wk, wl, wn, on_n, on_s]
        exact re_i r dX9_seen_70 rfl rfl ⟨by rw [ho], by rw [ho]; exact (mA_0 hn4 0 ma), (fr_u fr_0 (by decide) (by decide))⟩
      · obtain ⟨n0, hn0, rfl⟩ := rg_in (by decide) c579
        have wn := rg_s hn0 (by decide)
        refine bf_iload r.1 dX9_seen_38 rfl ?_
        refine bf_i2l r.1 dX9_seen_40 ?_
        refine bf_lconst r.1 (v := lN 0) dX9_seen_41 rfl ?_
        refine bf_ldc2 r.1 dX9_seen_42 lc_X9_229 ?_
        refine eq_l (v := lN 99) rfl ?_
        refine cl_s r (y2 := mX9_in) dX9_seen_45 li_X9_80 mv_X9_in [.long (s.toInt64), .long (lN 0), .long (lN 99)] [] rfl (Nat.le_of_ble_eq_true rfl) rfl (c_X9_in32 (by omega) D s (h := 99) (m := 100) rfl (by decide)) ?_
        show J 48 [some (.ref 37), some (.int (nI k0)), some (.int (nI l0)), some (.int (i)), some (.int (nI n0)), some (.int (s)), some (.int (wh)), none, none] [.int (if 0 ≤ s ∧ s < nI 100 then 1 else 0)] (bf_MD D)
        refine nb_eq r (tgt := 64) dX9_seen_48 (by decide) (fun c580 => ?_) (fun c580 => ?_)
        · have ws := rg_n c580
          refine bf_aload_n r.1 dX9_seen_64 rfl ?_
          refine bf_bipush r.1 (v := -2) dX9_seen_65 rfl ?_
          refine cl_v r (y2 := mX9_refused) dX9_seen_67 li_X9_117 mv_X9_refused rfl (by decide) [.int (-2)] [] rfl (Nat.le_of_ble_eq_true rfl) rfl (c_X9_refused (by omega) D _) ?_
          show J 70 [some (.ref 37), some (.int (nI k0)), some (.int (nI l0)), some (.int (i)), some (.int (nI n0)), some (.int (s)), some (.int (wh)), none, none] [.int (-2)] (bf_MD (bf_u D 37 0 (nI 0)))
          have ho : ox_seen P S Q F T (nI k0) (nI l0) i (nI n0) s wh = (-2, (P, S, Q, 0, T)) := by simp only [ox_seen, wk, wl, wn, ws, on_n, on_s]
          exact re_i r dX9_seen_70 rfl rfl ⟨by rw [ho], by rw [ho]; exact (mA_0 hn4 0 ma), (fr_u fr_0 (by decide) (by decide))⟩
        · obtain ⟨s0, hs0, rfl⟩ := rg_in (by decide) c580
          have ws := rg_s hs0 (by decide)
          refine bf_iload r.1 dX9_seen_51 rfl ?_
          refine bf_i2l r.1 dX9_seen_53 ?_
          refine bf_lconst r.1 (v := lN 0) dX9_seen_54 rfl ?_
          refine bf_ldc2 r.1 dX9_seen_55 lc_X9_120 ?_
          refine eq_l (v := lN 2) rfl ?_
          refine cl_s r (y2 := mX9_in) dX9_seen_58 li_X9_80 mv_X9_in [.long (wh.toInt64), .long (lN 0), .long (lN 2)] [] rfl (Nat.le_of_ble_eq_true rfl) rfl (c_X9_in32 (by omega) D wh (h := 2) (m := 3) rfl (by decide)) ?_
          show J 61 [some (.ref 37), some (.int (nI k0)), some (.int (nI l0)), some (.int (i)), some (.int (nI n0)), some (.int (nI s0)), some (.int (wh)), none, none] [.int (if 0 ≤ wh ∧ wh < nI 3 then 1 else 0)] (bf_MD D)
          refine nb_ne r (tgt := 71) dX9_seen_61 (by decide) (fun c581 => ?_) (fun c581 => ?_)
          · obtain ⟨wh0, hwh0, rfl⟩ := rg_in (by decide) c581
            have wwh := rg_s hwh0 (by decide)
            refine bf_aload_n r.1 dX9_seen_71 rfl ?_
            refine ig_int r (v := nI (pN P)) dX9_seen_72 fl_X9_77 rfl (by decide) rfl (mP_n (P := P) hm) ?_
            refine nz_ne r (tgt := 85) dX9_seen_75 (by decide) (by omega) (fun c582 => ?_) (fun c582 => ?_)
            · have h1n : 1 ≤ pN P := by omega
              refine bf_aload_n r.1 dX9_seen_85 rfl ?_
              refine bf_iload_n r.1 dX9_seen_86 rfl ?_
              refine bf_iload_n r.1 dX9_seen_87 rfl ?_
              refine bf_iload_n r.1 dX9_seen_88 rfl ?_
              refine bf_iload r.1 dX9_seen_89 rfl ?_
              refine bf_aload_n r.1 dX9_seen_91 rfl ?_
              refine ig_int r (v := nI (pN P)) dX9_seen_92 fl_X9_77 rfl (by decide) rfl (mP_n (P := P) hm) ?_
              have hm40 : n0 * pN P ≤ 10 * 4 := Nat.mul_le_mul (by omega) hn4
              have hm4 : n0 * pN P < 2 ^ 31 := by omega
              refine na_mul r dX9_seen_95  ?_
              refine na_i2l r dX9_seen_96 hm4 ?_
              refine eq_l (bf_lN32 hm4).symm ?_
              refine cl_v r (y2 := mX9_cellsBarred) dX9_seen_97 li_X9_122 mv_X9_cellsBarred rfl (by decide) [.int (nI k0), .int (nI l0), .int (i), .long ((nI (n0 * pN P)).toInt64)] [] rfl (Nat.le_of_ble_eq_true rfl) rfl (c_X9_cellsBarred (by omega) vs ms hk0 (nI l0) i (nI (n0 * pN P))) ?_
              show J 100 [some (.ref 37), some (.int (nI k0)), some (.int (nI l0)), some (.int (i)), some (.int (nI n0)), some (.int (nI s0)), some (.int (nI wh0)), none, none] [.int (if bf_foc (sZ S k0) (sL S k0) (nI l0) i (nI (n0 * pN P)) = 0 then nI 0 else -10 - nI (bf_foc (sZ S k0) (sL S k0) (nI l0) i (nI (n0 * pN P))))] (bf_MD (if bf_foc (sZ S k0) (sL S k0) (nI l0) i (nI (n0 * pN P)) = 0 then D else bf_u D 37 0 (nI (bf_foc (sZ S k0) (sL S k0) (nI l0) i (nI (n0 * pN P))))))
              by_cases hfo : bf_foc (sZ S k0) (sL S k0) (nI l0) i (nI (n0 * pN P)) = 0
              · rw [if_pos hfo, if_pos hfo]
                show J 100 [some (.ref 37), some (.int (nI k0)), some (.int (nI l0)), some (.int (i)), some (.int (nI n0)), some (.int (nI s0)), some (.int (nI wh0)), none, none] [.int (nI 0)] (bf_MD D)
                obtain ⟨z, hz, _, q0, _, q2⟩ := bf_foc_0 hfo
                have z60 := (vs k0 hk0).2 z hz
                obtain ⟨i0, hi31, rfl⟩ := nI_of (x := i) (Int32.not_lt.mpr ((bf_le0 i).mpr q0))
                have ti := nI_toInt hi31
                have ci := nI_clamp hi31
                rw [nI_toInt hm4] at q2
                have q3 : i0 + n0 * pN P ≤ z := by omega
                refine bf_istore r.1 (L2 := [some (.ref 37), some (.int (nI k0)), some (.int (nI l0)), some (.int (nI i0)), some (.int (nI n0)), some (.int (nI s0)), some (.int (nI wh0)), some (.int (nI 0)), none]) dX9_seen_100 rfl ?_
                refine bf_iload r.1 dX9_seen_102 rfl ?_
                refine nz_ge r (tgt := 110) dX9_seen_104 (by decide) (by decide) (fun c583 => ?_) (fun c583 => ?_)
                · refine bf_iconst r.1 (v := nI 0) dX9_seen_110 rfl ?_
                  refine bf_istore r.1 (L2 := [some (.ref 37), some (.int (nI k0)), some (.int (nI l0)), some (.int (nI i0)), some (.int (nI n0)), some (.int (nI s0)), some (.int (nI wh0)), some (.int (nI 0)), some (.int (nI 0))]) dX9_seen_111 rfl ?_
                  have loop : ∀ t : Nat, t ≤ (n0 * pN P) → (∀ j, j < t → 0 ≤ cCl S k0 i0 j ∧ cCl S k0 i0 j < nI 128) → J 113 [some (.ref 37), some (.int (nI k0)), some (.int (nI l0)), some (.int (nI i0)), some (.int (nI n0)), some (.int (nI s0)), some (.int (nI wh0)), some (.int (nI 0)), some (.int (nI t))] [] (bf_MD D) := by
                    refine bf_down (fun t hle ih => ?_)
                    intro hj
                    refine bf_iload r.1 dX9_seen_113 rfl ?_
                    refine bf_iload r.1 dX9_seen_115 rfl ?_
                    refine bf_aload_n r.1 dX9_seen_117 rfl ?_
                    refine ig_int r (v := nI (pN P)) dX9_seen_118 fl_X9_77 rfl (by decide) rfl (mP_n (P := P) hm) ?_
                    refine na_mul r dX9_seen_121  ?_
                    refine nc_ge r (tgt := 163) dX9_seen_122 (by decide) (by omega) hm4 (fun c584 => ?_) (fun c584 => ?_)
                    · have hin : bf_inR (cCl S k0 i0) 128 (n0 * pN P) = true := inR_iff.mpr (fun j h9 => hj j (by omega))
                      have hcc : ∀ t, t < n0 * pN P → D 55 (60 * k0 + i0 + t) = nI (bf_cn (cCl S k0 i0) t) ∧ bf_cn (cCl S k0 i0) t < 128 := by
                        intro t ht
                        obtain ⟨y, hy, ey⟩ := rg_in (by decide) (hj t (by omega))
                        have ec : bf_cn (cCl S k0 i0) t = y := by unfold bf_cn; rw [ey]; exact nI_clamp (by omega)
                        rw [ec, Nat.add_assoc, ← ey]
                        exact ⟨(ms k0 hk0).2.2 z hz (i0 + t) (by omega), hy⟩
                      refine bf_aload_n r.1 dX9_seen_163 rfl ?_
                      refine bf_aload_n r.1 dX9_seen_164 rfl ?_
                      refine bf_bipush r.1 (v := nI 60) dX9_seen_165 rfl ?_
                      refine bf_iload_n r.1 dX9_seen_167 rfl ?_
                      refine na_mul r dX9_seen_168  ?_
                      refine bf_iload_n r.1 dX9_seen_169 rfl ?_
                      refine na_add r dX9_seen_170  ?_
                      refine bf_iload r.1 dX9_seen_171 rfl ?_
                      refine bf_iload r.1 dX9_seen_173 rfl ?_
                      refine bf_iload r.1 dX9_seen_175 rfl ?_
                      refine cl_v r (y2 := mX9_beginsBy) dX9_seen_177 li_X9_231 mv_X9_beginsBy rfl (by decide) [.int (nI (60 * k0 + i0)), .int (nI n0), .int (nI s0), .int (nI wh0)] [.ref 37] rfl (Nat.le_of_ble_eq_true rfl) rfl (c_X9_beginsBy (by omega) hv hm h1n (c := bf_cn (cCl S k0 i0)) (by omega) (by omega) (by omega) hcc (by omega)) ?_
                      show J 180 [some (.ref 37), some (.int (nI k0)), some (.int (nI l0)), some (.int (nI i0)), some (.int (nI n0)), some (.int (nI s0)), some (.int (nI wh0)), some (.int (nI 0)), some (.int (nI t))] [.int (bf_pk (fun u => bgN P (bf_cn (cCl S k0 i0)) n0 s0 u) (pX P) (nI wh0)), .ref 37] (bf_MD D)
                      refine eq_i (v := bf_pk (fun u => bf_bg (bf_sF P (cCl S k0 i0)) (pN P) (pX P) s0 u n0) (pX P) (nI wh0)) (bf_pk_c (funext fun u => bg_eq h1n)) ?_
                      refine cl_v r (y2 := mX9_refused) dX9_seen_180 li_X9_117 mv_X9_refused rfl (by decide) [.int (bf_pk (fun u => bf_bg (bf_sF P (cCl S k0 i0)) (pN P) (pX P) s0 u n0) (pX P) (nI wh0))] [] rfl (Nat.le_of_ble_eq_true rfl) rfl (c_X9_refused (by omega) D _) ?_
                      show J 183 [some (.ref 37), some (.int (nI k0)), some (.int (nI l0)), some (.int (nI i0)), some (.int (nI n0)), some (.int (nI s0)), some (.int (nI wh0)), some (.int (nI 0)), some (.int (nI t))] [.int (bf_pk (fun u => bf_bg (bf_sF P (cCl S k0 i0)) (pN P) (pX P) s0 u n0) (pX P) (nI wh0))] (bf_MD (bf_u D 37 0 (nI 0)))
                      have ho : ox_seen P S Q F T (nI k0) (nI l0) (nI i0) (nI n0) (nI s0) (nI wh0) = (bf_pk (fun u => bf_bg (bf_sF P (cCl S k0 i0)) (pN P) (pX P) s0 u n0) (pX P) (nI wh0), (P, S, Q, 0, T)) := by simp only [ox_seen, wk, wl, wn, ws, wwh, if_neg c582, if_pos hfo, ci, if_pos hin, on_n, on_s]
                      exact re_i r dX9_seen_183 rfl rfl ⟨by rw [ho], by rw [ho]; exact (mA_0 hn4 0 ma), (fr_u fr_0 (by decide) (by decide))⟩
                    · refine bf_aload_n r.1 dX9_seen_125 rfl ?_
                      refine ig_ref r (b := 55) dX9_seen_126 fl_X9_61 rfl (by decide) rfl ?_
                      refine bf_bipush r.1 (v := nI 60) dX9_seen_129 rfl ?_
                      refine bf_iload_n r.1 dX9_seen_131 rfl ?_
                      refine na_mul r dX9_seen_132  ?_
                      refine bf_iload_n r.1 dX9_seen_133 rfl ?_
                      refine na_add r dX9_seen_134  ?_
                      refine bf_iload r.1 dX9_seen_135 rfl ?_
                      refine na_add r dX9_seen_137  ?_
                      refine ia_ld r (n := 240) (v := sC S k0 (i0 + t)) dX9_seen_138 rfl (by decide) (by omega) ((congrArg (D 55) (Nat.add_assoc (60 * k0) i0 t)).trans ((ms k0 hk0).2.2 z hz (i0 + t) (by omega))) ?_
                      refine bf_i2l r.1 dX9_seen_139 ?_
                      refine bf_lconst r.1 (v := lN 0) dX9_seen_140 rfl ?_
                      refine bf_ldc2 r.1 dX9_seen_141 lc_X9_171 ?_
                      refine eq_l (v := lN 127) rfl ?_
                      refine cl_s r (y2 := mX9_in) dX9_seen_144 li_X9_80 mv_X9_in [.long ((sC S k0 (i0 + t)).toInt64), .long (lN 0), .long (lN 127)] [] rfl (Nat.le_of_ble_eq_true rfl) rfl (c_X9_in32 (by omega) D (sC S k0 (i0 + t)) (h := 127) (m := 128) rfl (by decide)) ?_
                      show J 147 [some (.ref 37), some (.int (nI k0)), some (.int (nI l0)), some (.int (nI i0)), some (.int (nI n0)), some (.int (nI s0)), some (.int (nI wh0)), some (.int (nI 0)), some (.int (nI t))] [.int (if 0 ≤ sC S k0 (i0 + t) ∧ sC S k0 (i0 + t) < nI 128 then 1 else 0)] (bf_MD D)
                      refine nb_ne r (tgt := 157) dX9_seen_147 (by decide) (fun c585 => ?_) (fun c585 => ?_)
                      · refine na_inc r (v := t + 1) (L2 := [some (.ref 37), some (.int (nI k0)), some (.int (nI l0)), some (.int (nI i0)), some (.int (nI n0)), some (.int (nI s0)), some (.int (nI wh0)), some (.int (nI 0)), some (.int (nI (t + 1)))]) dX9_seen_157 rfl (nI_add _ 1) rfl ?_
                        refine bf_goto r.1 (tgt := 113) dX9_seen_160 (by decide) ?_
                        exact ih (by omega) (lt_s hj c585)
                      · have hin : ¬ bf_inR (cCl S k0 i0) 128 (n0 * pN P) = true := fun q => c585 (inR_iff.mp q t c584)
                        refine bf_aload_n r.1 dX9_seen_150 rfl ?_
                        refine bf_bipush r.1 (v := -2) dX9_seen_151 rfl ?_
                        refine cl_v r (y2 := mX9_refused) dX9_seen_153 li_X9_117 mv_X9_refused rfl (by decide) [.int (-2)] [] rfl (Nat.le_of_ble_eq_true rfl) rfl (c_X9_refused (by omega) D _) ?_
                        show J 156 [some (.ref 37), some (.int (nI k0)), some (.int (nI l0)), some (.int (nI i0)), some (.int (nI n0)), some (.int (nI s0)), some (.int (nI wh0)), some (.int (nI 0)), some (.int (nI t))] [.int (-2)] (bf_MD (bf_u D 37 0 (nI 0)))
                        have ho : ox_seen P S Q F T (nI k0) (nI l0) (nI i0) (nI n0) (nI s0) (nI wh0) = (-2, (P, S, Q, 0, T)) := by simp only [ox_seen, wk, wl, wn, ws, wwh, if_neg c582, if_pos hfo, ci, if_neg hin, on_n, on_s]
                        exact re_i r dX9_seen_156 rfl rfl ⟨by rw [ho], by rw [ho]; exact (mA_0 hn4 0 ma), (fr_u fr_0 (by decide) (by decide))⟩
                  exact loop 0 (Nat.zero_le _) lt_0
                · exact absurd c583 (by decide)
              · rw [if_neg hfo, if_neg hfo]
                show J 100 [some (.ref 37), some (.int (nI k0)), some (.int (nI l0)), some (.int (i)), some (.int (nI n0)), some (.int (nI s0)), some (.int (nI wh0)), none, none] [.int (-10 - nI (bf_foc (sZ S k0) (sL S k0) (nI l0) i (nI (n0 * pN P))))] (bf_MD (bf_u D 37 0 (nI (bf_foc (sZ S k0) (sL S k0) (nI l0) i (nI (n0 * pN P))))))
                refine bf_istore r.1 (L2 := [some (.ref 37), some (.int (nI k0)), some (.int (nI l0)), some (.int (i)), some (.int (nI n0)), some (.int (nI s0)), some (.int (nI wh0)), some (.int (-10 - nI (bf_foc (sZ S k0) (sL S k0) (nI l0) i (nI (n0 * pN P))))), none]) dX9_seen_100 rfl ?_
                refine bf_iload r.1 dX9_seen_102 rfl ?_
                refine bf_if_ge r.1 (tgt := 110) dX9_seen_104 (by decide) (fun c586 => ?_) (fun c586 => ?_)
                · exact absurd c586 (neg10 (bf_foc_le _ _ _ _ _))
                · refine bf_iload r.1 dX9_seen_107 rfl ?_
                  have ho : ox_seen P S Q F T (nI k0) (nI l0) i (nI n0) (nI s0) (nI wh0) = (-10 - nI (bf_foc (sZ S k0) (sL S k0) (nI l0) i (nI (n0 * pN P))), (P, S, Q, (bf_foc (sZ S k0) (sL S k0) (nI l0) i (nI (n0 * pN P))), T)) := by simp only [ox_seen, wk, wl, wn, ws, wwh, if_neg c582, if_neg hfo, on_n, on_s]
                  exact re_i r dX9_seen_109 rfl rfl ⟨by rw [ho], by rw [ho]; exact (mA_0 hn4 (bf_foc (sZ S k0) (sL S k0) (nI l0) i (nI (n0 * pN P))) ma), (fr_u fr_0 (by decide) (by decide))⟩
            · refine bf_aload_n r.1 dX9_seen_78 rfl ?_
              refine bf_bipush r.1 (v := -3) dX9_seen_79 rfl ?_
              refine cl_v r (y2 := mX9_refused) dX9_seen_81 li_X9_117 mv_X9_refused rfl (by decide) [.int (-3)] [] rfl (Nat.le_of_ble_eq_true rfl) rfl (c_X9_refused (by omega) D _) ?_
              show J 84 [some (.ref 37), some (.int (nI k0)), some (.int (nI l0)), some (.int (i)), some (.int (nI n0)), some (.int (nI s0)), some (.int (nI wh0)), none, none] [.int (-3)] (bf_MD (bf_u D 37 0 (nI 0)))
              have ho : ox_seen P S Q F T (nI k0) (nI l0) i (nI n0) (nI s0) (nI wh0) = (-3, (P, S, Q, 0, T)) := by simp only [ox_seen, wk, wl, wn, ws, wwh, if_pos c582, on_n, on_s]
              exact re_i r dX9_seen_84 rfl rfl ⟨by rw [ho], by rw [ho]; exact (mA_0 hn4 0 ma), (fr_u fr_0 (by decide) (by decide))⟩
          · have wwh := rg_n c581
            refine bf_aload_n r.1 dX9_seen_64 rfl ?_
            refine bf_bipush r.1 (v := -2) dX9_seen_65 rfl ?_
            refine cl_v r (y2 := mX9_refused) dX9_seen_67 li_X9_117 mv_X9_refused rfl (by decide) [.int (-2)] [] rfl (Nat.le_of_ble_eq_true rfl) rfl (c_X9_refused (by omega) D _) ?_
            show J 70 [some (.ref 37), some (.int (nI k0)), some (.int (nI l0)), some (.int (i)), some (.int (nI n0)), some (.int (nI s0)), some (.int (wh)), none, none] [.int (-2)] (bf_MD (bf_u D 37 0 (nI 0)))
            have ho : ox_seen P S Q F T (nI k0) (nI l0) i (nI n0) (nI s0) wh = (-2, (P, S, Q, 0, T)) := by simp only [ox_seen, wk, wl, wn, ws, wwh, on_n, on_s]
            exact re_i r dX9_seen_70 rfl rfl ⟨by rw [ho], by rw [ho]; exact (mA_0 hn4 0 ma), (fr_u fr_0 (by decide) (by decide))⟩
  · have wk := rg_n c577
    refine bf_aload_n r.1 dX9_seen_7 rfl ?_
    refine bf_iconst r.1 (v := -1) dX9_seen_8 rfl ?_
    refine cl_v r (y2 := mX9_refused) dX9_seen_9 li_X9_117 mv_X9_refused rfl (by decide) [.int (-1)] [] rfl (Nat.le_of_ble_eq_true rfl) rfl (c_X9_refused (by omega) D _) ?_
    show J 12 [some (.ref 37), some (.int (k)), some (.int (l)), some (.int (i)), some (.int (n)), some (.int (s)), some (.int (wh)), none, none] [.int (-1)] (bf_MD (bf_u D 37 0 (nI 0)))
    have ho : ox_seen P S Q F T k l i n s wh = (-1, (P, S, Q, 0, T)) := by simp only [ox_seen, wk, on_n, on_s]
    exact re_i r dX9_seen_12 rfl rfl ⟨by rw [ho], by rw [ho]; exact (mA_0 hn4 0 ma), (fr_u fr_0 (by decide) (by decide))⟩
