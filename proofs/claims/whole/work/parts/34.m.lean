/-! the reference: a step's flips, telling, counting, sheets -/
theorem bf_dg_s {i u k : Nat} (hk : k < i) : bf_dg (i + 1) u k = bf_dg i (u / 10) k := by
  unfold bf_dg
  rw [show i + 1 - 1 - k = (i - 1 - k) + 1 by omega, Nat.pow_succ, Nat.mul_comm, ← Nat.div_div_eq_div_mul]
theorem bf_dg_l {i u : Nat} : bf_dg (i + 1) u i = u % 10 := by
  unfold bf_dg
  rw [show i + 1 - 1 - i = 0 by omega, Nat.pow_zero, Nat.div_one]
theorem bf_sm_c {f g : Nat → Nat} : ∀ {n : Nat}, (∀ k, k < n → f k = g k) → bf_sm f n = bf_sm g n := by
  intro n
  induction n with
  | zero => intro _; rfl
  | succ n ih => intro h; simp only [bf_sm]; rw [ih (fun k hk => h k (by omega)), h n (by omega)]
theorem bf_sm_0 {f : Nat → Nat} : ∀ {n : Nat}, (∀ k, k < n → f k = 0) → bf_sm f n = 0 := by
  intro n
  induction n with
  | zero => intro _; rfl
  | succ n ih => intro h; simp only [bf_sm]; rw [ih (fun k hk => h k (by omega)), h n (by omega)]
theorem bf_nx_s (u : Nat) : bf_nx (u % 10) = (u + 1) % 10 := by
  unfold bf_nx
  split <;> omega
theorem pFs_gen (P : bf_Pn) : ∀ i u, u + 1 < 10 ^ i → pFs P i u = bf_sm (fun k => bf_pc (pB P k (bf_dg i u k) ^^^ pB P k (bf_dg i (u + 1) k))) i := by
  intro i
  induction i with
  | zero => intro u h; simp at h
  | succ i ih =>
    intro u h
    simp only [pFs, bf_sm]
    rw [bf_dg_l, bf_dg_l, bf_nx_s, Nat.add_comm]
    congr 1
    by_cases h9 : u % 10 = 9
    · rw [if_pos h9, ih (u / 10) (by rw [Nat.pow_succ] at h; omega)]
      refine bf_sm_c (fun k hk => ?_)
      rw [bf_dg_s hk, bf_dg_s hk, show (u + 1) / 10 = u / 10 + 1 by omega]
    · rw [if_neg h9]
      refine (bf_sm_0 (fun k hk => ?_)).symm
      rw [bf_dg_s hk, bf_dg_s hk, show (u + 1) / 10 = u / 10 by omega, Nat.xor_self]
      rfl
theorem pFs_eq {P : bf_Pn} {u : Nat} (h : u + 1 < pX P) : pFs P (pN P) u = pF P u (u + 1) := pFs_gen P (pN P) u h
theorem e_X9_tell {d : Nat} (hd : 10 ≤ d) {D : bf_D} {P : bf_Pn} {S : bf_Sh} {Q : bf_Rd} {F : Nat} {T : Int32} (va : vA (P, S, Q, F, T)) (ma : mA D (P, S, Q, F, T)) (k : Int32) : bf_Ce d mX9_tell [.ref 37, .int (k)] D (fun r D' => r = some (.int (ox_tell P S Q F T k).1) ∧ mA D' (ox_tell P S Q F T k).2 ∧ bf_fr 37 57 D D') := by
  refine bf_Ce_of 9 hd mo_X9_tell (Nat.le_of_ble_eq_true rfl) (fun e he J r => ?_)
  show J 0 [some (.ref 37), some (.int (k)), none, none] [] (bf_MD D)
  obtain ⟨hv, vs, vr, hF⟩ := id va
  obtain ⟨hm, ms, mr, c5, c6⟩ := id ma
  have hn4 := hv.1
  have hx4 := pX_le hv
  have hx0 := pX_pos P
  refine bf_aload_n r.1 dX9_tell_0 rfl ?_
  refine bf_iload_n r.1 dX9_tell_1 rfl ?_
  refine cl_v r (y2 := mX9_noPlace) dX9_tell_2 li_X9_160 mv_X9_noPlace rfl (by decide) [.int (k)] [] rfl (Nat.le_of_ble_eq_true rfl) rfl (c_X9_noPlace (by omega) hv hm _) ?_
  show J 5 [some (.ref 37), some (.int (k)), none, none] [.int (if ¬ (0 ≤ k ∧ k < nI (pN P)) then 1 else 0)] (bf_MD D)
  refine nb_eq r (tgt := 10) dX9_tell_5 (by decide) (fun c355 => ?_) (fun c355 => ?_)
  · obtain ⟨k0, hk0, rfl⟩ := rg_in (by omega) (Decidable.not_not.mp c355)
    have wk := rg_s hk0 (by omega)
    rcases (show pK P k0 = 0 ∨ pK P k0 = 1 ∨ pK P k0 = 2 by have := vP_k hv hk0; omega) with hq | hq | hq
    · refine bf_aload_n r.1 dX9_tell_10 rfl ?_
      refine ig_ref r (b := 38) dX9_tell_11 fl_X9_7 rfl (by decide) rfl ?_
      refine bf_iload_n r.1 dX9_tell_14 rfl ?_
      refine ia_ld r (n := 4) (v := nI 0) dX9_tell_15 rfl (by decide) (by omega) ((mP_k hm hk0).trans (congrArg nI hq)) ?_
      refine bf_istore_n r.1 (L2 := [some (.ref 37), some (.int (nI k0)), some (.int (nI 0)), none]) dX9_tell_16 rfl ?_
      refine bf_iload_n r.1 dX9_tell_17 rfl ?_
      refine bf_iconst r.1 (v := nI 2) dX9_tell_18 rfl ?_
      refine nc_ne r (tgt := 27) dX9_tell_19 (by decide) (by decide) (by decide) (fun c356 => ?_) (fun c356 => ?_)
      · refine bf_iload_n r.1 dX9_tell_27 rfl ?_
        refine nz_le r (tgt := 36) dX9_tell_28 (by decide) (by decide) (fun c357 => ?_) (fun c357 => ?_)
        · refine bf_aload_n r.1 dX9_tell_36 rfl ?_
          refine bf_iconst r.1 (v := nI 1) dX9_tell_37 rfl ?_
          refine ce_v r (y2 := mX9_traced) dX9_tell_38 li_X9_272 mv_X9_traced rfl (by decide) [.int (nI 1)] [] rfl (Nat.le_of_ble_eq_true rfl) rfl (e_X9_traced (by omega) hn4 ma 1) (fun res D358 hq358 => ?_)
          obtain ⟨rfl, hma358, hf358⟩ := hq358
          show J 41 [some (.ref 37), some (.int (nI k0)), some (.int (nI 0)), none] [] (bf_MD D358)
          replace ma := hma358
          obtain ⟨hm, ms, mr, c5, c6⟩ := id ma
          refine bf_iload_n r.1 dX9_tell_41 rfl ?_
          refine bf_iconst r.1 (v := nI 2) dX9_tell_42 rfl ?_
          refine nc_ne r (tgt := 51) dX9_tell_43 (by decide) (by decide) (by decide) (fun c359 => ?_) (fun c359 => ?_)
          · refine bf_aload_n r.1 dX9_tell_51 rfl ?_
            refine ig_ref r (b := 39) dX9_tell_52 fl_X9_13 rfl (by decide) rfl ?_
            refine bf_iload_n r.1 dX9_tell_55 rfl ?_
            refine ia_ld r (n := 4) (v := nI (pD P k0)) dX9_tell_56 rfl (by decide) (by omega) (mP_d (P := P) hm hk0) ?_
            refine bf_istore_n r.1 (L2 := [some (.ref 37), some (.int (nI k0)), some (.int (nI 0)), some (.int (nI (pD P k0)))]) dX9_tell_57 rfl ?_
            refine bf_iload_n r.1 dX9_tell_58 rfl ?_
            refine nz_ne r (tgt := 66) dX9_tell_59 (by decide) (by decide) (fun c360 => ?_) (fun c360 => ?_)
            · exact absurd c360 (by decide)
            · refine bf_iload_n r.1 dX9_tell_62 rfl ?_
              refine bf_goto r.1 (tgt := 84) dX9_tell_63 (by decide) ?_
              have ho : ox_tell P S Q F T (nI k0) = (nI (pD P k0), (P, S, Q, F, lvT T 1)) := by simp only [ox_tell, wk, hq, if_neg (show ¬ nI 0 = nI 1 by decide), if_neg (show ¬ nI 0 = nI 2 by decide), on_n, on_s, if_true]
              exact re_i r dX9_tell_84 rfl rfl ⟨by rw [ho], by rw [ho]; exact ma, (fr_t fr_0 hf358)⟩
          · exact absurd c359 (by decide)
        · exact absurd c357 (by decide)
      · exact absurd c356 (by decide)
    · refine bf_aload_n r.1 dX9_tell_10 rfl ?_
      refine ig_ref r (b := 38) dX9_tell_11 fl_X9_7 rfl (by decide) rfl ?_
      refine bf_iload_n r.1 dX9_tell_14 rfl ?_
      refine ia_ld r (n := 4) (v := nI 1) dX9_tell_15 rfl (by decide) (by omega) ((mP_k hm hk0).trans (congrArg nI hq)) ?_
      refine bf_istore_n r.1 (L2 := [some (.ref 37), some (.int (nI k0)), some (.int (nI 1)), none]) dX9_tell_16 rfl ?_
      refine bf_iload_n r.1 dX9_tell_17 rfl ?_
      refine bf_iconst r.1 (v := nI 2) dX9_tell_18 rfl ?_
      refine nc_ne r (tgt := 27) dX9_tell_19 (by decide) (by decide) (by decide) (fun c361 => ?_) (fun c361 => ?_)
      · refine bf_iload_n r.1 dX9_tell_27 rfl ?_
        refine nz_le r (tgt := 36) dX9_tell_28 (by decide) (by decide) (fun c362 => ?_) (fun c362 => ?_)
        · exact absurd c362 (by decide)
        · refine bf_aload_n r.1 dX9_tell_31 rfl ?_
          refine bf_iconst r.1 (v := nI 2) dX9_tell_32 rfl ?_
          refine ce_v r (y2 := mX9_traced) dX9_tell_33 li_X9_272 mv_X9_traced rfl (by decide) [.int (nI 2)] [] rfl (Nat.le_of_ble_eq_true rfl) rfl (e_X9_traced (by omega) hn4 ma 2) (fun res D363 hq363 => ?_)
          obtain ⟨rfl, hma363, hf363⟩ := hq363
          show J 36 [some (.ref 37), some (.int (nI k0)), some (.int (nI 1)), none] [] (bf_MD D363)
          replace ma := hma363
          obtain ⟨hm, ms, mr, c5, c6⟩ := id ma
          refine bf_aload_n r.1 dX9_tell_36 rfl ?_
          refine bf_iconst r.1 (v := nI 1) dX9_tell_37 rfl ?_
          refine ce_v r (y2 := mX9_traced) dX9_tell_38 li_X9_272 mv_X9_traced rfl (by decide) [.int (nI 1)] [] rfl (Nat.le_of_ble_eq_true rfl) rfl (e_X9_traced (by omega) hn4 ma 1) (fun res D364 hq364 => ?_)
          obtain ⟨rfl, hma364, hf364⟩ := hq364
          show J 41 [some (.ref 37), some (.int (nI k0)), some (.int (nI 1)), none] [] (bf_MD D364)
          replace ma := hma364
          obtain ⟨hm, ms, mr, c5, c6⟩ := id ma
          refine bf_iload_n r.1 dX9_tell_41 rfl ?_
          refine bf_iconst r.1 (v := nI 2) dX9_tell_42 rfl ?_
          refine nc_ne r (tgt := 51) dX9_tell_43 (by decide) (by decide) (by decide) (fun c365 => ?_) (fun c365 => ?_)
          · refine bf_aload_n r.1 dX9_tell_51 rfl ?_
            refine ig_ref r (b := 39) dX9_tell_52 fl_X9_13 rfl (by decide) rfl ?_
            refine bf_iload_n r.1 dX9_tell_55 rfl ?_
            refine ia_ld r (n := 4) (v := nI (pD P k0)) dX9_tell_56 rfl (by decide) (by omega) (mP_d (P := P) hm hk0) ?_
            refine bf_istore_n r.1 (L2 := [some (.ref 37), some (.int (nI k0)), some (.int (nI 1)), some (.int (nI (pD P k0)))]) dX9_tell_57 rfl ?_
            refine bf_iload_n r.1 dX9_tell_58 rfl ?_
            refine nz_ne r (tgt := 66) dX9_tell_59 (by decide) (by decide) (fun c366 => ?_) (fun c366 => ?_)
            · refine bf_iload_n r.1 dX9_tell_66 rfl ?_
              refine bf_iconst r.1 (v := nI 1) dX9_tell_67 rfl ?_
              refine nc_ne r (tgt := 78) dX9_tell_68 (by decide) (by decide) (by decide) (fun c367 => ?_) (fun c367 => ?_)
              · exact absurd c367 (by decide)
              · refine bf_iload_n r.1 dX9_tell_71 rfl ?_
                refine bf_bipush r.1 (v := nI 100) dX9_tell_72 rfl ?_
                refine na_add r dX9_tell_74  ?_
                refine bf_goto r.1 (tgt := 84) dX9_tell_75 (by decide) ?_
                have ho : ox_tell P S Q F T (nI k0) = (nI (pD P k0 + 100), (P, S, Q, F, lvT (lvT T 2) 1)) := by simp only [ox_tell, wk, hq, if_pos (show nI 1 = nI 1 by decide), if_neg (show ¬ nI 1 = nI 2 by decide), on_n, on_s, if_true]
                exact re_i r dX9_tell_84 rfl rfl ⟨by rw [ho], by rw [ho]; exact ma, (fr_t (fr_t fr_0 hf363) hf364)⟩
            · exact absurd c366 (by decide)
          · exact absurd c365 (by decide)
      · exact absurd c361 (by decide)
    · refine bf_aload_n r.1 dX9_tell_10 rfl ?_
      refine ig_ref r (b := 38) dX9_tell_11 fl_X9_7 rfl (by decide) rfl ?_
      refine bf_iload_n r.1 dX9_tell_14 rfl ?_
      refine ia_ld r (n := 4) (v := nI 2) dX9_tell_15 rfl (by decide) (by omega) ((mP_k hm hk0).trans (congrArg nI hq)) ?_
      refine bf_istore_n r.1 (L2 := [some (.ref 37), some (.int (nI k0)), some (.int (nI 2)), none]) dX9_tell_16 rfl ?_
      refine bf_iload_n r.1 dX9_tell_17 rfl ?_
      refine bf_iconst r.1 (v := nI 2) dX9_tell_18 rfl ?_
      refine nc_ne r (tgt := 27) dX9_tell_19 (by decide) (by decide) (by decide) (fun c368 => ?_) (fun c368 => ?_)
      · exact absurd c368 (by decide)
      · refine bf_aload_n r.1 dX9_tell_22 rfl ?_
        refine bf_iconst r.1 (v := nI 3) dX9_tell_23 rfl ?_
        refine ce_v r (y2 := mX9_traced) dX9_tell_24 li_X9_272 mv_X9_traced rfl (by decide) [.int (nI 3)] [] rfl (Nat.le_of_ble_eq_true rfl) rfl (e_X9_traced (by omega) hn4 ma 3) (fun res D369 hq369 => ?_)
        obtain ⟨rfl, hma369, hf369⟩ := hq369
        show J 27 [some (.ref 37), some (.int (nI k0)), some (.int (nI 2)), none] [] (bf_MD D369)
        replace ma := hma369
        obtain ⟨hm, ms, mr, c5, c6⟩ := id ma
        refine bf_iload_n r.1 dX9_tell_27 rfl ?_
        refine nz_le r (tgt := 36) dX9_tell_28 (by decide) (by decide) (fun c370 => ?_) (fun c370 => ?_)
        · exact absurd c370 (by decide)
        · refine bf_aload_n r.1 dX9_tell_31 rfl ?_
          refine bf_iconst r.1 (v := nI 2) dX9_tell_32 rfl ?_
          refine ce_v r (y2 := mX9_traced) dX9_tell_33 li_X9_272 mv_X9_traced rfl (by decide) [.int (nI 2)] [] rfl (Nat.le_of_ble_eq_true rfl) rfl (e_X9_traced (by omega) hn4 ma 2) (fun res D371 hq371 => ?_)
          obtain ⟨rfl, hma371, hf371⟩ := hq371
          show J 36 [some (.ref 37), some (.int (nI k0)), some (.int (nI 2)), none] [] (bf_MD D371)
          replace ma := hma371
          obtain ⟨hm, ms, mr, c5, c6⟩ := id ma
          refine bf_aload_n r.1 dX9_tell_36 rfl ?_
          refine bf_iconst r.1 (v := nI 1) dX9_tell_37 rfl ?_
          refine ce_v r (y2 := mX9_traced) dX9_tell_38 li_X9_272 mv_X9_traced rfl (by decide) [.int (nI 1)] [] rfl (Nat.le_of_ble_eq_true rfl) rfl (e_X9_traced (by omega) hn4 ma 1) (fun res D372 hq372 => ?_)
          obtain ⟨rfl, hma372, hf372⟩ := hq372
          show J 41 [some (.ref 37), some (.int (nI k0)), some (.int (nI 2)), none] [] (bf_MD D372)
          replace ma := hma372
          obtain ⟨hm, ms, mr, c5, c6⟩ := id ma
          refine bf_iload_n r.1 dX9_tell_41 rfl ?_
          refine bf_iconst r.1 (v := nI 2) dX9_tell_42 rfl ?_
          refine nc_ne r (tgt := 51) dX9_tell_43 (by decide) (by decide) (by decide) (fun c373 => ?_) (fun c373 => ?_)
          · exact absurd c373 (by decide)
          · refine bf_aload_n r.1 dX9_tell_46 rfl ?_
            refine bf_iconst r.1 (v := nI 1) dX9_tell_47 rfl ?_
            refine ce_v r (y2 := mX9_traced) dX9_tell_48 li_X9_272 mv_X9_traced rfl (by decide) [.int (nI 1)] [] rfl (Nat.le_of_ble_eq_true rfl) rfl (e_X9_traced (by omega) hn4 ma 1) (fun res D374 hq374 => ?_)
            obtain ⟨rfl, hma374, hf374⟩ := hq374
            show J 51 [some (.ref 37), some (.int (nI k0)), some (.int (nI 2)), none] [] (bf_MD D374)
            replace ma := hma374
            obtain ⟨hm, ms, mr, c5, c6⟩ := id ma
            refine bf_aload_n r.1 dX9_tell_51 rfl ?_
            refine ig_ref r (b := 39) dX9_tell_52 fl_X9_13 rfl (by decide) rfl ?_
            refine bf_iload_n r.1 dX9_tell_55 rfl ?_
            refine ia_ld r (n := 4) (v := nI (pD P k0)) dX9_tell_56 rfl (by decide) (by omega) (mP_d (P := P) hm hk0) ?_
            refine bf_istore_n r.1 (L2 := [some (.ref 37), some (.int (nI k0)), some (.int (nI 2)), some (.int (nI (pD P k0)))]) dX9_tell_57 rfl ?_
            refine bf_iload_n r.1 dX9_tell_58 rfl ?_
            refine nz_ne r (tgt := 66) dX9_tell_59 (by decide) (by decide) (fun c375 => ?_) (fun c375 => ?_)
            · refine bf_iload_n r.1 dX9_tell_66 rfl ?_
              refine bf_iconst r.1 (v := nI 1) dX9_tell_67 rfl ?_
              refine nc_ne r (tgt := 78) dX9_tell_68 (by decide) (by decide) (by decide) (fun c376 => ?_) (fun c376 => ?_)
              · refine bf_iconst r.1 (v := nI 2) dX9_tell_78 rfl ?_
                refine bf_iload_n r.1 dX9_tell_79 rfl ?_
                refine na_mul r dX9_tell_80  ?_
                refine bf_bipush r.1 (v := nI 100) dX9_tell_81 rfl ?_
                refine na_add r dX9_tell_83  ?_
                refine eq_i (v := nI (pD P k0 + 100 + pD P k0)) (congrArg nI (by omega)) ?_
                have ho : ox_tell P S Q F T (nI k0) = (nI (pD P k0 + 100 + pD P k0), (P, S, Q, F, lvT (lvT (lvT (lvT T 3) 2) 1) 1)) := by simp only [ox_tell, wk, hq, if_neg (show ¬ nI 2 = nI 1 by decide), if_pos (show nI 2 = nI 2 by decide), on_n, on_s, if_true]
                exact re_i r dX9_tell_84 rfl rfl ⟨by rw [ho], by rw [ho]; exact ma, (fr_t (fr_t (fr_t (fr_t fr_0 hf369) hf371) hf372) hf374)⟩
              · exact absurd c376 (by decide)
            · exact absurd c375 (by decide)
  · have wk := rg_n c355
    refine bf_iconst r.1 (v := -1) dX9_tell_8 rfl ?_
    have ho : ox_tell P S Q F T k = (-1, (P, S, Q, F, T)) := by simp only [ox_tell, wk, on_n, on_s, if_true]
    exact re_i r dX9_tell_9 rfl rfl ⟨by rw [ho], by rw [ho]; exact ma, fr_0⟩
theorem c_X9_deadNow {d : Nat} (hd : 3 ≤ d) {D : bf_D} {P : bf_Pn} (hv : vP P) (hm : mP D P) : bf_Cf d mX9_deadNow [.ref 37] D (some (.int (nI (pDd P)))) D := by
  refine bf_Cf_of 2 hd mo_X9_deadNow (Nat.le_of_ble_eq_true rfl) (fun e he J r => ?_)
  show J 0 [some (.ref 37), none, none] [] (bf_MD D)
  have hn4 := hv.1
  have hx4 := pX_le hv
  have hx0 := pX_pos P
  refine bf_iconst r.1 (v := nI 0) dX9_deadNow_0 rfl ?_
  refine bf_istore_n r.1 (L2 := [some (.ref 37), some (.int (nI 0)), none]) dX9_deadNow_1 rfl ?_
  refine bf_iconst r.1 (v := nI 0) dX9_deadNow_2 rfl ?_
  refine bf_istore_n r.1 (L2 := [some (.ref 37), some (.int (nI 0)), some (.int (nI 0))]) dX9_deadNow_3 rfl ?_
  have loop : ∀ j : Nat, j ≤ (pN P) → J 4 [some (.ref 37), some (.int (nI (bf_sm (fun k => bf_pc (pD P k)) j))), some (.int (nI j))] [] (bf_MD D) := by
    refine bf_down (fun j hle ih => ?_)
    refine bf_iload_n r.1 dX9_deadNow_4 rfl ?_
    refine bf_aload_n r.1 dX9_deadNow_5 rfl ?_
    refine ig_int r (v := nI (pN P)) dX9_deadNow_6 fl_X9_77 rfl (by decide) rfl (mP_n (P := P) hm) ?_
    refine nc_ge r (tgt := 30) dX9_deadNow_9 (by decide) (by omega) (by omega) (fun c377 => ?_) (fun c377 => ?_)
    · refine bf_iload_n r.1 dX9_deadNow_30 rfl ?_
      have ej : j = pN P := by omega
      subst ej
      exact rt_i r dX9_deadNow_31 rfl rfl rfl rfl
    · refine bf_iload_n r.1 dX9_deadNow_12 rfl ?_
      refine bf_aload_n r.1 dX9_deadNow_13 rfl ?_
      refine ig_ref r (b := 39) dX9_deadNow_14 fl_X9_13 rfl (by decide) rfl ?_
      refine bf_iload_n r.1 dX9_deadNow_17 rfl ?_
      refine ia_ld r (n := 4) (v := nI (pD P j)) dX9_deadNow_18 rfl (by decide) (by omega) (mP_d (P := P) hm c377) ?_
      refine cl_s r (y2 := mX9_bits) dX9_deadNow_19 li_X9_188 mv_X9_bits [.int (nI (pD P j))] [.int (nI (bf_sm (fun k => bf_pc (pD P k)) j))] rfl (Nat.le_of_ble_eq_true rfl) rfl (c_X9_bits (by omega) D (bf_1024 (vP_d hv (by omega)))) ?_
      show J 22 [some (.ref 37), some (.int (nI (bf_sm (fun k => bf_pc (pD P k)) j))), some (.int (nI j))] [.int (nI (bf_pc (pD P j))), .int (nI (bf_sm (fun k => bf_pc (pD P k)) j))] (bf_MD D)
      refine na_add r dX9_deadNow_22  ?_
      refine bf_istore_n r.1 (L2 := [some (.ref 37), some (.int (nI (bf_sm (fun k => bf_pc (pD P k)) j + (bf_pc (pD P j))))), some (.int (nI j))]) dX9_deadNow_23 rfl ?_
      refine na_inc r (v := j + 1) (L2 := [some (.ref 37), some (.int (nI (bf_sm (fun k => bf_pc (pD P k)) j + (bf_pc (pD P j))))), some (.int (nI (j + 1)))]) dX9_deadNow_24 rfl (nI_add _ 1) rfl ?_
      refine bf_goto r.1 (tgt := 4) dX9_deadNow_27 (by decide) ?_
      exact ih c377
  exact loop 0 (by omega) 
theorem c_X9_many {d : Nat} (hd : 7 ≤ d) {D : bf_D} {P : bf_Pn} (hv : vP P) (hm : mP D P) {Q : bf_Rd} (mr : mR D Q) (wh : Int32) : bf_Cf d mX9_many [.ref 37, .int (wh)] D (some (.int (ox_many P Q wh))) D := by
  refine bf_Cf_of 6 hd mo_X9_many (Nat.le_of_ble_eq_true rfl) (fun e he J r => ?_)
  show J 0 [some (.ref 37), some (.int (wh))] [] (bf_MD D)
  have hn4 := hv.1
  have hx4 := pX_le hv
  have hx0 := pX_pos P
  refine bf_iload_n r.1 dX9_many_0 rfl ?_
  by_cases c378 : wh = nI 0
  · refine bf_tabIn r.1 (off := 35) (tgt := 36) dX9_many_1 (by rw [c378]; decide) (by rw [c378]; decide) (by rw [c378]; rfl) (by decide) ?_
    refine bf_aload_n r.1 dX9_many_36 rfl ?_
    refine ig_int r (v := nI (pN P)) dX9_many_37 fl_X9_77 rfl (by decide) rfl (mP_n (P := P) hm) ?_
    exact rt_i r dX9_many_40 rfl rfl (by simp only [ox_many, if_pos c378, on_n, on_s]) rfl
  · by_cases c379 : wh = nI 1
    · refine bf_tabIn r.1 (off := 40) (tgt := 41) dX9_many_1 (by rw [c379]; decide) (by rw [c379]; decide) (by rw [c379]; rfl) (by decide) ?_
      refine bf_aload_n r.1 dX9_many_41 rfl ?_
      refine ig_int r (v := nI (pL P)) dX9_many_42 fl_X9_129 rfl (by decide) rfl (mP_l (P := P) hm) ?_
      exact rt_i r dX9_many_45 rfl rfl (by simp only [ox_many, if_neg c378, if_pos c379, on_n, on_s]) rfl
    · by_cases c380 : wh = nI 2
      · refine bf_tabIn r.1 (off := 45) (tgt := 46) dX9_many_1 (by rw [c380]; decide) (by rw [c380]; decide) (by rw [c380]; rfl) (by decide) ?_
        refine bf_aload_n r.1 dX9_many_46 rfl ?_
        refine ig_int r (v := nI (pS P)) dX9_many_47 fl_X9_132 rfl (by decide) rfl (mP_s (P := P) hm) ?_
        exact rt_i r dX9_many_50 rfl rfl (by simp only [ox_many, if_neg c378, if_neg c379, if_pos c380, on_n, on_s]) rfl
      · by_cases c381 : wh = nI 3
        · refine bf_tabIn r.1 (off := 50) (tgt := 51) dX9_many_1 (by rw [c381]; decide) (by rw [c381]; decide) (by rw [c381]; rfl) (by decide) ?_
          refine bf_aload_n r.1 dX9_many_51 rfl ?_
          refine cl_v r (y2 := mX9_deadNow) dX9_many_52 li_X9_205 mv_X9_deadNow rfl (by decide) [] [] rfl (Nat.le_of_ble_eq_true rfl) rfl (c_X9_deadNow (by omega) hv hm) ?_
          show J 55 [some (.ref 37), some (.int (wh))] [.int (nI (pDd P))] (bf_MD D)
          exact rt_i r dX9_many_55 rfl rfl (by simp only [ox_many, if_neg c378, if_neg c379, if_neg c380, if_pos c381, on_n, on_s]) rfl
        · by_cases c382 : wh = nI 4
          · refine bf_tabIn r.1 (off := 55) (tgt := 56) dX9_many_1 (by rw [c382]; decide) (by rw [c382]; decide) (by rw [c382]; rfl) (by decide) ?_
            refine bf_aload_n r.1 dX9_many_56 rfl ?_
            refine ig_int r (v := nI (rN Q)) dX9_many_57 fl_X9_135 rfl (by decide) rfl mr.1 ?_
            exact rt_i r dX9_many_60 rfl rfl (by simp only [ox_many, if_neg c378, if_neg c379, if_neg c380, if_neg c381, if_pos c382, on_n, on_s]) rfl
          · refine bf_tabOut r.1 (tgt := 61) dX9_many_1 (by have q0 := lv_neT c378 (a := 0) (by decide); have q1 := lv_neT c379 (a := 1) (by decide); have q2 := lv_neT c380 (a := 2) (by decide); have q3 := lv_neT c381 (a := 3) (by decide); have q4 := lv_neT c382 (a := 4) (by decide); omega) (by decide) ?_
            refine bf_bipush r.1 (v := -2) dX9_many_61 rfl ?_
            exact rt_i r dX9_many_63 rfl rfl (by simp only [ox_many, if_neg c378, if_neg c379, if_neg c380, if_neg c381, if_neg c382, on_n, on_s]) rfl
theorem c_X9_counting {d : Nat} (hd : 9 ≤ d) {D : bf_D} {P : bf_Pn} (hv : vP P) (hm : mP D P) (u v wh : Int32) : bf_Cf d mX9_counting [.ref 37, .int (u), .int (v), .int (wh)] D (some (.int (ox_counting P u v wh))) D := by
  refine bf_Cf_of 8 hd mo_X9_counting (Nat.le_of_ble_eq_true rfl) (fun e he J r => ?_)
  show J 0 [some (.ref 37), some (.int (u)), some (.int (v)), some (.int (wh)), none, none, none, none, none] [] (bf_MD D)
  have hn4 := hv.1
  have hx4 := pX_le hv
  have hx0 := pX_pos P
  refine bf_aload_n r.1 dX9_counting_0 rfl ?_
  refine ig_int r (v := nI (pN P)) dX9_counting_1 fl_X9_77 rfl (by decide) rfl (mP_n (P := P) hm) ?_
  refine nz_ne r (tgt := 10) dX9_counting_4 (by decide) (by omega) (fun c383 => ?_) (fun c383 => ?_)
  · have h1n : 1 ≤ pN P := by omega
    refine bf_aload_n r.1 dX9_counting_10 rfl ?_
    refine bf_iload_n r.1 dX9_counting_11 rfl ?_
    refine cl_v r (y2 := mX9_noNumber) dX9_counting_12 li_X9_185 mv_X9_noNumber rfl (by decide) [.int (u)] [] rfl (Nat.le_of_ble_eq_true rfl) rfl (c_X9_noNumber (by omega) hv hm _) ?_
    show J 15 [some (.ref 37), some (.int (u)), some (.int (v)), some (.int (wh)), none, none, none, none, none] [.int (if ¬ (0 ≤ u ∧ u < nI (pX P)) then 1 else 0)] (bf_MD D)
    refine nb_ne r (tgt := 43) dX9_counting_15 (by decide) (fun c384 => ?_) (fun c384 => ?_)
    · have wu := rg_n c384
      refine bf_bipush r.1 (v := -2) dX9_counting_43 rfl ?_
      exact rt_i r dX9_counting_45 rfl rfl (by simp only [ox_counting, if_neg c383, wu, on_n, on_s]) rfl
    · obtain ⟨u0, hu0, rfl⟩ := rg_in (by omega) (Decidable.not_not.mp c384)
      have wu := rg_s hu0 (by omega)
      refine bf_aload_n r.1 dX9_counting_18 rfl ?_
      refine bf_iload_n r.1 dX9_counting_19 rfl ?_
      refine cl_v r (y2 := mX9_noNumber) dX9_counting_20 li_X9_185 mv_X9_noNumber rfl (by decide) [.int (v)] [] rfl (Nat.le_of_ble_eq_true rfl) rfl (c_X9_noNumber (by omega) hv hm _) ?_
      show J 23 [some (.ref 37), some (.int (nI u0)), some (.int (v)), some (.int (wh)), none, none, none, none, none] [.int (if ¬ (0 ≤ v ∧ v < nI (pX P)) then 1 else 0)] (bf_MD D)
      refine nb_ne r (tgt := 43) dX9_counting_23 (by decide) (fun c385 => ?_) (fun c385 => ?_)
      · have wv := rg_n c385
        refine bf_bipush r.1 (v := -2) dX9_counting_43 rfl ?_
        exact rt_i r dX9_counting_45 rfl rfl (by simp only [ox_counting, if_neg c383, wu, wv, on_n, on_s]) rfl
      · obtain ⟨v0, hv0, rfl⟩ := rg_in (by omega) (Decidable.not_not.mp c385)
        have wv := rg_s hv0 (by omega)
        refine bf_iload_n r.1 dX9_counting_26 rfl ?_
        refine bf_iload_n r.1 dX9_counting_27 rfl ?_
        refine nc_lt r (tgt := 43) dX9_counting_28 (by decide) (by omega) (by omega) (fun c386 => ?_) (fun c386 => ?_)
        · refine bf_bipush r.1 (v := -2) dX9_counting_43 rfl ?_
          exact rt_i r dX9_counting_45 rfl rfl (by simp only [ox_counting, if_neg c383, wu, wv, if_pos c386, on_n, on_s]) rfl
        · have huv : u0 ≤ v0 := c386
          refine bf_iload_n r.1 dX9_counting_31 rfl ?_
          refine bf_i2l r.1 dX9_counting_32 ?_
          refine bf_lconst r.1 (v := lN 0) dX9_counting_33 rfl ?_
          refine bf_ldc2 r.1 dX9_counting_34 lc_X9_120 ?_
          refine eq_l (v := lN 2) rfl ?_
          refine cl_s r (y2 := mX9_in) dX9_counting_37 li_X9_80 mv_X9_in [.long (wh.toInt64), .long (lN 0), .long (lN 2)] [] rfl (Nat.le_of_ble_eq_true rfl) rfl (c_X9_in32 (by omega) D wh (h := 2) (m := 3) rfl (by decide)) ?_
          show J 40 [some (.ref 37), some (.int (nI u0)), some (.int (nI v0)), some (.int (wh)), none, none, none, none, none] [.int (if 0 ≤ wh ∧ wh < nI 3 then 1 else 0)] (bf_MD D)
          refine nb_ne r (tgt := 46) dX9_counting_40 (by decide) (fun c387 => ?_) (fun c387 => ?_)
          · obtain ⟨wh0, hwh0, rfl⟩ := rg_in (by decide) c387
            have wwh := rg_s hwh0 (by decide)
            refine bf_iconst r.1 (v := nI 0) dX9_counting_46 rfl ?_
            refine bf_istore r.1 (L2 := [some (.ref 37), some (.int (nI u0)), some (.int (nI v0)), some (.int (nI wh0)), some (.int (nI 0)), none, none, none, none]) dX9_counting_47 rfl ?_
            refine bf_iconst r.1 (v := nI 0) dX9_counting_49 rfl ?_
            refine bf_istore r.1 (L2 := [some (.ref 37), some (.int (nI u0)), some (.int (nI v0)), some (.int (nI wh0)), some (.int (nI 0)), some (.int (nI 0)), none, none, none]) dX9_counting_50 rfl ?_
            refine bf_iconst r.1 (v := nI 0) dX9_counting_52 rfl ?_
            refine bf_istore r.1 (L2 := [some (.ref 37), some (.int (nI u0)), some (.int (nI v0)), some (.int (nI wh0)), some (.int (nI 0)), some (.int (nI 0)), some (.int (nI 0)), none, none]) dX9_counting_53 rfl ?_
            refine bf_iload_n r.1 dX9_counting_55 rfl ?_
            refine bf_istore r.1 (L2 := [some (.ref 37), some (.int (nI u0)), some (.int (nI v0)), some (.int (nI wh0)), some (.int (nI 0)), some (.int (nI 0)), some (.int (nI 0)), some (.int (nI u0)), none]) dX9_counting_56 rfl ?_
            have loop : ∀ t : Nat, t ≤ (v0 - u0) → J 58 [some (.ref 37), some (.int (nI u0)), some (.int (nI v0)), some (.int (nI wh0)), some (.int (nI (bf_ct (fun t => decide (pFt P u0 t = 0)) t))), some (.int (nI (bf_sm (pFt P u0) t))), some (.int (nI (bf_mx (pFt P u0) t))), some (.int (nI (u0 + t))), none] [] (bf_MD D) := by
              refine bf_down (fun t hle ih => ?_)
              have hft : ∀ i, pFt P u0 i ≤ 40 := fun i => by have := pFs_le P (pN P) (u0 + i); unfold pFt; omega
              refine bf_iload r.1 dX9_counting_58 rfl ?_
              refine bf_iload_n r.1 dX9_counting_60 rfl ?_
              refine nc_ge r (tgt := 120) dX9_counting_61 (by decide) (by omega) (by omega) (fun c388 => ?_) (fun c388 => ?_)
              · have ej : t = v0 - u0 := by omega
                subst ej
                refine bf_iload_n r.1 dX9_counting_120 rfl ?_
                refine nz_ne r (tgt := 129) dX9_counting_121 (by decide) (by omega) (fun c389 => ?_) (fun c389 => ?_)
                · refine bf_iload_n r.1 dX9_counting_129 rfl ?_
                  refine bf_iconst r.1 (v := nI 1) dX9_counting_130 rfl ?_
                  refine nc_ne r (tgt := 139) dX9_counting_131 (by decide) (by omega) (by decide) (fun c390 => ?_) (fun c390 => ?_)
                  · refine bf_iload r.1 dX9_counting_139 rfl ?_
                    exact rt_i r dX9_counting_141 rfl rfl (by simp only [ox_counting, if_neg c383, wu, wv, if_neg (Nat.not_lt.mpr c386), wwh, if_neg (show ¬ nI wh0 = 0 from fun q => c389 ((nI_eq (show wh0 < 2 ^ 31 by omega) (show 0 < 2 ^ 31 by decide)).mp q)), if_neg (show ¬ nI wh0 = nI 1 from fun q => c390 ((nI_eq (by omega) (by decide)).mp q)), on_n, on_s]) rfl
                  · refine bf_iload r.1 dX9_counting_134 rfl ?_
                    refine bf_goto r.1 (tgt := 141) dX9_counting_136 (by decide) ?_
                    exact rt_i r dX9_counting_141 rfl rfl (by simp only [ox_counting, if_neg c383, wu, wv, if_neg (Nat.not_lt.mpr c386), wwh, if_neg (show ¬ nI wh0 = 0 from fun q => c389 ((nI_eq (show wh0 < 2 ^ 31 by omega) (show 0 < 2 ^ 31 by decide)).mp q)), if_pos (show nI wh0 = nI 1 by rw [c390]), on_n, on_s]) rfl
                · refine bf_iload r.1 dX9_counting_124 rfl ?_
                  refine bf_goto r.1 (tgt := 141) dX9_counting_126 (by decide) ?_
                  exact rt_i r dX9_counting_141 rfl rfl (by simp only [ox_counting, if_neg c383, wu, wv, if_neg (Nat.not_lt.mpr c386), wwh, if_pos (show nI wh0 = 0 by rw [c389]; rfl), on_n, on_s]) rfl
              · refine bf_aload_n r.1 dX9_counting_64 rfl ?_
                refine bf_iload r.1 dX9_counting_65 rfl ?_
                refine bf_iload r.1 dX9_counting_67 rfl ?_
                refine bf_iconst r.1 (v := nI 1) dX9_counting_69 rfl ?_
                refine na_add r dX9_counting_70  ?_
                refine cl_v r (y2 := mX9_flipsOf) dX9_counting_71 li_X9_193 mv_X9_flipsOf rfl (by decide) [.int (nI (u0 + t)), .int (nI (u0 + t + 1))] [] rfl (Nat.le_of_ble_eq_true rfl) rfl (c_X9_flipsOf (by omega) hv hm (by omega) (by omega)) ?_
                show J 74 [some (.ref 37), some (.int (nI u0)), some (.int (nI v0)), some (.int (nI wh0)), some (.int (nI (bf_ct (fun t => decide (pFt P u0 t = 0)) t))), some (.int (nI (bf_sm (pFt P u0) t))), some (.int (nI (bf_mx (pFt P u0) t))), some (.int (nI (u0 + t))), none] [.int (nI (pF P (u0 + t) (u0 + t + 1)))] (bf_MD D)
                refine eq_i (v := nI (pFt P u0 t)) (congrArg nI (pFs_eq (by omega)).symm) ?_
                refine bf_istore r.1 (L2 := [some (.ref 37), some (.int (nI u0)), some (.int (nI v0)), some (.int (nI wh0)), some (.int (nI (bf_ct (fun t => decide (pFt P u0 t = 0)) t))), some (.int (nI (bf_sm (pFt P u0) t))), some (.int (nI (bf_mx (pFt P u0) t))), some (.int (nI (u0 + t))), some (.int (nI (pFt P u0 t)))]) dX9_counting_74 rfl ?_
                refine bf_iload r.1 dX9_counting_76 rfl ?_
                refine bf_iload r.1 dX9_counting_78 rfl ?_
                refine nz_ne r (tgt := 87) dX9_counting_80 (by decide) (by have := hft t; omega) (fun c391 => ?_) (fun c391 => ?_)
                · refine bf_iconst r.1 (v := nI 0) dX9_counting_87 rfl ?_
                  refine na_add r dX9_counting_88  ?_
                  refine bf_istore r.1 (L2 := [some (.ref 37), some (.int (nI u0)), some (.int (nI v0)), some (.int (nI wh0)), some (.int (nI (bf_ct (fun t => decide (pFt P u0 t = 0)) t + 0))), some (.int (nI (bf_sm (pFt P u0) t))), some (.int (nI (bf_mx (pFt P u0) t))), some (.int (nI (u0 + t))), some (.int (nI (pFt P u0 t)))]) dX9_counting_89 rfl ?_
                  refine bf_iload r.1 dX9_counting_91 rfl ?_
                  refine bf_iload r.1 dX9_counting_93 rfl ?_
                  refine na_add r dX9_counting_95  ?_
                  refine bf_istore r.1 (L2 := [some (.ref 37), some (.int (nI u0)), some (.int (nI v0)), some (.int (nI wh0)), some (.int (nI (bf_ct (fun t => decide (pFt P u0 t = 0)) t + 0))), some (.int (nI (bf_sm (pFt P u0) t + (pFt P u0 t)))), some (.int (nI (bf_mx (pFt P u0) t))), some (.int (nI (u0 + t))), some (.int (nI (pFt P u0 t)))]) dX9_counting_96 rfl ?_
                  refine bf_iload r.1 dX9_counting_98 rfl ?_
                  refine bf_iload r.1 dX9_counting_100 rfl ?_
                  refine nc_le r (tgt := 110) dX9_counting_102 (by decide) (by have := hft t; omega) (by have := bf_mx_le hft t; omega) (fun c392 => ?_) (fun c392 => ?_)
                  · refine bf_iload r.1 dX9_counting_110 rfl ?_
                    refine eq_i (v := nI (bf_mx (pFt P u0) (t + 1))) (congrArg nI (if_neg (by omega)).symm) ?_
                    refine bf_istore r.1 (L2 := [some (.ref 37), some (.int (nI u0)), some (.int (nI v0)), some (.int (nI wh0)), some (.int (nI (bf_ct (fun t => decide (pFt P u0 t = 0)) t + 0))), some (.int (nI (bf_sm (pFt P u0) t + (pFt P u0 t)))), some (.int (nI (bf_mx (pFt P u0) (t + 1)))), some (.int (nI (u0 + t))), some (.int (nI (pFt P u0 t)))]) dX9_counting_112 rfl ?_
                    refine na_inc r (v := u0 + t + 1) (L2 := [some (.ref 37), some (.int (nI u0)), some (.int (nI v0)), some (.int (nI wh0)), some (.int (nI (bf_ct (fun t => decide (pFt P u0 t = 0)) t + 0))), some (.int (nI (bf_sm (pFt P u0) t + (pFt P u0 t)))), some (.int (nI (bf_mx (pFt P u0) (t + 1)))), some (.int (nI (u0 + t + 1))), some (.int (nI (pFt P u0 t)))]) dX9_counting_114 rfl (nI_add _ 1) rfl ?_
                    refine bf_goto r.1 (tgt := 58) dX9_counting_117 (by decide) ?_
                    refine bf_fgt r.1 (i := 8) (L2 := [some (.ref 37), some (.int (nI u0)), some (.int (nI v0)), some (.int (nI wh0)), some (.int (nI (bf_ct (fun t => decide (pFt P u0 t = 0)) t + 0))), some (.int (nI (bf_sm (pFt P u0) t + (pFt P u0 t)))), some (.int (nI (bf_mx (pFt P u0) (t + 1)))), some (.int (nI (u0 + t + 1))), none]) rfl ?_
                    have hi := ih (by omega)
                    rw [bf_ct_f (p := (fun t => decide (pFt P u0 t = 0))) (by simpa using c391)] at hi
                    exact hi
                  · refine bf_iload r.1 dX9_counting_105 rfl ?_
                    refine bf_goto r.1 (tgt := 112) dX9_counting_107 (by decide) ?_
                    refine eq_i (v := nI (bf_mx (pFt P u0) (t + 1))) (congrArg nI (if_pos (by omega)).symm) ?_
                    refine bf_istore r.1 (L2 := [some (.ref 37), some (.int (nI u0)), some (.int (nI v0)), some (.int (nI wh0)), some (.int (nI (bf_ct (fun t => decide (pFt P u0 t = 0)) t + 0))), some (.int (nI (bf_sm (pFt P u0) t + (pFt P u0 t)))), some (.int (nI (bf_mx (pFt P u0) (t + 1)))), some (.int (nI (u0 + t))), some (.int (nI (pFt P u0 t)))]) dX9_counting_112 rfl ?_
                    refine na_inc r (v := u0 + t + 1) (L2 := [some (.ref 37), some (.int (nI u0)), some (.int (nI v0)), some (.int (nI wh0)), some (.int (nI (bf_ct (fun t => decide (pFt P u0 t = 0)) t + 0))), some (.int (nI (bf_sm (pFt P u0) t + (pFt P u0 t)))), some (.int (nI (bf_mx (pFt P u0) (t + 1)))), some (.int (nI (u0 + t + 1))), some (.int (nI (pFt P u0 t)))]) dX9_counting_114 rfl (nI_add _ 1) rfl ?_
                    refine bf_goto r.1 (tgt := 58) dX9_counting_117 (by decide) ?_
                    refine bf_fgt r.1 (i := 8) (L2 := [some (.ref 37), some (.int (nI u0)), some (.int (nI v0)), some (.int (nI wh0)), some (.int (nI (bf_ct (fun t => decide (pFt P u0 t = 0)) t + 0))), some (.int (nI (bf_sm (pFt P u0) t + (pFt P u0 t)))), some (.int (nI (bf_mx (pFt P u0) (t + 1)))), some (.int (nI (u0 + t + 1))), none]) rfl ?_
                    have hi := ih (by omega)
                    rw [bf_ct_f (p := (fun t => decide (pFt P u0 t = 0))) (by simpa using c391)] at hi
                    exact hi
                · refine bf_iconst r.1 (v := nI 1) dX9_counting_83 rfl ?_
                  refine bf_goto r.1 (tgt := 88) dX9_counting_84 (by decide) ?_
                  refine na_add r dX9_counting_88  ?_
                  refine bf_istore r.1 (L2 := [some (.ref 37), some (.int (nI u0)), some (.int (nI v0)), some (.int (nI wh0)), some (.int (nI (bf_ct (fun t => decide (pFt P u0 t = 0)) t + 1))), some (.int (nI (bf_sm (pFt P u0) t))), some (.int (nI (bf_mx (pFt P u0) t))), some (.int (nI (u0 + t))), some (.int (nI (pFt P u0 t)))]) dX9_counting_89 rfl ?_
                  refine bf_iload r.1 dX9_counting_91 rfl ?_
                  refine bf_iload r.1 dX9_counting_93 rfl ?_
                  refine na_add r dX9_counting_95  ?_
                  refine bf_istore r.1 (L2 := [some (.ref 37), some (.int (nI u0)), some (.int (nI v0)), some (.int (nI wh0)), some (.int (nI (bf_ct (fun t => decide (pFt P u0 t = 0)) t + 1))), some (.int (nI (bf_sm (pFt P u0) t + (pFt P u0 t)))), some (.int (nI (bf_mx (pFt P u0) t))), some (.int (nI (u0 + t))), some (.int (nI (pFt P u0 t)))]) dX9_counting_96 rfl ?_
                  refine bf_iload r.1 dX9_counting_98 rfl ?_
                  refine bf_iload r.1 dX9_counting_100 rfl ?_
                  refine nc_le r (tgt := 110) dX9_counting_102 (by decide) (by have := hft t; omega) (by have := bf_mx_le hft t; omega) (fun c393 => ?_) (fun c393 => ?_)
                  · refine bf_iload r.1 dX9_counting_110 rfl ?_
                    refine eq_i (v := nI (bf_mx (pFt P u0) (t + 1))) (congrArg nI (if_neg (by omega)).symm) ?_
                    refine bf_istore r.1 (L2 := [some (.ref 37), some (.int (nI u0)), some (.int (nI v0)), some (.int (nI wh0)), some (.int (nI (bf_ct (fun t => decide (pFt P u0 t = 0)) t + 1))), some (.int (nI (bf_sm (pFt P u0) t + (pFt P u0 t)))), some (.int (nI (bf_mx (pFt P u0) (t + 1)))), some (.int (nI (u0 + t))), some (.int (nI (pFt P u0 t)))]) dX9_counting_112 rfl ?_
                    refine na_inc r (v := u0 + t + 1) (L2 := [some (.ref 37), some (.int (nI u0)), some (.int (nI v0)), some (.int (nI wh0)), some (.int (nI (bf_ct (fun t => decide (pFt P u0 t = 0)) t + 1))), some (.int (nI (bf_sm (pFt P u0) t + (pFt P u0 t)))), some (.int (nI (bf_mx (pFt P u0) (t + 1)))), some (.int (nI (u0 + t + 1))), some (.int (nI (pFt P u0 t)))]) dX9_counting_114 rfl (nI_add _ 1) rfl ?_
                    refine bf_goto r.1 (tgt := 58) dX9_counting_117 (by decide) ?_
                    refine bf_fgt r.1 (i := 8) (L2 := [some (.ref 37), some (.int (nI u0)), some (.int (nI v0)), some (.int (nI wh0)), some (.int (nI (bf_ct (fun t => decide (pFt P u0 t = 0)) t + 1))), some (.int (nI (bf_sm (pFt P u0) t + (pFt P u0 t)))), some (.int (nI (bf_mx (pFt P u0) (t + 1)))), some (.int (nI (u0 + t + 1))), none]) rfl ?_
                    have hi := ih (by omega)
                    rw [bf_ct_t (p := (fun t => decide (pFt P u0 t = 0))) (by simpa using c391)] at hi
                    exact hi
                  · refine bf_iload r.1 dX9_counting_105 rfl ?_
                    refine bf_goto r.1 (tgt := 112) dX9_counting_107 (by decide) ?_
                    refine eq_i (v := nI (bf_mx (pFt P u0) (t + 1))) (congrArg nI (if_pos (by omega)).symm) ?_
                    refine bf_istore r.1 (L2 := [some (.ref 37), some (.int (nI u0)), some (.int (nI v0)), some (.int (nI wh0)), some (.int (nI (bf_ct (fun t => decide (pFt P u0 t = 0)) t + 1))), some (.int (nI (bf_sm (pFt P u0) t + (pFt P u0 t)))), some (.int (nI (bf_mx (pFt P u0) (t + 1)))), some (.int (nI (u0 + t))), some (.int (nI (pFt P u0 t)))]) dX9_counting_112 rfl ?_
                    refine na_inc r (v := u0 + t + 1) (L2 := [some (.ref 37), some (.int (nI u0)), some (.int (nI v0)), some (.int (nI wh0)), some (.int (nI (bf_ct (fun t => decide (pFt P u0 t = 0)) t + 1))), some (.int (nI (bf_sm (pFt P u0) t + (pFt P u0 t)))), some (.int (nI (bf_mx (pFt P u0) (t + 1)))), some (.int (nI (u0 + t + 1))), some (.int (nI (pFt P u0 t)))]) dX9_counting_114 rfl (nI_add _ 1) rfl ?_
                    refine bf_goto r.1 (tgt := 58) dX9_counting_117 (by decide) ?_
                    refine bf_fgt r.1 (i := 8) (L2 := [some (.ref 37), some (.int (nI u0)), some (.int (nI v0)), some (.int (nI wh0)), some (.int (nI (bf_ct (fun t => decide (pFt P u0 t = 0)) t + 1))), some (.int (nI (bf_sm (pFt P u0) t + (pFt P u0 t)))), some (.int (nI (bf_mx (pFt P u0) (t + 1)))), some (.int (nI (u0 + t + 1))), none]) rfl ?_
                    have hi := ih (by omega)
                    rw [bf_ct_t (p := (fun t => decide (pFt P u0 t = 0))) (by simpa using c391)] at hi
                    exact hi
            exact loop 0 (by omega) 
          · have wwh := rg_n c387
            refine bf_bipush r.1 (v := -2) dX9_counting_43 rfl ?_
            exact rt_i r dX9_counting_45 rfl rfl (by simp only [ox_counting, if_neg c383, wu, wv, if_neg (Nat.not_lt.mpr c386), wwh, on_n, on_s]) rfl
  · refine bf_bipush r.1 (v := -3) dX9_counting_7 rfl ?_
    exact rt_i r dX9_counting_9 rfl rfl (by simp only [ox_counting, if_pos c383, on_n, on_s]) rfl
theorem c_X9_noSheet {d : Nat} (hd : 2 ≤ d) (D : bf_D) (k : Int32) : bf_Cf d mX9_noSheet [.int (k)] D (some (.int (if ¬ (0 ≤ k ∧ k < nI 4) then 1 else 0))) D := by
  refine bf_Cf_of 1 hd mo_X9_noSheet (Nat.le_of_ble_eq_true rfl) (fun e he J r => ?_)
  show J 0 [some (.int (k))] [] (bf_MD D)
  refine bf_iload_n r.1 dX9_noSheet_0 rfl ?_
  refine bf_i2l r.1 dX9_noSheet_1 ?_
  refine bf_lconst r.1 (v := lN 0) dX9_noSheet_2 rfl ?_
  refine bf_ldc2 r.1 dX9_noSheet_3 lc_X9_253 ?_
  refine eq_l (v := lN 3) rfl ?_
  refine cl_s r (y2 := mX9_in) dX9_noSheet_6 li_X9_80 mv_X9_in [.long (k.toInt64), .long (lN 0), .long (lN 3)] [] rfl (Nat.le_of_ble_eq_true rfl) rfl (c_X9_in32 (by omega) D k (h := 3) (m := 4) rfl (by decide)) ?_
  show J 9 [some (.int (k))] [.int (if 0 ≤ k ∧ k < nI 4 then 1 else 0)] (bf_MD D)
  refine nb_ne r (tgt := 16) dX9_noSheet_9 (by decide) (fun c394 => ?_) (fun c394 => ?_)
  · refine bf_iconst r.1 (v := nI 0) dX9_noSheet_16 rfl ?_
    exact rt_i r dX9_noSheet_17 rfl (by decide) (if_neg (fun q => q c394)).symm rfl
  · refine bf_iconst r.1 (v := nI 1) dX9_noSheet_12 rfl ?_
    refine bf_goto r.1 (tgt := 17) dX9_noSheet_13 (by decide) ?_
    exact rt_i r dX9_noSheet_17 rfl (by decide) (if_pos c394).symm rfl
theorem mS_put {D D' : bf_D} {S : bf_Sh} {k : Nat} {z : Option Nat} {l : Nat} {c : Nat → Int32} (vs : vS S) (h : mS D S) (ho : ∀ a j, (a = 53 ∨ a = 54) ∧ j ≠ k ∨ a = 55 ∧ (j < 60 * k ∨ 60 * k + 60 ≤ j) → D' a j = D a j) (h1 : D' 53 k = bf_sz z) (h2 : D' 54 k = nI l) (h3 : ∀ n, z = some n → ∀ i, i < n → D' 55 (60 * k + i) = c i) : mS D' (sPut S k z l c) := by
  intro i hi
  by_cases e : i = k
  · subst e
    refine ⟨?_, ?_, fun n hn t ht => ?_⟩
    · show _ = bf_sz (if i = i then z else _); rw [if_pos rfl]; exact h1
    · show _ = nI (if i = i then l else _); rw [if_pos rfl]; exact h2
    · show _ = (if i = i then c else sC S i) t
      rw [if_pos rfl]
      exact h3 n (by have h9 : (if i = i then z else sZ S i) = some n := hn; rwa [if_pos rfl] at h9) t ht
  · refine ⟨?_, ?_, fun n hn t ht => ?_⟩
    · show _ = bf_sz (if i = k then z else _); rw [if_neg e, ho _ _ (by omega)]; exact (h i hi).1
    · show _ = nI (if i = k then l else _); rw [if_neg e, ho _ _ (by omega)]; exact (h i hi).2.1
    · have h9 : (if i = k then z else sZ S i) = some n := hn
      rw [if_neg e] at h9
      have h60 := (vs i hi).2 n h9
      show _ = (if i = k then c else sC S i) t
      rw [if_neg e, ho _ _ (by omega)]
      exact (h i hi).2.2 n h9 t ht
theorem bf_sz_lt {z : Option Nat} (h : ∀ n, z = some n → n ≤ 60) : bf_sz z < 0 ↔ z = none := by
  cases z with
  | none => simp [bf_sz]
  | some n =>
    have h1 := h n rfl
    simp only [bf_sz]
    constructor
    · intro e; rw [bf_lt0, nI_toInt (by omega)] at e; omega
    · intro e; cases e
theorem e_X9_lose {d : Nat} (hd : 10 ≤ d) {D : bf_D} {P : bf_Pn} {S : bf_Sh} {Q : bf_Rd} {F : Nat} {T : Int32} (va : vA (P, S, Q, F, T)) (ma : mA D (P, S, Q, F, T)) (k : Int32) : bf_Ce d mX9_lose [.ref 37, .int (k)] D (fun r D' => r = some (.int (ox_lose P S Q F T k).1) ∧ mA D' (ox_lose P S Q F T k).2 ∧ bf_fr 37 57 D D') := by
  refine bf_Ce_of 9 hd mo_X9_lose (Nat.le_of_ble_eq_true rfl) (fun e he J r => ?_)
  show J 0 [some (.ref 37), some (.int (k)), none] [] (bf_MD D)
  obtain ⟨hv, vs, vr, hF⟩ := id va
  obtain ⟨hm, ms, mr, c5, c6⟩ := id ma
  have hn4 := hv.1
  have hx4 := pX_le hv
  have hx0 := pX_pos P
  refine bf_iload_n r.1 dX9_lose_0 rfl ?_
  refine cl_s r (y2 := mX9_noSheet) dX9_lose_1 li_X9_113 mv_X9_noSheet [.int (k)] [] rfl (Nat.le_of_ble_eq_true rfl) rfl (c_X9_noSheet (by omega) D _) ?_
  show J 4 [some (.ref 37), some (.int (k)), none] [.int (if ¬ (0 ≤ k ∧ k < nI 4) then 1 else 0)] (bf_MD D)
  refine nb_eq r (tgt := 9) dX9_lose_4 (by decide) (fun c395 => ?_) (fun c395 => ?_)
  · obtain ⟨k0, hk0, rfl⟩ := rg_in (by decide) (Decidable.not_not.mp c395)
    have wk := rg_s hk0 (by decide)
    have z60k := (vs k0 hk0).2
    refine bf_aload_n r.1 dX9_lose_9 rfl ?_
    refine ig_ref r (b := 53) dX9_lose_10 fl_X9_55 rfl (by decide) rfl ?_
    refine bf_iload_n r.1 dX9_lose_13 rfl ?_
    refine ia_ld r (n := 4) (v := bf_sz (sZ S k0)) dX9_lose_14 rfl (by decide) hk0 ((ms k0 hk0).1) ?_
    refine bf_if_ge r.1 (tgt := 22) dX9_lose_15 (by decide) (fun c396 => ?_) (fun c396 => ?_)
    · refine bf_iconst r.1 (v := nI 1) dX9_lose_22 rfl ?_
      refine bf_istore_n r.1 (L2 := [some (.ref 37), some (.int (nI k0)), some (.int (nI 1))]) dX9_lose_23 rfl ?_
      refine bf_aload_n r.1 dX9_lose_24 rfl ?_
      refine ig_ref r (b := 53) dX9_lose_25 fl_X9_55 rfl (by decide) rfl ?_
      refine bf_iload_n r.1 dX9_lose_28 rfl ?_
      refine bf_iconst r.1 (v := -1) dX9_lose_29 rfl ?_
      refine ia_st r (n := 4) dX9_lose_30 rfl (by decide) hk0 ?_
      refine bf_iload_n r.1 dX9_lose_31 rfl ?_
      have ho : ox_lose P S Q F T (nI k0) = (nI 1, (P, sPut S k0 none (sL S k0) (sC S k0), Q, F, T)) := by simp only [ox_lose, wk, if_neg (fun q => absurd ((bf_sz_lt z60k).mpr q) (Int32.not_lt.mpr c396)), on_n, on_s]
      exact re_i r dX9_lose_32 rfl rfl ⟨by rw [ho], by rw [ho]; exact (mA_S hn4 ma (mS_put vs ms (fun a j q => bf_un (by omega)) bf_us ((bf_un (by omega)).trans (ms k0 hk0).2.1) (fun n hn => by cases hn)) (fun a j q => bf_un (by omega))), (fr_u fr_0 (by decide) (by decide))⟩
    · refine bf_iconst r.1 (v := nI 0) dX9_lose_18 rfl ?_
      refine bf_goto r.1 (tgt := 23) dX9_lose_19 (by decide) ?_
      refine bf_istore_n r.1 (L2 := [some (.ref 37), some (.int (nI k0)), some (.int (nI 0))]) dX9_lose_23 rfl ?_
      refine bf_aload_n r.1 dX9_lose_24 rfl ?_
      refine ig_ref r (b := 53) dX9_lose_25 fl_X9_55 rfl (by decide) rfl ?_
      refine bf_iload_n r.1 dX9_lose_28 rfl ?_
      refine bf_iconst r.1 (v := -1) dX9_lose_29 rfl ?_
      refine ia_st r (n := 4) dX9_lose_30 rfl (by decide) hk0 ?_
      refine bf_iload_n r.1 dX9_lose_31 rfl ?_
      have ho : ox_lose P S Q F T (nI k0) = (nI 0, (P, sPut S k0 none (sL S k0) (sC S k0), Q, F, T)) := by simp only [ox_lose, wk, if_pos ((bf_sz_lt z60k).mp (Int32.not_le.mp c396)), on_n, on_s]
      exact re_i r dX9_lose_32 rfl rfl ⟨by rw [ho], by rw [ho]; exact (mA_S hn4 ma (mS_put vs ms (fun a j q => bf_un (by omega)) bf_us ((bf_un (by omega)).trans (ms k0 hk0).2.1) (fun n hn => by cases hn)) (fun a j q => bf_un (by omega))), (fr_u fr_0 (by decide) (by decide))⟩
  · have wk := rg_n c395
    refine bf_iconst r.1 (v := -1) dX9_lose_7 rfl ?_
    have ho : ox_lose P S Q F T k = (-1, (P, S, Q, F, T)) := by simp only [ox_lose, wk, on_n, on_s]
    exact re_i r dX9_lose_8 rfl rfl ⟨by rw [ho], by rw [ho]; exact ma, fr_0⟩
