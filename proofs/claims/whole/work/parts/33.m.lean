/-! the reference: commands -/
section
variable {D D' : bf_D} {P : bf_Pn} {S : bf_Sh} {Q : bf_Rd} {F : Nat} {T : Int32}
theorem mP_e (h : mP D P) (hn : pN P ≤ 4) (e : ∀ a j, (a = 37 ∧ 1 ≤ j ∧ j ≤ 3 ∨ 38 ≤ a ∧ a ≤ 41) → D' a j = D a j) : mP D' P :=
  ⟨⟨(e _ _ (by omega)).trans (mP_n h), (e _ _ (by omega)).trans (mP_l h), (e _ _ (by omega)).trans (mP_s h)⟩, fun k hk => ⟨(e _ _ (by omega)).trans (mP_k h hk), (e _ _ (by omega)).trans (mP_d h hk), (e _ _ (by omega)).trans (mP_t h hk), fun b hb => (e _ _ (by omega)).trans (mP_w h hk hb)⟩⟩
theorem mS_e (h : mS D S) (e : ∀ a j, 53 ≤ a ∧ a ≤ 55 → D' a j = D a j) : mS D' S := fun k hk => ⟨(e _ _ (by omega)).trans (h k hk).1, (e _ _ (by omega)).trans (h k hk).2.1, fun n hn i hi => (e _ _ (by omega)).trans ((h k hk).2.2 n hn i hi)⟩
theorem mR_e (h : mR D Q) (e : ∀ a j, (a = 37 ∧ j = 19 ∨ 50 ≤ a ∧ a ≤ 52) → D' a j = D a j) : mR D' Q := ⟨(e _ _ (by omega)).trans h.1, fun i hi => ⟨(e _ _ (by omega)).trans (h.2 i hi).1, (e _ _ (by omega)).trans (h.2 i hi).2.1, (e _ _ (by omega)).trans (h.2 i hi).2.2⟩⟩
theorem mA_0 (hn : pN P ≤ 4) (F' : Nat) (h : mA D (P, S, Q, F, T)) : mA (bf_u D 37 0 (nI F')) (P, S, Q, F', T) := by
  obtain ⟨h1, h2, h3, h4, h5⟩ := h
  exact ⟨mP_e h1 hn (fun a j q => bf_un (by omega)), mS_e h2 (fun a j q => bf_un (by omega)), mR_e h3 (fun a j q => bf_un (by omega)), bf_us, (bf_un (by omega)).trans h5⟩
theorem mA_27 (hn : pN P ≤ 4) (T' : Int32) (h : mA D (P, S, Q, F, T)) : mA (bf_u D 37 27 T') (P, S, Q, F, T') := by
  obtain ⟨h1, h2, h3, h4, h5⟩ := h
  exact ⟨mP_e h1 hn (fun a j q => bf_un (by omega)), mS_e h2 (fun a j q => bf_un (by omega)), mR_e h3 (fun a j q => bf_un (by omega)), (bf_un (by omega)).trans h4, bf_us⟩
theorem mA_P {P' : bf_Pn} (h : mA D (P, S, Q, F, T)) (hp : mP D' P') (e : ∀ a j, (a = 37 ∧ (j = 0 ∨ j = 19 ∨ j = 27) ∨ 50 ≤ a) → D' a j = D a j) : mA D' (P', S, Q, F, T) := by
  obtain ⟨h1, h2, h3, h4, h5⟩ := h
  exact ⟨hp, mS_e h2 (fun a j q => e a j (by omega)), mR_e h3 (fun a j q => e a j (by omega)), (e _ _ (by omega)).trans h4, (e _ _ (by omega)).trans h5⟩
theorem mA_S {S' : bf_Sh} (hn : pN P ≤ 4) (h : mA D (P, S, Q, F, T)) (hp : mS D' S') (e : ∀ a j, (a ≤ 52) → D' a j = D a j) : mA D' (P, S', Q, F, T) := by
  obtain ⟨h1, h2, h3, h4, h5⟩ := h
  exact ⟨mP_e h1 hn (fun a j q => e a j (by omega)), hp, mR_e h3 (fun a j q => e a j (by omega)), (e _ _ (by omega)).trans h4, (e _ _ (by omega)).trans h5⟩
theorem mA_R {Q' : bf_Rd} (hn : pN P ≤ 4) (h : mA D (P, S, Q, F, T)) (hp : mR D' Q') (e : ∀ a j, (a = 37 ∧ j ≠ 19 ∨ 38 ≤ a ∧ a ≤ 49 ∨ 53 ≤ a) → D' a j = D a j) : mA D' (P, S, Q', F, T) := by
  obtain ⟨h1, h2, h3, h4, h5⟩ := h
  exact ⟨mP_e h1 hn (fun a j q => e a j (by omega)), mS_e h2 (fun a j q => e a j (by omega)), hp, (e _ _ (by omega)).trans h4, (e _ _ (by omega)).trans h5⟩
theorem mP_set {k q dd st : Nat} {wf : Nat → Nat} (hc : mP D P) (hn4 : pN P ≤ 4) (ho : ∀ a j, (a = 37 ∧ 1 ≤ j ∧ j ≤ 3 ∨ 38 ≤ a ∧ a ≤ 40 ∧ j ≠ k ∨ a = 41 ∧ (j < 7 * k ∨ 7 * k + 7 ≤ j)) → D' a j = D a j) (h3 : D' 38 k = nI q) (h4 : D' 39 k = nI dd) (h5 : D' 40 k = nI st) (h8 : ∀ b, b < 7 → D' 41 (7 * k + b) = nI (wf b)) : mP D' (pSet P k q dd st wf) := by
  refine ⟨⟨(ho _ _ (by omega)).trans (mP_n (P := P) hc), (ho _ _ (by omega)).trans (mP_l (P := P) hc), (ho _ _ (by omega)).trans (mP_s (P := P) hc)⟩, fun i hi => ?_⟩
  have hi' : i < pN P := hi
  by_cases e : i = k
  · subst e
    refine ⟨?_, ?_, ?_, fun b hb => ?_⟩
    · rw [pSet_K, if_pos rfl]; exact h3
    · rw [pSet_D, if_pos rfl]; exact h4
    · rw [pSet_T, if_pos rfl]; exact h5
    · rw [pSet_W, if_pos rfl]; exact h8 b hb
  · refine ⟨?_, ?_, ?_, fun b hb => ?_⟩
    · rw [pSet_K, if_neg e, ho _ _ (by omega)]; exact mP_k hc hi'
    · rw [pSet_D, if_neg e, ho _ _ (by omega)]; exact mP_d hc hi'
    · rw [pSet_T, if_neg e, ho _ _ (by omega)]; exact mP_t hc hi'
    · rw [pSet_W, if_neg e, ho _ _ (by omega)]; exact mP_w hc hi' hb
end
theorem wh_bit {dd s b : Nat} (hb : b < 7) : bf_wh dd s b = (dd.testBit b && !s.testBit b) := by
  have e : (dd &&& (127 ^^^ s)).testBit b = (dd.testBit b && !s.testBit b) := by
    rw [Nat.testBit_and, Nat.testBit_xor]
    have : Nat.testBit 127 b = true := by
      have h : ∀ b : Fin 7, Nat.testBit 127 b.1 = true := by decide
      exact h ⟨b, hb⟩
    rw [this, Bool.true_xor]
  unfold bf_wh
  rw [← e]
  cases h : (dd &&& (127 ^^^ s)).testBit b with
  | true => exact decide_eq_true (fun q => by rw [(bf_tb0 _ _).mp q] at h; cases h)
  | false => exact decide_eq_false (fun q => q ((bf_tb0 _ _).mpr h))
theorem e_X9_jam {d : Nat} (hd : 10 ≤ d) {D : bf_D} {P : bf_Pn} {S : bf_Sh} {Q : bf_Rd} {F : Nat} {T : Int32} (va : vA (P, S, Q, F, T)) (ma : mA D (P, S, Q, F, T)) (k s : Int32) : bf_Ce d mX9_jam [.ref 37, .int (k), .int (s)] D (fun r D' => r = some (.int (ox_jam P S Q F T k s).1) ∧ mA D' (ox_jam P S Q F T k s).2 ∧ bf_fr 37 57 D D') := by
  refine bf_Ce_of 9 hd mo_X9_jam (Nat.le_of_ble_eq_true rfl) (fun e he J r => ?_)
  show J 0 [some (.ref 37), some (.int (k)), some (.int (s)), none] [] (bf_MD D)
  obtain ⟨hv, vs, vr, hF⟩ := id va
  obtain ⟨hm, ms, mr, c5, c6⟩ := id ma
  have hn4 := hv.1
  have hx4 := pX_le hv
  have hx0 := pX_pos P
  refine bf_aload_n r.1 dX9_jam_0 rfl ?_
  refine bf_iload_n r.1 dX9_jam_1 rfl ?_
  refine cl_v r (y2 := mX9_noPlace) dX9_jam_2 li_X9_160 mv_X9_noPlace rfl (by decide) [.int (k)] [] rfl (Nat.le_of_ble_eq_true rfl) rfl (c_X9_noPlace (by omega) hv hm _) ?_
  show J 5 [some (.ref 37), some (.int (k)), some (.int (s)), none] [.int (if ¬ (0 ≤ k ∧ k < nI (pN P)) then 1 else 0)] (bf_MD D)
  refine nb_eq r (tgt := 10) dX9_jam_5 (by decide) (fun c334 => ?_) (fun c334 => ?_)
  · obtain ⟨k0, hk0, rfl⟩ := rg_in (by omega) (Decidable.not_not.mp c334)
    have wk := rg_s hk0 (by omega)
    refine bf_iload_n r.1 dX9_jam_10 rfl ?_
    refine bf_i2l r.1 dX9_jam_11 ?_
    refine bf_lconst r.1 (v := lN 0) dX9_jam_12 rfl ?_
    refine bf_ldc2 r.1 dX9_jam_13 lc_X9_171 ?_
    refine eq_l (v := lN 127) rfl ?_
    refine cl_s r (y2 := mX9_in) dX9_jam_16 li_X9_80 mv_X9_in [.long (s.toInt64), .long (lN 0), .long (lN 127)] [] rfl (Nat.le_of_ble_eq_true rfl) rfl (c_X9_in32 (by omega) D s (h := 127) (m := 128) rfl (by decide)) ?_
    show J 19 [some (.ref 37), some (.int (nI k0)), some (.int (s)), none] [.int (if 0 ≤ s ∧ s < nI 128 then 1 else 0)] (bf_MD D)
    refine nb_ne r (tgt := 25) dX9_jam_19 (by decide) (fun c335 => ?_) (fun c335 => ?_)
    · obtain ⟨s0, hs0, rfl⟩ := rg_in (by decide) c335
      have ws := rg_s hs0 (by decide)
      refine bf_aload_n r.1 dX9_jam_25 rfl ?_
      refine ig_ref r (b := 40) dX9_jam_26 fl_X9_16 rfl (by decide) rfl ?_
      refine bf_iload_n r.1 dX9_jam_29 rfl ?_
      refine ia_ld r (n := 4) (v := nI (pT P k0)) dX9_jam_30 rfl (by decide) (by omega) (mP_t (P := P) hm hk0) ?_
      refine bf_istore_n r.1 (L2 := [some (.ref 37), some (.int (nI k0)), some (.int (nI s0)), some (.int (nI (pT P k0)))]) dX9_jam_31 rfl ?_
      refine bf_aload_n r.1 dX9_jam_32 rfl ?_
      refine ig_ref r (b := 40) dX9_jam_33 fl_X9_16 rfl (by decide) rfl ?_
      refine bf_iload_n r.1 dX9_jam_36 rfl ?_
      refine bf_iload_n r.1 dX9_jam_37 rfl ?_
      refine ia_st r (n := 4) dX9_jam_38 rfl (by decide) (by omega) ?_
      refine bf_iload_n r.1 dX9_jam_39 rfl ?_
      have ho : ox_jam P S Q F T (nI k0) (nI s0) = (nI (pT P k0), (pJm P k0 s0, S, Q, F, T)) := by simp only [ox_jam, wk, ws, on_n, on_s]
      exact re_i r dX9_jam_40 rfl rfl ⟨by rw [ho], by rw [ho]; exact (mA_P ma (mP_set hm hn4 (fun a j q => bf_un (by omega)) ((bf_un (by omega)).trans (mP_k hm hk0)) ((bf_un (by omega)).trans (mP_d hm hk0)) bf_us (fun b hb => (bf_un (by omega)).trans (mP_w hm hk0 hb))) (fun a j q => bf_un (by omega))), (fr_u fr_0 (by decide) (by decide))⟩
    · have ws := rg_n c335
      refine bf_bipush r.1 (v := -2) dX9_jam_22 rfl ?_
      have ho : ox_jam P S Q F T (nI k0) s = (-2, (P, S, Q, F, T)) := by simp only [ox_jam, wk, ws, on_n, on_s]
      exact re_i r dX9_jam_24 rfl rfl ⟨by rw [ho], by rw [ho]; exact ma, fr_0⟩
  · have wk := rg_n c334
    refine bf_iconst r.1 (v := -1) dX9_jam_8 rfl ?_
    have ho : ox_jam P S Q F T k s = (-1, (P, S, Q, F, T)) := by simp only [ox_jam, wk, on_n, on_s]
    exact re_i r dX9_jam_9 rfl rfl ⟨by rw [ho], by rw [ho]; exact ma, fr_0⟩
theorem e_X9_kill {d : Nat} (hd : 10 ≤ d) {D : bf_D} {P : bf_Pn} {S : bf_Sh} {Q : bf_Rd} {F : Nat} {T : Int32} (va : vA (P, S, Q, F, T)) (ma : mA D (P, S, Q, F, T)) (k s : Int32) : bf_Ce d mX9_kill [.ref 37, .int (k), .int (s)] D (fun r D' => r = some (.int (ox_kill P S Q F T k s).1) ∧ mA D' (ox_kill P S Q F T k s).2 ∧ bf_fr 37 57 D D') := by
  refine bf_Ce_of 9 hd mo_X9_kill (Nat.le_of_ble_eq_true rfl) (fun e he J r => ?_)
  show J 0 [some (.ref 37), some (.int (k)), some (.int (s)), none, none] [] (bf_MD D)
  obtain ⟨hv, vs, vr, hF⟩ := id va
  obtain ⟨hm, ms, mr, c5, c6⟩ := id ma
  have hn4 := hv.1
  have hx4 := pX_le hv
  have hx0 := pX_pos P
  refine bf_aload_n r.1 dX9_kill_0 rfl ?_
  refine bf_iload_n r.1 dX9_kill_1 rfl ?_
  refine cl_v r (y2 := mX9_noPlace) dX9_kill_2 li_X9_160 mv_X9_noPlace rfl (by decide) [.int (k)] [] rfl (Nat.le_of_ble_eq_true rfl) rfl (c_X9_noPlace (by omega) hv hm _) ?_
  show J 5 [some (.ref 37), some (.int (k)), some (.int (s)), none, none] [.int (if ¬ (0 ≤ k ∧ k < nI (pN P)) then 1 else 0)] (bf_MD D)
  refine nb_eq r (tgt := 10) dX9_kill_5 (by decide) (fun c336 => ?_) (fun c336 => ?_)
  · obtain ⟨k0, hk0, rfl⟩ := rg_in (by omega) (Decidable.not_not.mp c336)
    have wk := rg_s hk0 (by omega)
    refine bf_iload_n r.1 dX9_kill_10 rfl ?_
    refine bf_i2l r.1 dX9_kill_11 ?_
    refine bf_lconst r.1 (v := lN 0) dX9_kill_12 rfl ?_
    refine bf_ldc2 r.1 dX9_kill_13 lc_X9_171 ?_
    refine eq_l (v := lN 127) rfl ?_
    refine cl_s r (y2 := mX9_in) dX9_kill_16 li_X9_80 mv_X9_in [.long (s.toInt64), .long (lN 0), .long (lN 127)] [] rfl (Nat.le_of_ble_eq_true rfl) rfl (c_X9_in32 (by omega) D s (h := 127) (m := 128) rfl (by decide)) ?_
    show J 19 [some (.ref 37), some (.int (nI k0)), some (.int (s)), none, none] [.int (if 0 ≤ s ∧ s < nI 128 then 1 else 0)] (bf_MD D)
    refine nb_ne r (tgt := 25) dX9_kill_19 (by decide) (fun c337 => ?_) (fun c337 => ?_)
    · obtain ⟨s0, hs0, rfl⟩ := rg_in (by decide) c337
      have ws := rg_s hs0 (by decide)
      refine bf_aload_n r.1 dX9_kill_25 rfl ?_
      refine ig_ref r (b := 39) dX9_kill_26 fl_X9_13 rfl (by decide) rfl ?_
      refine bf_iload_n r.1 dX9_kill_29 rfl ?_
      refine ia_ld r (n := 4) (v := nI (pD P k0)) dX9_kill_30 rfl (by decide) (by omega) (mP_d (P := P) hm hk0) ?_
      refine bf_istore_n r.1 (L2 := [some (.ref 37), some (.int (nI k0)), some (.int (nI s0)), some (.int (nI (pD P k0))), none]) dX9_kill_31 rfl ?_
      refine bf_iconst r.1 (v := nI 0) dX9_kill_32 rfl ?_
      refine bf_istore r.1 (L2 := [some (.ref 37), some (.int (nI k0)), some (.int (nI s0)), some (.int (nI (pD P k0))), some (.int (nI 0))]) dX9_kill_33 rfl ?_
      have lo : ∀ j : Nat, j ≤ 7 → ∀ D2 : bf_D, (∀ a t, (a ≠ 41 ∨ t < 7 * k0 ∨ 7 * k0 + j ≤ t) → D2 a t = D a t) → (∀ b, b < j → D2 41 (7 * k0 + b) = nI (if bf_wh (pD P k0) s0 b = true then 0 else pW P k0 b)) → J 35 [some (.ref 37), some (.int (nI k0)), some (.int (nI s0)), some (.int (nI (pD P k0))), some (.int (nI j))] [] (bf_MD D2) := by
        refine bf_down (fun j hle ih => ?_)
        intro D2 hO hI
        refine bf_iload r.1 dX9_kill_35 rfl ?_
        refine bf_bipush r.1 (v := nI 7) dX9_kill_37 rfl ?_
        refine nc_ge r (tgt := 94) dX9_kill_39 (by decide) (by omega) (by decide) (fun c338 => ?_) (fun c338 => ?_)
        · have ej : j = 7 := by omega
          subst ej
          refine bf_aload_n r.1 dX9_kill_94 rfl ?_
          refine ig_ref r (b := 39) dX9_kill_95 fl_X9_13 rfl (by decide) rfl ?_
          refine bf_iload_n r.1 dX9_kill_98 rfl ?_
          refine bf_iload_n r.1 dX9_kill_99 rfl ?_
          refine ia_st r (n := 4) dX9_kill_100 rfl (by decide) (by omega) ?_
          refine bf_iload_n r.1 dX9_kill_101 rfl ?_
          have ho : ox_kill P S Q F T (nI k0) (nI s0) = (nI (pD P k0), (pKl P k0 s0, S, Q, F, T)) := by simp only [ox_kill, wk, ws, on_n, on_s]
          exact re_i r dX9_kill_102 rfl rfl ⟨by rw [ho], by rw [ho]; exact (mA_P ma (mP_set hm hn4 (fun a j q => (bf_un (by omega)).trans (hO a j (by omega))) ((bf_un (by omega)).trans ((hO _ _ (by omega)).trans (mP_k hm hk0))) bf_us ((bf_un (by omega)).trans ((hO _ _ (by omega)).trans (mP_t hm hk0))) (fun b hb => (bf_un (by omega)).trans (hI b hb))) (fun a j q => (bf_un (by omega)).trans (hO a j (by omega)))), (fun a t q => (bf_un (by omega)).trans (hO a t (by omega)))⟩
        · refine bf_aload_n r.1 dX9_kill_42 rfl ?_
          refine ig_ref r (b := 41) dX9_kill_43 fl_X9_19 rfl (by decide) rfl ?_
          refine bf_bipush r.1 (v := nI 7) dX9_kill_46 rfl ?_
          refine bf_iload_n r.1 dX9_kill_48 rfl ?_
          refine na_mul r dX9_kill_49  ?_
          refine bf_iload r.1 dX9_kill_50 rfl ?_
          refine na_add r dX9_kill_52  ?_
          refine bf_iload_n r.1 dX9_kill_53 rfl ?_
          refine bf_iload r.1 dX9_kill_54 rfl ?_
          refine cl_s r (y2 := mX9_isIn) dX9_kill_56 li_X9_173 mv_X9_isIn [.int (nI (pD P k0)), .int (nI j)] [.int (nI (7 * k0 + j)), .ref 41] rfl (Nat.le_of_ble_eq_true rfl) rfl (c_X9_isIn (by omega) D2 (bf_lt31 (vP_d hv hk0) (by decide)) (by omega)) ?_
          show J 59 [some (.ref 37), some (.int (nI k0)), some (.int (nI s0)), some (.int (nI (pD P k0))), some (.int (nI j))] [.int (if ((pD P k0)).testBit j = true then 1 else 0), .int (nI (7 * k0 + j)), .ref 41] (bf_MD D2)
          refine nb_eq r (tgt := 75) dX9_kill_59 (by decide) (fun c339 => ?_) (fun c339 => ?_)
          · refine bf_aload_n r.1 dX9_kill_75 rfl ?_
            refine ig_ref r (b := 41) dX9_kill_76 fl_X9_19 rfl (by decide) rfl ?_
            refine bf_bipush r.1 (v := nI 7) dX9_kill_79 rfl ?_
            refine bf_iload_n r.1 dX9_kill_81 rfl ?_
            refine na_mul r dX9_kill_82  ?_
            refine bf_iload r.1 dX9_kill_83 rfl ?_
            refine na_add r dX9_kill_85  ?_
            refine ia_ld r (n := 28) (v := nI (pW P k0 j)) dX9_kill_86 rfl (by decide) (by omega) ((hO _ _ (by omega)).trans (mP_w hm hk0 (by omega))) ?_
            refine ia_st r (n := 28) dX9_kill_87 rfl (by decide) (by omega) ?_
            refine na_inc r (v := j + 1) (L2 := [some (.ref 37), some (.int (nI k0)), some (.int (nI s0)), some (.int (nI (pD P k0))), some (.int (nI (j + 1)))]) dX9_kill_88 rfl (nI_add _ 1) rfl ?_
            refine bf_goto r.1 (tgt := 35) dX9_kill_91 (by decide) ?_
            refine ih (by omega) _ (fun a t q => (bf_un (by omega)).trans (hO a t (by omega))) (fun b hb => ?_)
            by_cases eb : b = j
            · subst eb; rw [bf_us]; exact congrArg nI (if_neg (by rw [wh_bit (by omega), Bool.not_eq_true _ |>.mp c339, Bool.false_and]; decide)).symm
            · rw [bf_un (by omega)]; exact hI b (by omega)
          · refine bf_iload_n r.1 dX9_kill_62 rfl ?_
            refine bf_iload r.1 dX9_kill_63 rfl ?_
            refine cl_s r (y2 := mX9_isIn) dX9_kill_65 li_X9_173 mv_X9_isIn [.int (nI s0), .int (nI j)] [.int (nI (7 * k0 + j)), .ref 41] rfl (Nat.le_of_ble_eq_true rfl) rfl (c_X9_isIn (by omega) D2 (by omega) (by omega)) ?_
            show J 68 [some (.ref 37), some (.int (nI k0)), some (.int (nI s0)), some (.int (nI (pD P k0))), some (.int (nI j))] [.int (if (s0).testBit j = true then 1 else 0), .int (nI (7 * k0 + j)), .ref 41] (bf_MD D2)
            refine nb_ne r (tgt := 75) dX9_kill_68 (by decide) (fun c340 => ?_) (fun c340 => ?_)
            · refine bf_aload_n r.1 dX9_kill_75 rfl ?_
              refine ig_ref r (b := 41) dX9_kill_76 fl_X9_19 rfl (by decide) rfl ?_
              refine bf_bipush r.1 (v := nI 7) dX9_kill_79 rfl ?_
              refine bf_iload_n r.1 dX9_kill_81 rfl ?_
              refine na_mul r dX9_kill_82  ?_
              refine bf_iload r.1 dX9_kill_83 rfl ?_
              refine na_add r dX9_kill_85  ?_
              refine ia_ld r (n := 28) (v := nI (pW P k0 j)) dX9_kill_86 rfl (by decide) (by omega) ((hO _ _ (by omega)).trans (mP_w hm hk0 (by omega))) ?_
              refine ia_st r (n := 28) dX9_kill_87 rfl (by decide) (by omega) ?_
              refine na_inc r (v := j + 1) (L2 := [some (.ref 37), some (.int (nI k0)), some (.int (nI s0)), some (.int (nI (pD P k0))), some (.int (nI (j + 1)))]) dX9_kill_88 rfl (nI_add _ 1) rfl ?_
              refine bf_goto r.1 (tgt := 35) dX9_kill_91 (by decide) ?_
              refine ih (by omega) _ (fun a t q => (bf_un (by omega)).trans (hO a t (by omega))) (fun b hb => ?_)
              by_cases eb : b = j
              · subst eb; rw [bf_us]; exact congrArg nI (if_neg (by rw [wh_bit (by omega), c340, Bool.not_true, Bool.and_false]; decide)).symm
              · rw [bf_un (by omega)]; exact hI b (by omega)
            · refine bf_iconst r.1 (v := nI 0) dX9_kill_71 rfl ?_
              refine bf_goto r.1 (tgt := 87) dX9_kill_72 (by decide) ?_
              refine ia_st r (n := 28) dX9_kill_87 rfl (by decide) (by omega) ?_
              refine na_inc r (v := j + 1) (L2 := [some (.ref 37), some (.int (nI k0)), some (.int (nI s0)), some (.int (nI (pD P k0))), some (.int (nI (j + 1)))]) dX9_kill_88 rfl (nI_add _ 1) rfl ?_
              refine bf_goto r.1 (tgt := 35) dX9_kill_91 (by decide) ?_
              refine ih (by omega) _ (fun a t q => (bf_un (by omega)).trans (hO a t (by omega))) (fun b hb => ?_)
              by_cases eb : b = j
              · subst eb; rw [bf_us]; exact congrArg nI (if_pos (by rw [wh_bit (by omega), c339, Bool.not_eq_true _ |>.mp c340]; rfl)).symm
              · rw [bf_un (by omega)]; exact hI b (by omega)
      exact lo 0 (by omega) D (fun _ _ _ => rfl) (fun b hb => absurd hb (Nat.not_lt_zero _))
    · have ws := rg_n c337
      refine bf_bipush r.1 (v := -2) dX9_kill_22 rfl ?_
      have ho : ox_kill P S Q F T (nI k0) s = (-2, (P, S, Q, F, T)) := by simp only [ox_kill, wk, ws, on_n, on_s]
      exact re_i r dX9_kill_24 rfl rfl ⟨by rw [ho], by rw [ho]; exact ma, fr_0⟩
  · have wk := rg_n c336
    refine bf_iconst r.1 (v := -1) dX9_kill_8 rfl ?_
    have ho : ox_kill P S Q F T k s = (-1, (P, S, Q, F, T)) := by simp only [ox_kill, wk, on_n, on_s]
    exact re_i r dX9_kill_9 rfl rfl ⟨by rw [ho], by rw [ho]; exact ma, fr_0⟩
theorem mR_add {D : bf_D} {Q : bf_Rd} {k x s : Nat} (h : mR D Q) : mR (bf_u (bf_u (bf_u (bf_u D 50 (rN Q) (nI k)) 51 (rN Q) (nI x)) 52 (rN Q) (nI s)) 37 19 (nI (rN Q + 1))) (rAdd Q k x s) := by
  refine ⟨bf_us, fun i hi => ?_⟩
  have hi2 : i < rN Q + 1 := hi
  by_cases e : i = rN Q
  · subst e
    refine ⟨?_, ?_, ?_⟩
    · show _ = nI (if rN Q = rN Q then k else _); rw [if_pos rfl, bf_un (by omega), bf_un (by omega), bf_un (by omega)]; exact bf_us
    · show _ = nI (if rN Q = rN Q then x else _); rw [if_pos rfl, bf_un (by omega), bf_un (by omega)]; exact bf_us
    · show _ = nI (if rN Q = rN Q then s else _); rw [if_pos rfl, bf_un (by omega)]; exact bf_us
  · have h9 := h.2 i (by omega)
    refine ⟨?_, ?_, ?_⟩
    · show _ = nI (if i = rN Q then k else _); rw [if_neg e, bf_un (by omega), bf_un (by omega), bf_un (by omega), bf_un (by omega)]; exact h9.1
    · show _ = nI (if i = rN Q then x else _); rw [if_neg e, bf_un (by omega), bf_un (by omega), bf_un (by omega), bf_un (by omega)]; exact h9.2.1
    · show _ = nI (if i = rN Q then s else _); rw [if_neg e, bf_un (by omega), bf_un (by omega), bf_un (by omega), bf_un (by omega)]; exact h9.2.2
theorem mR_bk {D : bf_D} {Q : bf_Rd} {m : Nat} (hm : m ≤ rN Q) (h : mR D Q) : mR (bf_u D 37 19 (nI m)) (m, Q.2) := ⟨bf_us, fun i hi => by
  have h9 : i < m := hi
  have h2 := h.2 i (by omega)
  exact ⟨(bf_un (by omega)).trans h2.1, (bf_un (by omega)).trans h2.2.1, (bf_un (by omega)).trans h2.2.2⟩⟩
theorem e_X9_reading {d : Nat} (hd : 10 ≤ d) {D : bf_D} {P : bf_Pn} {S : bf_Sh} {Q : bf_Rd} {F : Nat} {T : Int32} (va : vA (P, S, Q, F, T)) (ma : mA D (P, S, Q, F, T)) (k x s : Int32) : bf_Ce d mX9_reading [.ref 37, .int (k), .int (x), .int (s)] D (fun r D' => r = some (.int (ox_reading P S Q F T k x s).1) ∧ mA D' (ox_reading P S Q F T k x s).2 ∧ bf_fr 37 57 D D') := by
  refine bf_Ce_of 9 hd mo_X9_reading (Nat.le_of_ble_eq_true rfl) (fun e he J r => ?_)
  show J 0 [some (.ref 37), some (.int (k)), some (.int (x)), some (.int (s))] [] (bf_MD D)
  obtain ⟨hv, vs, vr, hF⟩ := id va
  obtain ⟨hm, ms, mr, c5, c6⟩ := id ma
  have hn4 := hv.1
  have hx4 := pX_le hv
  have hx0 := pX_pos P
  refine bf_aload_n r.1 dX9_reading_0 rfl ?_
  refine bf_iload_n r.1 dX9_reading_1 rfl ?_
  refine cl_v r (y2 := mX9_noPlace) dX9_reading_2 li_X9_160 mv_X9_noPlace rfl (by decide) [.int (k)] [] rfl (Nat.le_of_ble_eq_true rfl) rfl (c_X9_noPlace (by omega) hv hm _) ?_
  show J 5 [some (.ref 37), some (.int (k)), some (.int (x)), some (.int (s))] [.int (if ¬ (0 ≤ k ∧ k < nI (pN P)) then 1 else 0)] (bf_MD D)
  refine nb_eq r (tgt := 10) dX9_reading_5 (by decide) (fun c341 => ?_) (fun c341 => ?_)
  · obtain ⟨k0, hk0, rfl⟩ := rg_in (by omega) (Decidable.not_not.mp c341)
    have wk := rg_s hk0 (by omega)
    refine bf_iload_n r.1 dX9_reading_10 rfl ?_
    refine bf_i2l r.1 dX9_reading_11 ?_
    refine bf_lconst r.1 (v := lN 0) dX9_reading_12 rfl ?_
    refine bf_ldc2 r.1 dX9_reading_13 lc_X9_176 ?_
    refine eq_l (v := lN 9) rfl ?_
    refine cl_s r (y2 := mX9_in) dX9_reading_16 li_X9_80 mv_X9_in [.long (x.toInt64), .long (lN 0), .long (lN 9)] [] rfl (Nat.le_of_ble_eq_true rfl) rfl (c_X9_in32 (by omega) D x (h := 9) (m := 10) rfl (by decide)) ?_
    show J 19 [some (.ref 37), some (.int (nI k0)), some (.int (x)), some (.int (s))] [.int (if 0 ≤ x ∧ x < nI 10 then 1 else 0)] (bf_MD D)
    refine nb_eq r (tgt := 34) dX9_reading_19 (by decide) (fun c342 => ?_) (fun c342 => ?_)
    · have wx := rg_n c342
      refine bf_bipush r.1 (v := -2) dX9_reading_34 rfl ?_
      have ho : ox_reading P S Q F T (nI k0) x s = (-2, (P, S, Q, F, T)) := by simp only [ox_reading, wk, wx, on_n, on_s]
      exact re_i r dX9_reading_36 rfl rfl ⟨by rw [ho], by rw [ho]; exact ma, fr_0⟩
    · obtain ⟨x0, hx0, rfl⟩ := rg_in (by decide) c342
      have wx := rg_s hx0 (by decide)
      refine bf_iload_n r.1 dX9_reading_22 rfl ?_
      refine bf_i2l r.1 dX9_reading_23 ?_
      refine bf_lconst r.1 (v := lN 0) dX9_reading_24 rfl ?_
      refine bf_ldc2 r.1 dX9_reading_25 lc_X9_171 ?_
      refine eq_l (v := lN 127) rfl ?_
      refine cl_s r (y2 := mX9_in) dX9_reading_28 li_X9_80 mv_X9_in [.long (s.toInt64), .long (lN 0), .long (lN 127)] [] rfl (Nat.le_of_ble_eq_true rfl) rfl (c_X9_in32 (by omega) D s (h := 127) (m := 128) rfl (by decide)) ?_
      show J 31 [some (.ref 37), some (.int (nI k0)), some (.int (nI x0)), some (.int (s))] [.int (if 0 ≤ s ∧ s < nI 128 then 1 else 0)] (bf_MD D)
      refine nb_ne r (tgt := 37) dX9_reading_31 (by decide) (fun c343 => ?_) (fun c343 => ?_)
      · obtain ⟨s0, hs0, rfl⟩ := rg_in (by decide) c343
        have ws := rg_s hs0 (by decide)
        refine bf_aload_n r.1 dX9_reading_37 rfl ?_
        refine ig_int r (v := nI (rN Q)) dX9_reading_38 fl_X9_135 rfl (by decide) rfl mr.1 ?_
        refine bf_bipush r.1 (v := nI 8) dX9_reading_41 rfl ?_
        refine nc_ne r (tgt := 49) dX9_reading_43 (by decide) (by have := vr.1; omega) (by decide) (fun c344 => ?_) (fun c344 => ?_)
        · have hr8 : rN Q < 8 := by have := vr.1; omega
          refine bf_aload_n r.1 dX9_reading_49 rfl ?_
          refine ig_ref r (b := 50) dX9_reading_50 fl_X9_46 rfl (by decide) rfl ?_
          refine bf_aload_n r.1 dX9_reading_53 rfl ?_
          refine ig_int r (v := nI (rN Q)) dX9_reading_54 fl_X9_135 rfl (by decide) rfl mr.1 ?_
          refine bf_iload_n r.1 dX9_reading_57 rfl ?_
          refine ia_st r (n := 8) dX9_reading_58 rfl (by decide) (by omega) ?_
          refine bf_aload_n r.1 dX9_reading_59 rfl ?_
          refine ig_ref r (b := 51) dX9_reading_60 fl_X9_49 rfl (by decide) rfl ?_
          refine bf_aload_n r.1 dX9_reading_63 rfl ?_
          refine ig_int r (v := nI (rN Q)) dX9_reading_64 fl_X9_135 rfl (by decide) rfl ((bf_un (by omega)).trans (mr.1)) ?_
          refine bf_iload_n r.1 dX9_reading_67 rfl ?_
          refine ia_st r (n := 8) dX9_reading_68 rfl (by decide) (by omega) ?_
          refine bf_aload_n r.1 dX9_reading_69 rfl ?_
          refine ig_ref r (b := 52) dX9_reading_70 fl_X9_52 rfl (by decide) rfl ?_
          refine bf_aload_n r.1 dX9_reading_73 rfl ?_
          refine ig_int r (v := nI (rN Q)) dX9_reading_74 fl_X9_135 rfl (by decide) rfl ((bf_un (by omega)).trans ((bf_un (by omega)).trans (mr.1))) ?_
          refine bf_iload_n r.1 dX9_reading_77 rfl ?_
          refine ia_st r (n := 8) dX9_reading_78 rfl (by decide) (by omega) ?_
          refine bf_aload_n r.1 dX9_reading_79 rfl ?_
          refine bf_dup r.1 dX9_reading_80 rfl ?_
          refine ig_int r (v := nI (rN Q)) dX9_reading_81 fl_X9_135 rfl (by decide) rfl ((bf_un (by omega)).trans ((bf_un (by omega)).trans ((bf_un (by omega)).trans (mr.1)))) ?_
          refine bf_iconst r.1 (v := nI 1) dX9_reading_84 rfl ?_
          refine na_add r dX9_reading_85  ?_
          refine ip_int r dX9_reading_86 fp_X9_135 rfl (by decide) rfl ?_
          refine bf_aload_n r.1 dX9_reading_89 rfl ?_
          refine ig_int r (v := nI (rN Q + 1)) dX9_reading_90 fl_X9_135 rfl (by decide) rfl bf_us ?_
          refine bf_iconst r.1 (v := nI 1) dX9_reading_93 rfl ?_
          refine na_sub r dX9_reading_94 (by omega) ?_
          show J 95 [some (.ref 37), some (.int (nI k0)), some (.int (nI x0)), some (.int (nI s0))] [.int (nI (rN Q))] (bf_MD (bf_u (bf_u (bf_u (bf_u D 50 (rN Q) (nI k0)) 51 (rN Q) (nI x0)) 52 (rN Q) (nI s0)) 37 19 (nI (rN Q + 1))))
          have ho : ox_reading P S Q F T (nI k0) (nI x0) (nI s0) = (nI (rN Q), (P, S, rAdd Q k0 x0 s0, F, T)) := by simp only [ox_reading, wk, wx, ws, if_neg c344, on_n, on_s]
          exact re_i r dX9_reading_95 rfl rfl ⟨by rw [ho], by rw [ho]; exact (mA_R hn4 ma (mR_add mr) (fun a j q => (bf_un (by omega)).trans ((bf_un (by omega)).trans ((bf_un (by omega)).trans (bf_un (by omega)))))), (fr_u (fr_u (fr_u (fr_u fr_0 (by decide) (by decide)) (by decide) (by decide)) (by decide) (by decide)) (by decide) (by decide))⟩
        · refine bf_bipush r.1 (v := -4) dX9_reading_46 rfl ?_
          have ho : ox_reading P S Q F T (nI k0) (nI x0) (nI s0) = (-4, (P, S, Q, F, T)) := by simp only [ox_reading, wk, wx, ws, if_pos c344, on_n, on_s]
          exact re_i r dX9_reading_48 rfl rfl ⟨by rw [ho], by rw [ho]; exact ma, fr_0⟩
      · have ws := rg_n c343
        refine bf_bipush r.1 (v := -2) dX9_reading_34 rfl ?_
        have ho : ox_reading P S Q F T (nI k0) (nI x0) s = (-2, (P, S, Q, F, T)) := by simp only [ox_reading, wk, wx, ws, on_n, on_s]
        exact re_i r dX9_reading_36 rfl rfl ⟨by rw [ho], by rw [ho]; exact ma, fr_0⟩
  · have wk := rg_n c341
    refine bf_iconst r.1 (v := -1) dX9_reading_8 rfl ?_
    have ho : ox_reading P S Q F T k x s = (-1, (P, S, Q, F, T)) := by simp only [ox_reading, wk, on_n, on_s]
    exact re_i r dX9_reading_9 rfl rfl ⟨by rw [ho], by rw [ho]; exact ma, fr_0⟩
theorem e_X9_back {d : Nat} (hd : 10 ≤ d) {D : bf_D} {P : bf_Pn} {S : bf_Sh} {Q : bf_Rd} {F : Nat} {T : Int32} (va : vA (P, S, Q, F, T)) (ma : mA D (P, S, Q, F, T)) (k : Int32) : bf_Ce d mX9_back [.ref 37, .int (k)] D (fun r D' => r = some (.int (ox_back P S Q F T k).1) ∧ mA D' (ox_back P S Q F T k).2 ∧ bf_fr 37 57 D D') := by
  refine bf_Ce_of 9 hd mo_X9_back (Nat.le_of_ble_eq_true rfl) (fun e he J r => ?_)
  show J 0 [some (.ref 37), some (.int (k))] [] (bf_MD D)
  obtain ⟨hv, vs, vr, hF⟩ := id va
  obtain ⟨hm, ms, mr, c5, c6⟩ := id ma
  have hn4 := hv.1
  have hx4 := pX_le hv
  have hx0 := pX_pos P
  have vr1 := vr.1
  refine bf_iload_n r.1 dX9_back_0 rfl ?_
  refine bf_i2l r.1 dX9_back_1 ?_
  refine bf_lconst r.1 (v := lN 0) dX9_back_2 rfl ?_
  refine bf_aload_n r.1 dX9_back_3 rfl ?_
  refine ig_int r (v := nI (rN Q)) dX9_back_4 fl_X9_135 rfl (by decide) rfl mr.1 ?_
  refine na_i2l r dX9_back_7 (by have := vr.1; omega) ?_
  refine cl_s r (y2 := mX9_in) dX9_back_8 li_X9_80 mv_X9_in [.long (k.toInt64), .long (lN 0), .long (lN (rN Q))] [] rfl (Nat.le_of_ble_eq_true rfl) rfl (c_X9_in32 (by omega) D k (h := rN Q) (m := rN Q + 1) rfl (by have := vr.1; omega)) ?_
  show J 11 [some (.ref 37), some (.int (k))] [.int (if 0 ≤ k ∧ k < nI (rN Q + 1) then 1 else 0)] (bf_MD D)
  refine nb_ne r (tgt := 17) dX9_back_11 (by decide) (fun c345 => ?_) (fun c345 => ?_)
  · obtain ⟨k0, hk0, rfl⟩ := rg_in (by omega) c345
    have wk := rg_s hk0 (by omega)
    refine bf_aload_n r.1 dX9_back_17 rfl ?_
    refine bf_dup r.1 dX9_back_18 rfl ?_
    refine ig_int r (v := nI (rN Q)) dX9_back_19 fl_X9_135 rfl (by decide) rfl mr.1 ?_
    refine bf_iload_n r.1 dX9_back_22 rfl ?_
    refine na_sub r dX9_back_23 (by omega) ?_
    refine ip_int r dX9_back_24 fp_X9_135 rfl (by decide) rfl ?_
    refine bf_aload_n r.1 dX9_back_27 rfl ?_
    refine ig_int r (v := nI (rN Q - k0)) dX9_back_28 fl_X9_135 rfl (by decide) rfl bf_us ?_
    have ho : ox_back P S Q F T (nI k0) = (nI (rN Q - k0), (P, S, (rN Q - k0, Q.2), F, T)) := by simp only [ox_back, wk, on_n, on_s]
    exact re_i r dX9_back_31 rfl rfl ⟨by rw [ho], by rw [ho]; exact (mA_R hn4 ma (mR_bk (by omega) mr) (fun a j q => bf_un (by omega))), (fr_u fr_0 (by decide) (by decide))⟩
  · have wk := rg_n c345
    refine bf_bipush r.1 (v := -2) dX9_back_14 rfl ?_
    have ho : ox_back P S Q F T k = (-2, (P, S, Q, F, T)) := by simp only [ox_back, wk, on_n, on_s]
    exact re_i r dX9_back_16 rfl rfl ⟨by rw [ho], by rw [ho]; exact ma, fr_0⟩
theorem e_X9_traced0 : True := trivial
theorem c_X9_traced {d : Nat} (hd : 1 ≤ d) {D : bf_D} {T : Int32} (c6 : D 37 27 = T) (x : Nat) : bf_Cf d mX9_traced [.ref 37, .int (nI x)] D none (bf_u D 37 27 (nI 31 * T + nI x)) := by
  refine bf_Cf_of 0 hd mo_X9_traced (Nat.le_of_ble_eq_true rfl) (fun e he J r => ?_)
  show J 0 [some (.ref 37), some (.int (nI x))] [] (bf_MD D)
  refine bf_aload_n r.1 dX9_traced_0 rfl ?_
  refine bf_bipush r.1 (v := nI 31) dX9_traced_1 rfl ?_
  refine bf_aload_n r.1 dX9_traced_3 rfl ?_
  refine ig_int r (v := T) dX9_traced_4 fl_X9_269 rfl (by decide) rfl c6 ?_
  refine bf_imul r.1 dX9_traced_7 ?_
  refine bf_iload_n r.1 dX9_traced_8 rfl ?_
  refine bf_iadd r.1 dX9_traced_9 ?_
  refine ip_int r dX9_traced_10 fp_X9_269 rfl (by decide) rfl ?_
  exact rt_v r dX9_traced_13 rfl rfl
theorem e_X9_traced {d : Nat} (hd : 1 ≤ d) {D : bf_D} {P : bf_Pn} {S : bf_Sh} {Q : bf_Rd} {F : Nat} {T : Int32} (hn4 : pN P ≤ 4) (ma : mA D (P, S, Q, F, T)) (x : Nat) : bf_Ce d mX9_traced [.ref 37, .int (nI x)] D (fun r D' => r = none ∧ mA D' (P, S, Q, F, lvT T x) ∧ bf_fr 37 57 D D') :=
  bf_Ce_Cf (c_X9_traced hd ma.2.2.2.2 x) ⟨rfl, mA_27 hn4 _ ma, fr_u fr_0 (by decide) (by decide)⟩
theorem e_X9_hum {d : Nat} (hd : 10 ≤ d) {D : bf_D} {P : bf_Pn} {S : bf_Sh} {Q : bf_Rd} {F : Nat} {T : Int32} (va : vA (P, S, Q, F, T)) (ma : mA D (P, S, Q, F, T)) (k : Int32) : bf_Ce d mX9_hum [.ref 37, .int (k)] D (fun r D' => r = some (.int (ox_hum P S Q F T k).1) ∧ mA D' (ox_hum P S Q F T k).2 ∧ bf_fr 37 57 D D') := by
  refine bf_Ce_of 9 hd mo_X9_hum (Nat.le_of_ble_eq_true rfl) (fun e he J r => ?_)
  show J 0 [some (.ref 37), some (.int (k))] [] (bf_MD D)
  obtain ⟨hv, vs, vr, hF⟩ := id va
  obtain ⟨hm, ms, mr, c5, c6⟩ := id ma
  have hn4 := hv.1
  have hx4 := pX_le hv
  have hx0 := pX_pos P
  refine bf_aload_n r.1 dX9_hum_0 rfl ?_
  refine bf_iload_n r.1 dX9_hum_1 rfl ?_
  refine cl_v r (y2 := mX9_noPlace) dX9_hum_2 li_X9_160 mv_X9_noPlace rfl (by decide) [.int (k)] [] rfl (Nat.le_of_ble_eq_true rfl) rfl (c_X9_noPlace (by omega) hv hm _) ?_
  show J 5 [some (.ref 37), some (.int (k))] [.int (if ¬ (0 ≤ k ∧ k < nI (pN P)) then 1 else 0)] (bf_MD D)
  refine nb_eq r (tgt := 10) dX9_hum_5 (by decide) (fun c346 => ?_) (fun c346 => ?_)
  · obtain ⟨k0, hk0, rfl⟩ := rg_in (by omega) (Decidable.not_not.mp c346)
    have wk := rg_s hk0 (by omega)
    refine bf_aload_n r.1 dX9_hum_10 rfl ?_
    refine bf_aload_n r.1 dX9_hum_11 rfl ?_
    refine ig_ref r (b := 38) dX9_hum_12 fl_X9_7 rfl (by decide) rfl ?_
    refine bf_iload_n r.1 dX9_hum_15 rfl ?_
    refine ia_ld r (n := 4) (v := nI (pK P k0)) dX9_hum_16 rfl (by decide) (by omega) (mP_k (P := P) hm hk0) ?_
    refine bf_iconst r.1 (v := nI 2) dX9_hum_17 rfl ?_
    refine nc_ne r (tgt := 25) dX9_hum_18 (by decide) (by have := (hv.2.2.2.2 k0 hk0).1; omega) (by decide) (fun c347 => ?_) (fun c347 => ?_)
    · refine bf_iconst r.1 (v := nI 4) dX9_hum_25 rfl ?_
      refine ce_v r (y2 := mX9_traced) dX9_hum_26 li_X9_272 mv_X9_traced rfl (by decide) [.int (nI 4)] [] rfl (Nat.le_of_ble_eq_true rfl) rfl (e_X9_traced (by omega) hn4 ma 4) (fun res D348 hq348 => ?_)
      obtain ⟨rfl, hma348, hf348⟩ := hq348
      show J 29 [some (.ref 37), some (.int (nI k0))] [] (bf_MD D348)
      replace ma := hma348
      obtain ⟨hm, ms, mr, c5, c6⟩ := id ma
      refine bf_aload_n r.1 dX9_hum_29 rfl ?_
      refine ig_ref r (b := 38) dX9_hum_30 fl_X9_7 rfl (by decide) rfl ?_
      refine bf_iload_n r.1 dX9_hum_33 rfl ?_
      refine ia_ld r (n := 4) (v := nI (pK P k0)) dX9_hum_34 rfl (by decide) (by omega) (mP_k (P := P) hm hk0) ?_
      refine bf_iconst r.1 (v := nI 2) dX9_hum_35 rfl ?_
      refine nc_ne r (tgt := 44) dX9_hum_36 (by decide) (by have := (hv.2.2.2.2 k0 hk0).1; omega) (by decide) (fun c349 => ?_) (fun c349 => ?_)
      · refine bf_iload_n r.1 dX9_hum_44 rfl ?_
        have ho : ox_hum P S Q F T (nI k0) = (nI k0, (P, S, Q, F, lvT T 4)) := by simp only [ox_hum, wk, if_neg c347, on_n, on_s]
        exact re_i r dX9_hum_45 rfl rfl ⟨by rw [ho], by rw [ho]; exact ma, (fr_t fr_0 hf348)⟩
      · exact absurd c349 c347
    · refine bf_iconst r.1 (v := nI 5) dX9_hum_21 rfl ?_
      refine bf_goto r.1 (tgt := 26) dX9_hum_22 (by decide) ?_
      refine ce_v r (y2 := mX9_traced) dX9_hum_26 li_X9_272 mv_X9_traced rfl (by decide) [.int (nI 5)] [] rfl (Nat.le_of_ble_eq_true rfl) rfl (e_X9_traced (by omega) hn4 ma 5) (fun res D350 hq350 => ?_)
      obtain ⟨rfl, hma350, hf350⟩ := hq350
      show J 29 [some (.ref 37), some (.int (nI k0))] [] (bf_MD D350)
      replace ma := hma350
      obtain ⟨hm, ms, mr, c5, c6⟩ := id ma
      refine bf_aload_n r.1 dX9_hum_29 rfl ?_
      refine ig_ref r (b := 38) dX9_hum_30 fl_X9_7 rfl (by decide) rfl ?_
      refine bf_iload_n r.1 dX9_hum_33 rfl ?_
      refine ia_ld r (n := 4) (v := nI (pK P k0)) dX9_hum_34 rfl (by decide) (by omega) (mP_k (P := P) hm hk0) ?_
      refine bf_iconst r.1 (v := nI 2) dX9_hum_35 rfl ?_
      refine nc_ne r (tgt := 44) dX9_hum_36 (by decide) (by have := (hv.2.2.2.2 k0 hk0).1; omega) (by decide) (fun c351 => ?_) (fun c351 => ?_)
      · exact absurd c347 c351
      · refine bf_bipush r.1 (v := nI 60) dX9_hum_39 rfl ?_
        refine bf_goto r.1 (tgt := 45) dX9_hum_41 (by decide) ?_
        have ho : ox_hum P S Q F T (nI k0) = (nI 60, (P, S, Q, F, lvT T 5)) := by simp only [ox_hum, wk, if_pos c347, on_n, on_s]
        exact re_i r dX9_hum_45 rfl rfl ⟨by rw [ho], by rw [ho]; exact ma, (fr_t fr_0 hf350)⟩
  · have wk := rg_n c346
    refine bf_iconst r.1 (v := -1) dX9_hum_8 rfl ?_
    have ho : ox_hum P S Q F T k = (-1, (P, S, Q, F, T)) := by simp only [ox_hum, wk, on_n, on_s]
    exact re_i r dX9_hum_9 rfl rfl ⟨by rw [ho], by rw [ho]; exact ma, fr_0⟩
theorem e_X9_as {d : Nat} (hd : 10 ≤ d) {D : bf_D} {P : bf_Pn} {S : bf_Sh} {Q : bf_Rd} {F : Nat} {T : Int32} (va : vA (P, S, Q, F, T)) (ma : mA D (P, S, Q, F, T)) (k q : Int32) : bf_Ce d mX9_as [.ref 37, .int (k), .int (q)] D (fun r D' => r = some (.int (ox_as P S Q F T k q).1) ∧ mA D' (ox_as P S Q F T k q).2 ∧ bf_fr 37 57 D D') := by
  refine bf_Ce_of 9 hd mo_X9_as (Nat.le_of_ble_eq_true rfl) (fun e he J r => ?_)
  show J 0 [some (.ref 37), some (.int (k)), some (.int (q))] [] (bf_MD D)
  obtain ⟨hv, vs, vr, hF⟩ := id va
  obtain ⟨hm, ms, mr, c5, c6⟩ := id ma
  have hn4 := hv.1
  have hx4 := pX_le hv
  have hx0 := pX_pos P
  refine bf_aload_n r.1 dX9_as_0 rfl ?_
  refine bf_iload_n r.1 dX9_as_1 rfl ?_
  refine cl_v r (y2 := mX9_noPlace) dX9_as_2 li_X9_160 mv_X9_noPlace rfl (by decide) [.int (k)] [] rfl (Nat.le_of_ble_eq_true rfl) rfl (c_X9_noPlace (by omega) hv hm _) ?_
  show J 5 [some (.ref 37), some (.int (k)), some (.int (q))] [.int (if ¬ (0 ≤ k ∧ k < nI (pN P)) then 1 else 0)] (bf_MD D)
  refine nb_eq r (tgt := 14) dX9_as_5 (by decide) (fun c352 => ?_) (fun c352 => ?_)
  · obtain ⟨k0, hk0, rfl⟩ := rg_in (by omega) (Decidable.not_not.mp c352)
    have wk := rg_s hk0 (by omega)
    refine bf_iload_n r.1 dX9_as_14 rfl ?_
    refine bf_i2l r.1 dX9_as_15 ?_
    refine bf_lconst r.1 (v := lN 0) dX9_as_16 rfl ?_
    refine bf_ldc2 r.1 dX9_as_17 lc_X9_120 ?_
    refine eq_l (v := lN 2) rfl ?_
    refine cl_s r (y2 := mX9_in) dX9_as_20 li_X9_80 mv_X9_in [.long (q.toInt64), .long (lN 0), .long (lN 2)] [] rfl (Nat.le_of_ble_eq_true rfl) rfl (c_X9_in32 (by omega) D q (h := 2) (m := 3) rfl (by decide)) ?_
    show J 23 [some (.ref 37), some (.int (nI k0)), some (.int (q))] [.int (if 0 ≤ q ∧ q < nI 3 then 1 else 0)] (bf_MD D)
    refine nb_ne r (tgt := 33) dX9_as_23 (by decide) (fun c353 => ?_) (fun c353 => ?_)
    · obtain ⟨q0, hq0, rfl⟩ := rg_in (by decide) c353
      have wq := rg_s hq0 (by decide)
      refine bf_aload_n r.1 dX9_as_33 rfl ?_
      refine ig_ref r (b := 38) dX9_as_34 fl_X9_7 rfl (by decide) rfl ?_
      refine bf_iload_n r.1 dX9_as_37 rfl ?_
      refine ia_ld r (n := 4) (v := nI (pK P k0)) dX9_as_38 rfl (by decide) (by omega) (mP_k (P := P) hm hk0) ?_
      refine bf_iload_n r.1 dX9_as_39 rfl ?_
      refine nc_lt r (tgt := 51) dX9_as_40 (by decide) (by have := (hv.2.2.2.2 k0 hk0).1; omega) (by omega) (fun c354 => ?_) (fun c354 => ?_)
      · refine bf_aload_n r.1 dX9_as_51 rfl ?_
        refine bf_iconst r.1 (v := nI 2) dX9_as_52 rfl ?_
        refine cl_v r (y2 := mX9_failed) dX9_as_53 li_X9_105 mv_X9_failed rfl (by decide) [.int (nI 2)] [] rfl (Nat.le_of_ble_eq_true rfl) rfl (c_X9_failed (by omega) D _) ?_
        show J 56 [some (.ref 37), some (.int (nI k0)), some (.int (nI q0))] [.int (-10 - nI 2)] (bf_MD (bf_u D 37 0 (nI 2)))
        have ho : ox_as P S Q F T (nI k0) (nI q0) = (-10 - nI 2, (P, S, Q, 2, T)) := by simp only [ox_as, wk, wq, if_pos c354, on_n, on_s]
        exact re_i r dX9_as_56 rfl rfl ⟨by rw [ho], by rw [ho]; exact (mA_0 hn4 2 ma), (fr_u fr_0 (by decide) (by decide))⟩
      · refine bf_aload_n r.1 dX9_as_43 rfl ?_
        refine bf_iconst r.1 (v := nI 1) dX9_as_44 rfl ?_
        refine cl_v r (y2 := mX9_refused) dX9_as_45 li_X9_117 mv_X9_refused rfl (by decide) [.int (nI 1)] [] rfl (Nat.le_of_ble_eq_true rfl) rfl (c_X9_refused (by omega) D _) ?_
        show J 48 [some (.ref 37), some (.int (nI k0)), some (.int (nI q0))] [.int (nI 1)] (bf_MD (bf_u D 37 0 (nI 0)))
        refine bf_goto r.1 (tgt := 56) dX9_as_48 (by decide) ?_
        have ho : ox_as P S Q F T (nI k0) (nI q0) = (nI 1, (P, S, Q, 0, T)) := by simp only [ox_as, wk, wq, if_neg (Nat.not_lt.mpr c354), on_n, on_s]
        exact re_i r dX9_as_56 rfl rfl ⟨by rw [ho], by rw [ho]; exact (mA_0 hn4 0 ma), (fr_u fr_0 (by decide) (by decide))⟩
    · have wq := rg_n c353
      refine bf_aload_n r.1 dX9_as_26 rfl ?_
      refine bf_bipush r.1 (v := -2) dX9_as_27 rfl ?_
      refine cl_v r (y2 := mX9_refused) dX9_as_29 li_X9_117 mv_X9_refused rfl (by decide) [.int (-2)] [] rfl (Nat.le_of_ble_eq_true rfl) rfl (c_X9_refused (by omega) D _) ?_
      show J 32 [some (.ref 37), some (.int (nI k0)), some (.int (q))] [.int (-2)] (bf_MD (bf_u D 37 0 (nI 0)))
      have ho : ox_as P S Q F T (nI k0) q = (-2, (P, S, Q, 0, T)) := by simp only [ox_as, wk, wq, on_n, on_s]
      exact re_i r dX9_as_32 rfl rfl ⟨by rw [ho], by rw [ho]; exact (mA_0 hn4 0 ma), (fr_u fr_0 (by decide) (by decide))⟩
  · have wk := rg_n c352
    refine bf_aload_n r.1 dX9_as_8 rfl ?_
    refine bf_iconst r.1 (v := -1) dX9_as_9 rfl ?_
    refine cl_v r (y2 := mX9_refused) dX9_as_10 li_X9_117 mv_X9_refused rfl (by decide) [.int (-1)] [] rfl (Nat.le_of_ble_eq_true rfl) rfl (c_X9_refused (by omega) D _) ?_
    show J 13 [some (.ref 37), some (.int (k)), some (.int (q))] [.int (-1)] (bf_MD (bf_u D 37 0 (nI 0)))
    have ho : ox_as P S Q F T k q = (-1, (P, S, Q, 0, T)) := by simp only [ox_as, wk, on_n, on_s]
    exact re_i r dX9_as_13 rfl rfl ⟨by rw [ho], by rw [ho]; exact (mA_0 hn4 0 ma), (fr_u fr_0 (by decide) (by decide))⟩
