/-! the reference: panel -/
section
variable {D D' : bf_D} {P : bf_Pn} {S : bf_Sh} {Q : bf_Rd} {F : Nat} {T : Int32}
theorem mA_L (hn : pN P ≤ 4) (h : mA D (P, S, Q, F, T)) (e : frL D D') : mA D' (P, S, Q, F, T) := by
  obtain ⟨h1, h2, h3, h4, h5⟩ := h
  exact ⟨mP_e h1 hn (fun a j q => e a j (by omega) (by omega) (by omega) (by omega)), mS_e h2 (fun a j q => e a j (by omega) (by omega) (by omega) (by omega)), mR_e h3 (fun a j q => e a j (by omega) (by omega) (by omega) (by omega)), (e _ _ (by omega) (by omega) (by omega) (by omega)).trans h4, (e _ _ (by omega) (by omega) (by omega) (by omega)).trans h5⟩
/-- a panel is laid -/
theorem mA_tx {c : Nat → Int32} {n : Nat} (h : mA D (P, S, Q, F, T)) (hm : (n - 3) / 8 ≤ 4) (o : ∀ a q, (53 ≤ a ∧ a ≤ 55 ∨ a = 37 ∧ q = 27) → D' a q = D a q) (h0 : D' 37 0 = nI 0) (h1 : D' 37 1 = nI ((n - 3) / 8)) (h2 : D' 37 2 = nI (tLf c)) (h3 : D' 37 3 = nI 0) (h19 : D' 37 19 = nI 0) (hk : ∀ j, j < (n - 3) / 8 → D' 38 j = nI (tK c j) ∧ D' 39 j = nI (tD c j) ∧ D' 40 j = nI (tT c j)) (hw : ∀ b, b < 28 → D' 41 b = nI 0) : mA D' (pTx c n, S, (0, Q.2), 0, T) := by
  obtain ⟨g1, g2, g3, g4, g5⟩ := h
  refine ⟨⟨⟨h1, h2, h3⟩, fun k hk' => ?_⟩, mS_e g2 (fun a j q => o a j (by omega)), ⟨h19, fun i hi => absurd hi (Nat.not_lt_zero _)⟩, h0, (o _ _ (by omega)).trans g5⟩
  have hk2 : k < (n - 3) / 8 := hk'
  exact ⟨(hk k hk2).1, (hk k hk2).2.1, (hk k hk2).2.2, fun b hb => hw _ (by omega)⟩
end
theorem e_X9_panel {d : Nat} (hd : 10 ≤ d) {D : bf_D} {P : bf_Pn} {S : bf_Sh} {Q : bf_Rd} {F : Nat} {T : Int32} (va : vA (P, S, Q, F, T)) (ma : mA D (P, S, Q, F, T)) (k l i n : Int32) : bf_Ce d mX9_panel [.ref 37, .int (k), .int (l), .int (i), .int (n)] D (fun r D' => r = some (.int (ox_panel P S Q F T k l i n).1) ∧ mA D' (ox_panel P S Q F T k l i n).2 ∧ bf_fr 37 57 D D') := by
  refine bf_Ce_of 9 hd mo_X9_panel (Nat.le_of_ble_eq_true rfl) (fun e he J r => ?_)
  show J 0 [some (.ref 37), some (.int (k)), some (.int (l)), some (.int (i)), some (.int (n)), none, none, none] [] (bf_MD D)
  obtain ⟨hv, vs, vr, hF⟩ := id va
  obtain ⟨hm, ms, mr, c5, c6⟩ := id ma
  have hn4 := hv.1
  have hx4 := pX_le hv
  have hx0 := pX_pos P
  refine bf_iload_n r.1 dX9_panel_0 rfl ?_
  refine cl_s r (y2 := mX9_noSheet) dX9_panel_1 li_X9_113 mv_X9_noSheet [.int (k)] [] rfl (Nat.le_of_ble_eq_true rfl) rfl (c_X9_noSheet (by omega) D _) ?_
  show J 4 [some (.ref 37), some (.int (k)), some (.int (l)), some (.int (i)), some (.int (n)), none, none, none] [.int (if ¬ (0 ≤ k ∧ k < nI 4) then 1 else 0)] (bf_MD D)
  refine nb_eq r (tgt := 13) dX9_panel_4 (by decide) (fun c709 => ?_) (fun c709 => ?_)
  · obtain ⟨k0, hk0, rfl⟩ := rg_in (by decide) (Decidable.not_not.mp c709)
    have wk := rg_s hk0 (by decide)
    have z60k := (vs k0 hk0).2
    refine bf_iload_n r.1 dX9_panel_13 rfl ?_
    refine bf_i2l r.1 dX9_panel_14 ?_
    refine bf_lconst r.1 (v := lN 0) dX9_panel_15 rfl ?_
    refine bf_ldc2 r.1 dX9_panel_16 lc_X9_120 ?_
    refine eq_l (v := lN 2) rfl ?_
    refine cl_s r (y2 := mX9_in) dX9_panel_19 li_X9_80 mv_X9_in [.long (l.toInt64), .long (lN 0), .long (lN 2)] [] rfl (Nat.le_of_ble_eq_true rfl) rfl (c_X9_in32 (by omega) D l (h := 2) (m := 3) rfl (by decide)) ?_
    show J 22 [some (.ref 37), some (.int (nI k0)), some (.int (l)), some (.int (i)), some (.int (n)), none, none, none] [.int (if 0 ≤ l ∧ l < nI 3 then 1 else 0)] (bf_MD D)
    refine nb_ne r (tgt := 32) dX9_panel_22 (by decide) (fun c710 => ?_) (fun c710 => ?_)
    · obtain ⟨l0, hl0, rfl⟩ := rg_in (by decide) c710
      have wl := rg_s hl0 (by decide)
      refine bf_aload_n r.1 dX9_panel_32 rfl ?_
      refine bf_iload_n r.1 dX9_panel_33 rfl ?_
      refine bf_iload_n r.1 dX9_panel_34 rfl ?_
      refine bf_iload_n r.1 dX9_panel_35 rfl ?_
      refine bf_iload r.1 dX9_panel_36 rfl ?_
      refine bf_i2l r.1 dX9_panel_38 ?_
      refine cl_v r (y2 := mX9_cellsBarred) dX9_panel_39 li_X9_122 mv_X9_cellsBarred rfl (by decide) [.int (nI k0), .int (nI l0), .int (i), .long (n.toInt64)] [] rfl (Nat.le_of_ble_eq_true rfl) rfl (c_X9_cellsBarred (by omega) vs ms hk0 (nI l0) i n) ?_
      show J 42 [some (.ref 37), some (.int (nI k0)), some (.int (nI l0)), some (.int (i)), some (.int (n)), none, none, none] [.int (if bf_foc (sZ S k0) (sL S k0) (nI l0) i n = 0 then nI 0 else -10 - nI (bf_foc (sZ S k0) (sL S k0) (nI l0) i n))] (bf_MD (if bf_foc (sZ S k0) (sL S k0) (nI l0) i n = 0 then D else bf_u D 37 0 (nI (bf_foc (sZ S k0) (sL S k0) (nI l0) i n))))
      by_cases hfo : bf_foc (sZ S k0) (sL S k0) (nI l0) i n = 0
      · rw [if_pos hfo, if_pos hfo]
        show J 42 [some (.ref 37), some (.int (nI k0)), some (.int (nI l0)), some (.int (i)), some (.int (n)), none, none, none] [.int (nI 0)] (bf_MD D)
        obtain ⟨z, hz, _, q0, q1, q2⟩ := bf_foc_0 hfo
        have z60 := (vs k0 hk0).2 z hz
        obtain ⟨i0, hi31, rfl⟩ := nI_of (x := i) (Int32.not_lt.mpr ((bf_le0 i).mpr q0))
        have ti := nI_toInt hi31
        have ci := nI_clamp hi31
        obtain ⟨n0, hn31, rfl⟩ := nI_of (x := n) (Int32.not_lt.mpr ((bf_le0 n).mpr q1))
        have tn := nI_toInt hn31
        have cn := nI_clamp hn31
        have q3 : i0 + n0 ≤ z := by omega
        have hcc : ∀ t, t < n0 → D 55 (60 * k0 + i0 + t) = (cCl S k0 i0) t := fun t ht => (congrArg (D 55) (Nat.add_assoc (60 * k0) i0 t)).trans ((ms k0 hk0).2.2 z hz (i0 + t) (by omega))
        refine bf_istore r.1 (L2 := [some (.ref 37), some (.int (nI k0)), some (.int (nI l0)), some (.int (nI i0)), some (.int (nI n0)), some (.int (nI 0)), none, none]) dX9_panel_42 rfl ?_
        refine bf_iload r.1 dX9_panel_44 rfl ?_
        refine nz_ge r (tgt := 52) dX9_panel_46 (by decide) (by decide) (fun c711 => ?_) (fun c711 => ?_)
        · refine bf_aload_n r.1 dX9_panel_52 rfl ?_
          refine bf_bipush r.1 (v := nI 60) dX9_panel_53 rfl ?_
          refine bf_iload_n r.1 dX9_panel_55 rfl ?_
          refine na_mul r dX9_panel_56  ?_
          refine bf_iload_n r.1 dX9_panel_57 rfl ?_
          refine na_add r dX9_panel_58  ?_
          refine bf_iload r.1 dX9_panel_59 rfl ?_
          refine ce_v r (y2 := mX9_lifeRead) dX9_panel_61 li_X9_126 mv_X9_lifeRead rfl (by decide) [.int (nI (60 * k0 + i0)), .int (nI n0)] [] rfl (Nat.le_of_ble_eq_true rfl) rfl (e_X9_lifeRead (by omega) (c := (cCl S k0 i0)) (fr := 60 * k0 + i0) (n := n0) (by omega) (by omega) hcc) (fun res D712 hq712 => ?_)
          rcases hq712 with ⟨hfl712, ⟨htf712, rfl, h9712, hpl712⟩ | ⟨t712, htf712, rfl, h8712⟩⟩
          · show J 64 [some (.ref 37), some (.int (nI k0)), some (.int (nI l0)), some (.int (nI i0)), some (.int (nI n0)), some (.int (nI 0)), none, none] [.int (nI (tLf (cCl S k0 i0)))] (bf_MD D712)
            have hok := tOk_of htf712
            have hok2 := hok.2
            have htl := (tLf_ok hok).2
            refine bf_istore r.1 (L2 := [some (.ref 37), some (.int (nI k0)), some (.int (nI l0)), some (.int (nI i0)), some (.int (nI n0)), some (.int (nI 0)), some (.int (nI (tLf (cCl S k0 i0)))), none]) dX9_panel_64 rfl ?_
            refine bf_iload r.1 dX9_panel_66 rfl ?_
            refine nz_ge r (tgt := 83) dX9_panel_68 (by decide) (by omega) (fun c713 => ?_) (fun c713 => ?_)
            · refine bf_aload_n r.1 dX9_panel_83 rfl ?_
              refine bf_iload r.1 dX9_panel_84 rfl ?_
              refine ip_int r dX9_panel_86 fp_X9_129 rfl (by decide) rfl ?_
              refine bf_aload_n r.1 dX9_panel_89 rfl ?_
              refine bf_iconst r.1 (v := nI 0) dX9_panel_90 rfl ?_
              refine ip_int r dX9_panel_91 fp_X9_132 rfl (by decide) rfl ?_
              refine bf_aload_n r.1 dX9_panel_94 rfl ?_
              refine bf_aload_n r.1 dX9_panel_95 rfl ?_
              refine ig_int r (v := nI ((n0 - 3) / 8)) dX9_panel_96 fl_X9_95 rfl (by decide) rfl ((bf_un (by decide)).trans ((bf_un (by decide)).trans h9712)) ?_
              refine ip_int r dX9_panel_99 fp_X9_77 rfl (by decide) rfl ?_
              refine bf_iconst r.1 (v := nI 0) dX9_panel_102 rfl ?_
              refine bf_istore r.1 (L2 := [some (.ref 37), some (.int (nI k0)), some (.int (nI l0)), some (.int (nI i0)), some (.int (nI n0)), some (.int (nI 0)), some (.int (nI (tLf (cCl S k0 i0)))), some (.int (nI 0))]) dX9_panel_103 rfl ?_
              have lo : ∀ x : Nat, x ≤ (n0 - 3) / 8 → ∀ D4 : bf_D, (∀ a q, a ≠ 38 → a ≠ 39 → a ≠ 40 → D4 a q = (bf_u (bf_u (bf_u D712 37 2 (nI (tLf (cCl S k0 i0)))) 37 3 (nI 0)) 37 1 (nI ((n0 - 3) / 8))) a q) → (∀ b, b < x → D4 38 b = nI (tK (cCl S k0 i0) b) ∧ D4 39 b = nI (tD (cCl S k0 i0) b) ∧ D4 40 b = nI (tT (cCl S k0 i0) b)) → J 105 [some (.ref 37), some (.int (nI k0)), some (.int (nI l0)), some (.int (nI i0)), some (.int (nI n0)), some (.int (nI 0)), some (.int (nI (tLf (cCl S k0 i0)))), some (.int (nI x))] [] (bf_MD D4) := by
                refine bf_down (fun x hle ih => ?_)
                intro D4 hO hI
                refine bf_iload r.1 dX9_panel_105 rfl ?_
                refine bf_aload_n r.1 dX9_panel_107 rfl ?_
                refine ig_int r (v := nI ((n0 - 3) / 8)) dX9_panel_108 fl_X9_77 rfl (by decide) rfl ((hO _ _ (by decide) (by decide) (by decide)).trans bf_us) ?_
                refine nc_ge r (tgt := 162) dX9_panel_111 (by decide) (by omega) (by omega) (fun c714 => ?_) (fun c714 => ?_)
                · refine bf_iconst r.1 (v := nI 0) dX9_panel_162 rfl ?_
                  refine bf_istore r.1 (L2 := [some (.ref 37), some (.int (nI k0)), some (.int (nI l0)), some (.int (nI i0)), some (.int (nI n0)), some (.int (nI 0)), some (.int (nI (tLf (cCl S k0 i0)))), some (.int (nI 0))]) dX9_panel_163 rfl ?_
                  have lo2 : ∀ s : Nat, s ≤ 28 → ∀ D5 : bf_D, (∀ a q, a ≠ 41 → D5 a q = D4 a q) → (∀ b, b < s → D5 41 b = nI 0) → J 165 [some (.ref 37), some (.int (nI k0)), some (.int (nI l0)), some (.int (nI i0)), some (.int (nI n0)), some (.int (nI 0)), some (.int (nI (tLf (cCl S k0 i0)))), some (.int (nI s))] [] (bf_MD D5) := by
                    refine bf_down (fun s hle2 ih => ?_)
                    intro D5 hO5 hI5
                    refine bf_iload r.1 dX9_panel_165 rfl ?_
                    refine bf_bipush r.1 (v := nI 28) dX9_panel_167 rfl ?_
                    refine nc_ge r (tgt := 186) dX9_panel_169 (by decide) (by omega) (by decide) (fun c715 => ?_) (fun c715 => ?_)
                    · refine bf_aload_n r.1 dX9_panel_186 rfl ?_
                      refine bf_iconst r.1 (v := nI 0) dX9_panel_187 rfl ?_
                      refine ip_int r dX9_panel_188 fp_X9_135 rfl (by decide) rfl ?_
                      refine bf_aload_n r.1 dX9_panel_191 rfl ?_
                      refine bf_aload_n r.1 dX9_panel_192 rfl ?_
                      refine ig_int r (v := nI ((n0 - 3) / 8)) dX9_panel_193 fl_X9_77 rfl (by decide) rfl ((bf_un (by decide)).trans ((hO5 _ _ (by decide)).trans ((hO _ _ (by decide) (by decide) (by decide)).trans bf_us))) ?_
                      refine cl_v r (y2 := mX9_refused) dX9_panel_196 li_X9_117 mv_X9_refused rfl (by decide) [.int (nI ((n0 - 3) / 8))] [] rfl (Nat.le_of_ble_eq_true rfl) rfl (c_X9_refused (by omega) (bf_u D5 37 19 (nI 0)) _) ?_
                      show J 199 [some (.ref 37), some (.int (nI k0)), some (.int (nI l0)), some (.int (nI i0)), some (.int (nI n0)), some (.int (nI 0)), some (.int (nI (tLf (cCl S k0 i0)))), some (.int (nI s))] [.int (nI ((n0 - 3) / 8))] (bf_MD (bf_u (bf_u D5 37 19 (nI 0)) 37 0 (nI 0)))
                      have hma := mA_tx (c := (cCl S k0 i0)) (n := n0) ma (by omega) (fun a q h => ((bf_un (by omega)).trans ((bf_un (by omega)).trans ((hO5 a q (by omega)).trans ((hO a q (by omega) (by omega) (by omega)).trans ((bf_un (by omega)).trans ((bf_un (by omega)).trans ((bf_un (by omega)).trans (hfl712 a q (by omega) (by omega) (by omega) (by omega)))))))))) bf_us ((bf_un (by decide)).trans ((bf_un (by decide)).trans ((hO5 _ _ (by decide)).trans ((hO _ _ (by decide) (by decide) (by decide)).trans bf_us)))) ((bf_un (by decide)).trans ((bf_un (by decide)).trans ((hO5 _ _ (by decide)).trans ((hO _ _ (by decide) (by decide) (by decide)).trans ((bf_un (by decide)).trans ((bf_un (by decide)).trans bf_us)))))) ((bf_un (by decide)).trans ((bf_un (by decide)).trans ((hO5 _ _ (by decide)).trans ((hO _ _ (by decide) (by decide) (by decide)).trans ((bf_un (by decide)).trans bf_us))))) ((bf_un (by decide)).trans bf_us) (fun j hj => ⟨(bf_un (Or.inl (by decide))).trans ((bf_un (Or.inl (by decide))).trans ((hO5 _ _ (by decide)).trans (hI j (by omega)).1)), (bf_un (Or.inl (by decide))).trans ((bf_un (Or.inl (by decide))).trans ((hO5 _ _ (by decide)).trans (hI j (by omega)).2.1)), (bf_un (Or.inl (by decide))).trans ((bf_un (Or.inl (by decide))).trans ((hO5 _ _ (by decide)).trans (hI j (by omega)).2.2))⟩) (fun b hb => (bf_un (Or.inl (by decide))).trans ((bf_un (Or.inl (by decide))).trans (hI5 b (by omega))))
                      have ho : ox_panel P S Q F T (nI k0) (nI l0) (nI i0) (nI n0) = (nI (pN (pTx (cCl S k0 i0) n0)), (pTx (cCl S k0 i0) n0, S, (0, Q.2), 0, T)) := by simp only [ox_panel, wk, wl, if_pos hfo, ci, cn, if_pos htf712, on_n, on_s]
                      exact re_i r dX9_panel_199 rfl rfl ⟨by rw [ho]; rfl, by rw [ho]; exact hma, (fun a q h => ((bf_un (by omega)).trans ((bf_un (by omega)).trans ((hO5 a q (by omega)).trans ((hO a q (by omega) (by omega) (by omega)).trans ((bf_un (by omega)).trans ((bf_un (by omega)).trans ((bf_un (by omega)).trans (hfl712 a q (by omega) (by omega) (by omega) (by omega))))))))))⟩
                    · refine bf_aload_n r.1 dX9_panel_172 rfl ?_
                      refine ig_ref r (b := 41) dX9_panel_173 fl_X9_19 rfl (by decide) rfl ?_
                      refine bf_iload r.1 dX9_panel_176 rfl ?_
                      refine bf_iconst r.1 (v := nI 0) dX9_panel_178 rfl ?_
                      refine ia_st r (n := 28) dX9_panel_179 rfl (by decide) (by omega) ?_
                      refine na_inc r (v := s + 1) (L2 := [some (.ref 37), some (.int (nI k0)), some (.int (nI l0)), some (.int (nI i0)), some (.int (nI n0)), some (.int (nI 0)), some (.int (nI (tLf (cCl S k0 i0)))), some (.int (nI (s + 1)))]) dX9_panel_180 rfl (nI_add _ 1) rfl ?_
                      refine bf_goto r.1 (tgt := 165) dX9_panel_183 (by decide) ?_
                      refine ih (by omega) _ (fun a q h => (bf_un (Or.inl h)).trans (hO5 a q h)) (fun b hb => ?_)
                      by_cases eb : b = s
                      · subst eb; exact bf_us
                      · rw [bf_un (by omega)]; exact hI5 b (by omega)
                  exact lo2 0 (by omega) D4 (fun _ _ _ => rfl) (fun b hb => absurd hb (Nat.not_lt_zero _))
                · refine bf_aload_n r.1 dX9_panel_114 rfl ?_
                  refine ig_ref r (b := 38) dX9_panel_115 fl_X9_7 rfl (by decide) rfl ?_
                  refine bf_iload r.1 dX9_panel_118 rfl ?_
                  refine bf_aload_n r.1 dX9_panel_120 rfl ?_
                  refine ig_ref r (b := 42) dX9_panel_121 fl_X9_22 rfl (by decide) rfl ?_
                  refine bf_iload r.1 dX9_panel_124 rfl ?_
                  refine ia_ld r (n := 4) (v := nI (tK (cCl S k0 i0) x)) dX9_panel_126 rfl (by decide) (by omega) ((hO _ _ (by decide) (by decide) (by decide)).trans ((bf_un (by omega)).trans ((bf_un (by omega)).trans ((bf_un (by omega)).trans (hpl712 x (by omega)).1)))) ?_
                  refine ia_st r (n := 4) dX9_panel_127 rfl (by decide) (by omega) ?_
                  refine bf_aload_n r.1 dX9_panel_128 rfl ?_
                  refine ig_ref r (b := 39) dX9_panel_129 fl_X9_13 rfl (by decide) rfl ?_
                  refine bf_iload r.1 dX9_panel_132 rfl ?_
                  refine bf_aload_n r.1 dX9_panel_134 rfl ?_
                  refine ig_ref r (b := 43) dX9_panel_135 fl_X9_25 rfl (by decide) rfl ?_
                  refine bf_iload r.1 dX9_panel_138 rfl ?_
                  refine ia_ld r (n := 4) (v := nI (tD (cCl S k0 i0) x)) dX9_panel_140 rfl (by decide) (by omega) ((bf_un (Or.inl (by decide))).trans ((hO _ _ (by decide) (by decide) (by decide)).trans ((bf_un (by omega)).trans ((bf_un (by omega)).trans ((bf_un (by omega)).trans (hpl712 x (by omega)).2.1))))) ?_
                  refine ia_st r (n := 4) dX9_panel_141 rfl (by decide) (by omega) ?_
                  refine bf_aload_n r.1 dX9_panel_142 rfl ?_
                  refine ig_ref r (b := 40) dX9_panel_143 fl_X9_16 rfl (by decide) rfl ?_
                  refine bf_iload r.1 dX9_panel_146 rfl ?_
                  refine bf_aload_n r.1 dX9_panel_148 rfl ?_
                  refine ig_ref r (b := 44) dX9_panel_149 fl_X9_28 rfl (by decide) rfl ?_
                  refine bf_iload r.1 dX9_panel_152 rfl ?_
                  refine ia_ld r (n := 4) (v := nI (tT (cCl S k0 i0) x)) dX9_panel_154 rfl (by decide) (by omega) ((bf_un (Or.inl (by decide))).trans ((bf_un (Or.inl (by decide))).trans ((hO _ _ (by decide) (by decide) (by decide)).trans ((bf_un (by omega)).trans ((bf_un (by omega)).trans ((bf_un (by omega)).trans (hpl712 x (by omega)).2.2)))))) ?_
                  refine ia_st r (n := 4) dX9_panel_155 rfl (by decide) (by omega) ?_
                  refine na_inc r (v := x + 1) (L2 := [some (.ref 37), some (.int (nI k0)), some (.int (nI l0)), some (.int (nI i0)), some (.int (nI n0)), some (.int (nI 0)), some (.int (nI (tLf (cCl S k0 i0)))), some (.int (nI (x + 1)))]) dX9_panel_156 rfl (nI_add _ 1) rfl ?_
                  refine bf_goto r.1 (tgt := 105) dX9_panel_159 (by decide) ?_
                  refine ih (by omega) _ (fun a q h1 h2 h3 => (bf_un (Or.inl h3)).trans ((bf_un (Or.inl h2)).trans ((bf_un (Or.inl h1)).trans (hO a q h1 h2 h3)))) (fun b hb => ?_)
                  by_cases eb : b = x
                  · subst eb; exact ⟨(bf_un (Or.inl (by decide))).trans ((bf_un (Or.inl (by decide))).trans bf_us), (bf_un (Or.inl (by decide))).trans bf_us, bf_us⟩
                  · have h0 := hI b (by omega)
                    exact ⟨(bf_un (by omega)).trans ((bf_un (by omega)).trans ((bf_un (by omega)).trans h0.1)), (bf_un (by omega)).trans ((bf_un (by omega)).trans ((bf_un (by omega)).trans h0.2.1)), (bf_un (by omega)).trans ((bf_un (by omega)).trans ((bf_un (by omega)).trans h0.2.2))⟩
              exact lo 0 (Nat.zero_le _) _ (fun _ _ _ _ _ => rfl) (fun b hb => absurd hb (Nat.not_lt_zero _))
            · exact absurd c713 (Nat.not_lt_zero _)
          · show J 64 [some (.ref 37), some (.int (nI k0)), some (.int (nI l0)), some (.int (nI i0)), some (.int (nI n0)), some (.int (nI 0)), none, none] [.int (-9)] (bf_MD D712)
            have ht4 : ¬ (some t712 : Option Nat) = none := by simp
            replace ma := mA_L hn4 ma hfl712
            obtain ⟨hm, ms, mr, c5, c6⟩ := id ma
            refine bf_istore r.1 (L2 := [some (.ref 37), some (.int (nI k0)), some (.int (nI l0)), some (.int (nI i0)), some (.int (nI n0)), some (.int (nI 0)), some (.int (-9)), none]) dX9_panel_64 rfl ?_
            refine bf_iload r.1 dX9_panel_66 rfl ?_
            refine bf_if_ge r.1 (tgt := 83) dX9_panel_68 (by decide) (fun c716 => ?_) (fun c716 => ?_)
            · exact absurd c716 (by decide)
            · refine bf_aload_n r.1 dX9_panel_71 rfl ?_
              refine bf_bipush r.1 (v := -100) dX9_panel_72 rfl ?_
              refine bf_aload_n r.1 dX9_panel_74 rfl ?_
              refine ig_int r (v := nI t712) dX9_panel_75 fl_X9_84 rfl (by decide) rfl h8712 ?_
              refine bf_isub r.1 dX9_panel_78 ?_
              refine cl_v r (y2 := mX9_refused) dX9_panel_79 li_X9_117 mv_X9_refused rfl (by decide) [.int ((-100) - (nI t712))] [] rfl (Nat.le_of_ble_eq_true rfl) rfl (c_X9_refused (by omega) D712 _) ?_
              show J 82 [some (.ref 37), some (.int (nI k0)), some (.int (nI l0)), some (.int (nI i0)), some (.int (nI n0)), some (.int (nI 0)), some (.int (-9)), none] [.int ((-100) - (nI t712))] (bf_MD (bf_u D712 37 0 (nI 0)))
              have ho : ox_panel P S Q F T (nI k0) (nI l0) (nI i0) (nI n0) = (-100 - nI t712, (P, S, Q, 0, T)) := by simp only [ox_panel, wk, wl, if_pos hfo, ci, cn, if_neg ht4, htf712, bf_tfI, on_n, on_s]
              exact re_i r dX9_panel_82 rfl rfl ⟨by rw [ho], by rw [ho]; exact (mA_0 hn4 0 ma), (fr_u (fun a q h => hfl712 a q (by omega) (by omega) (by omega) (by omega)) (by decide) (by decide))⟩
        · exact absurd c711 (by decide)
      · rw [if_neg hfo, if_neg hfo]
        show J 42 [some (.ref 37), some (.int (nI k0)), some (.int (nI l0)), some (.int (i)), some (.int (n)), none, none, none] [.int (-10 - nI (bf_foc (sZ S k0) (sL S k0) (nI l0) i n))] (bf_MD (bf_u D 37 0 (nI (bf_foc (sZ S k0) (sL S k0) (nI l0) i n))))
        refine bf_istore r.1 (L2 := [some (.ref 37), some (.int (nI k0)), some (.int (nI l0)), some (.int (i)), some (.int (n)), some (.int (-10 - nI (bf_foc (sZ S k0) (sL S k0) (nI l0) i n))), none, none]) dX9_panel_42 rfl ?_
        refine bf_iload r.1 dX9_panel_44 rfl ?_
        refine bf_if_ge r.1 (tgt := 52) dX9_panel_46 (by decide) (fun c717 => ?_) (fun c717 => ?_)
        · exact absurd c717 (neg10 (bf_foc_le _ _ _ _ _))
        · refine bf_iload r.1 dX9_panel_49 rfl ?_
          have ho : ox_panel P S Q F T (nI k0) (nI l0) i n = (-10 - nI (bf_foc (sZ S k0) (sL S k0) (nI l0) i n), (P, S, Q, (bf_foc (sZ S k0) (sL S k0) (nI l0) i n), T)) := by simp only [ox_panel, wk, wl, if_neg hfo, on_n, on_s]
          exact re_i r dX9_panel_51 rfl rfl ⟨by rw [ho], by rw [ho]; exact (mA_0 hn4 (bf_foc (sZ S k0) (sL S k0) (nI l0) i n) ma), (fr_u fr_0 (by decide) (by decide))⟩
    · have wl := rg_n c710
      refine bf_aload_n r.1 dX9_panel_25 rfl ?_
      refine bf_bipush r.1 (v := -2) dX9_panel_26 rfl ?_
      refine cl_v r (y2 := mX9_refused) dX9_panel_28 li_X9_117 mv_X9_refused rfl (by decide) [.int (-2)] [] rfl (Nat.le_of_ble_eq_true rfl) rfl (c_X9_refused (by omega) D _) ?_
      show J 31 [some (.ref 37), some (.int (nI k0)), some (.int (l)), some (.int (i)), some (.int (n)), none, none, none] [.int (-2)] (bf_MD (bf_u D 37 0 (nI 0)))
      have ho : ox_panel P S Q F T (nI k0) l i n = (-2, (P, S, Q, 0, T)) := by simp only [ox_panel, wk, wl, on_n, on_s]
      exact re_i r dX9_panel_31 rfl rfl ⟨by rw [ho], by rw [ho]; exact (mA_0 hn4 0 ma), (fr_u fr_0 (by decide) (by decide))⟩
  · have wk := rg_n c709
    refine bf_aload_n r.1 dX9_panel_7 rfl ?_
    refine bf_iconst r.1 (v := -1) dX9_panel_8 rfl ?_
    refine cl_v r (y2 := mX9_refused) dX9_panel_9 li_X9_117 mv_X9_refused rfl (by decide) [.int (-1)] [] rfl (Nat.le_of_ble_eq_true rfl) rfl (c_X9_refused (by omega) D _) ?_
    show J 12 [some (.ref 37), some (.int (k)), some (.int (l)), some (.int (i)), some (.int (n)), none, none, none] [.int (-1)] (bf_MD (bf_u D 37 0 (nI 0)))
    have ho : ox_panel P S Q F T k l i n = (-1, (P, S, Q, 0, T)) := by simp only [ox_panel, wk, on_n, on_s]
    exact re_i r dX9_panel_12 rfl rfl ⟨by rw [ho], by rw [ho]; exact (mA_0 hn4 0 ma), (fr_u fr_0 (by decide) (by decide))⟩
