/-! the reference: the best order -/
def fr3 (D D' : bf_D) : Prop := ∀ a q, a ≠ 47 → a ≠ 48 → a ≠ 49 → D' a q = D a q
section
variable {D D1 : bf_D} {v : Int32} {x : Nat}
theorem f30 : fr3 D D := fun _ _ _ _ _ => rfl
theorem f3u {b : Nat} (hb : b = 47 ∨ b = 48 ∨ b = 49) (h : fr3 D D1) : fr3 D (bf_u D1 b x v) := fun a q h1 h2 h3 => (bf_un (Or.inl (by omega))).trans (h a q h1 h2 h3)
end
theorem sq_n {n f : Nat} {l : List Nat} (h : nxL n l = none) : sq n (f + 1) l = [l] := by simp only [sq]; rw [h]
theorem sq_s {n f : Nat} {l l' : List Nat} (h : nxL n l = some l') : sq n (f + 1) l = l :: sq n f l' := by simp only [sq]; rw [h]
theorem sqE_s {n f : Nat} {l l' : List Nat} (h : nxL n l = some l') : sqE n (f + 1) l = sqE n f l' := by simp only [sqE]; rw [h]
theorem nxL_n {n : Nat} {l : List Nat} (h : nxO n (fun x => l.getD x 0) = none) : nxL n l = none := by unfold nxL; rw [h]; rfl
theorem nxL_s {n : Nat} {l : List Nat} {o : Nat → Nat} (h : nxO n (fun x => l.getD x 0) = some o) : nxL n l = some ((List.range n).map o) := by unfold nxL; rw [h]; rfl
theorem rowC_o {D : bf_D} {n : Nat} {o : Nat → Nat} (h : ∀ x, x < n → D 48 x = nI (o x)) (h6 : ∀ x, x < n → o x < n) : rowC D 48 n ((List.range n).map o) := by
  refine ⟨by rw [List.length_map, List.length_range], fun x hx => ?_, fun x hx => by rw [range_getD hx]; exact h x hx⟩
  obtain ⟨y, hy, rfl⟩ := List.mem_map.mp hx
  exact h6 y (List.mem_range.mp hy)
theorem rowC_0 {D : bf_D} {n : Nat} (h : ∀ x, x < n → D 48 x = nI x) : rowC D 48 n (List.range n) := by
  refine ⟨List.length_range, fun x hx => List.mem_range.mp hx, fun x hx => ?_⟩
  rw [List.getD_eq_getElem?_getD, List.getElem?_range hx]
  exact h x hx
theorem oq_64 {wh : Int32} : (lN 10 ≤ wh.toInt64 ∧ wh.toInt64 ≤ lN 15) ↔ (nI 10 ≤ wh ∧ wh < nI 16) := by
  rw [Int64.le_iff_toInt_le, Int64.le_iff_toInt_le, Int32.le_iff_toInt_le, Int32.lt_iff_toInt_lt, bf_toL, lN_toInt (by decide), lN_toInt (by decide), nI_toInt (by decide), nI_toInt (by decide)]
  omega
theorem oq_y {wh : Int32} (h : lN 10 ≤ wh.toInt64 ∧ wh.toInt64 ≤ lN 15) : bf_oq wh = true := by
  have h2 := oq_64.mp h
  unfold bf_oq
  rw [decide_eq_true h2.1, decide_eq_true h2.2, Bool.and_self, Bool.or_true]
theorem oq_no {wh : Int32} (h0 : ¬ wh = 0) (h : ¬ (lN 10 ≤ wh.toInt64 ∧ wh.toInt64 ≤ lN 15)) : ¬ bf_oq wh = true := by
  intro q
  unfold bf_oq at q
  rw [decide_eq_false h0, Bool.false_or, Bool.and_eq_true] at q
  exact h (oq_64.mpr ⟨of_decide_eq_true q.1, of_decide_eq_true q.2⟩)
theorem oq_z {wh : Int32} (h0 : wh = 0) : bf_oq wh = true := by unfold bf_oq; rw [decide_eq_true h0]; rfl
theorem mA_3 {D D' : bf_D} {P : bf_Pn} {S : bf_Sh} {Q : bf_Rd} {F : Nat} {T : Int32} (hn : pN P ≤ 4) (h : mA D (P, S, Q, F, T)) (e : fr3 D D') : mA D' (P, S, Q, F, T) := by
  obtain ⟨h1, h2, h3, h4, h5⟩ := h
  exact ⟨mP_e h1 hn (fun a j q => e a j (by omega) (by omega) (by omega)), mS_e h2 (fun a j q => e a j (by omega) (by omega) (by omega)), mR_e h3 (fun a j q => e a j (by omega) (by omega) (by omega)), (e _ _ (by omega) (by omega) (by omega)).trans h4, (e _ _ (by omega) (by omega) (by omega)).trans h5⟩
theorem mP_3 {D D' : bf_D} {P : bf_Pn} (h : mP D P) (hn : pN P ≤ 4) (e : fr3 D D') : mP D' P := mP_e h hn (fun a j q => e a j (by omega) (by omega) (by omega))
theorem e_X9_orderBy {d : Nat} (hd : 8 ≤ d) {D : bf_D} {P : bf_Pn} (hv : vP P) (hm : mP D P) {c : Nat → Int32} {fr n : Nat} {wh : Int32} (hn : n ≤ 6) (hf : fr + n ≤ 240) (hcc : ∀ t, t < n → D 55 (fr + t) = nI (bf_cn c t) ∧ bf_cn c t < pX P) (hq : bf_oq wh = true) : bf_Ce d mX9_orderBy [.ref 37, .int (nI fr), .int (nI n), .int (wh)] D (fun r D' => r = some (.int (oAns (xS (gF P c) n) n wh)) ∧ fr3 D D') := by
  refine bf_Ce_of 7 hd mo_X9_orderBy (Nat.le_of_ble_eq_true rfl) (fun e he J r => ?_)
  show J 0 [some (.ref 37), some (.int (nI fr)), some (.int (nI n)), some (.int (wh)), none, none, none, none, none] [] (bf_MD D)
  have hn4 := hv.1
  have hx4 := pX_le hv
  have hx0 := pX_pos P
  have hg28 : ∀ a b, (gF P c) a b ≤ 28 := fun a b => pF_28 hv _ _
  refine bf_iconst r.1 (v := nI 0) dX9_orderBy_0 rfl ?_
  refine bf_istore r.1 (L2 := [some (.ref 37), some (.int (nI fr)), some (.int (nI n)), some (.int (wh)), some (.int (nI 0)), none, none, none, none]) dX9_orderBy_1 rfl ?_
  have loA : ∀ a : Nat, a ≤ n → ∀ D2 : bf_D, fr3 D D2 → (∀ x, x < a → D2 48 x = nI x) → (∀ x, x < a → ∀ y, y < n → D2 47 (6 * x + y) = nI ((gF P c) x y)) → J 3 [some (.ref 37), some (.int (nI fr)), some (.int (nI n)), some (.int (wh)), some (.int (nI a)), none, none, none, none] [] (bf_MD D2) := by
    refine bf_down (fun a hle ih => ?_)
    intro D2 hfr2 h48 h47
    refine bf_iload r.1 dX9_orderBy_3 rfl ?_
    refine bf_iload_n r.1 dX9_orderBy_5 rfl ?_
    refine nc_ge r (tgt := 74) dX9_orderBy_6 (by decide) (by omega) (by omega) (fun c739 => ?_) (fun c739 => ?_)
    · refine bf_bipush r.1 (v := -9) dX9_orderBy_74 rfl ?_
      refine bf_istore r.1 (L2 := [some (.ref 37), some (.int (nI fr)), some (.int (nI n)), some (.int (wh)), some (.int (-9)), none, none, none, none]) dX9_orderBy_76 rfl ?_
      refine bf_iconst r.1 (v := nI 1) dX9_orderBy_78 rfl ?_
      refine bf_istore r.1 (L2 := [some (.ref 37), some (.int (nI fr)), some (.int (nI n)), some (.int (wh)), some (.int (-9)), some (.int (nI 1)), none, none, none]) dX9_orderBy_79 rfl ?_
      have ea : a = n := by omega
      subst ea
      have hG := h47
      have loop : ∀ (f : Nat) (l : List Nat) (o : Option (Nat × List Nat)) (D4 : bf_D), sqE a f l = true → rowC D4 48 a l → fr3 D D4 → (∀ x, x < a → ∀ y, y < a → D4 47 (6 * x + y) = nI ((gF P c) x y)) → (∀ st, o = some st → st.1 ≤ 1000 ∧ ∀ x, x < a → D4 49 x = nI (st.2.getD x 0)) → (sq a f l).foldl (rF (gF P c)) o = some (xS (gF P c) a) → J 81 [some (.ref 37), some (.int (nI fr)), some (.int (nI a)), some (.int (wh)), some (.int (oFw o)), some (.int (nI 1)), none, none, none] [] (bf_MD D4) := by
        intro f
        induction f with
        | zero => intro l o D4 hE; exact absurd hE (by simp [sqE])
        | succ f ih =>
          intro l o D4 hE hrow hfr4 hG hb he
          have hcl : cst (gF P c) l ≤ 1000 := by rw [cst_n hrow.1]; have := bf_sm_le (f := fun x => (gF P c) (l.getD x 0) (l.getD (x + 1) 0)) (B := 28) (a - 1) (fun x _ => hg28 _ _); omega
          refine bf_iload r.1 dX9_orderBy_81 rfl ?_
          refine nz_eq r (tgt := 180) dX9_orderBy_83 (by decide) (by decide) (fun c740 => ?_) (fun c740 => ?_)
          · exact absurd c740 (by decide)
          · by_cases ho0 : o = none
            · subst ho0
              show J 86 [some (.ref 37), some (.int (nI fr)), some (.int (nI a)), some (.int (wh)), some (.int (-9)), some (.int (nI 1)), none, none, none] [] (bf_MD D4)
              refine bf_aload_n r.1 dX9_orderBy_86 rfl ?_
              refine bf_iload_n r.1 dX9_orderBy_87 rfl ?_
              refine cl_v r (y2 := mX9_orderFlips) dX9_orderBy_88 li_X9_238 mv_X9_orderFlips rfl (by decide) [.int (nI a)] [] rfl (Nat.le_of_ble_eq_true rfl) rfl (c_X9_orderFlips (by omega) hn (o := fun x => l.getD x 0) hrow.2.2 (fun x hx => hrow.2.1 _ (bf_getD_mem (by rw [hrow.1]; exact hx))) (g := (gF P c)) hG) ?_
              show J 91 [some (.ref 37), some (.int (nI fr)), some (.int (nI a)), some (.int (wh)), some (.int (-9)), some (.int (nI 1)), none, none, none] [.int (nI (bf_sm (fun x => gF P c (l.getD x 0) (l.getD (x + 1) 0)) (a - 1)))] (bf_MD D4)
              refine eq_i (v := nI (cst (gF P c) l)) (congrArg nI (cst_n hrow.1).symm) ?_
              refine bf_istore r.1 (L2 := [some (.ref 37), some (.int (nI fr)), some (.int (nI a)), some (.int (wh)), some (.int (-9)), some (.int (nI 1)), some (.int (nI (cst (gF P c) l))), none, none]) dX9_orderBy_91 rfl ?_
              refine bf_iload r.1 dX9_orderBy_93 rfl ?_
              refine bf_if_lt r.1 (tgt := 105) dX9_orderBy_95 (by decide) (fun c741 => ?_) (fun c741 => ?_)
              · refine bf_iconst r.1 (v := nI 1) dX9_orderBy_105 rfl ?_
                refine bf_goto r.1 (tgt := 110) dX9_orderBy_106 (by decide) ?_
                refine bf_istore r.1 (L2 := [some (.ref 37), some (.int (nI fr)), some (.int (nI a)), some (.int (wh)), some (.int (-9)), some (.int (nI 1)), some (.int (nI (cst (gF P c) l))), some (.int (nI 1)), none]) dX9_orderBy_110 rfl ?_
                refine bf_iconst r.1 (v := nI 0) dX9_orderBy_112 rfl ?_
                refine bf_istore r.1 (L2 := [some (.ref 37), some (.int (nI fr)), some (.int (nI a)), some (.int (wh)), some (.int (-9)), some (.int (nI 1)), some (.int (nI (cst (gF P c) l))), some (.int (nI 1)), some (.int (nI 0))]) dX9_orderBy_113 rfl ?_
                have hr : rF (gF P c) none l = some (cst (gF P c) l, l) := rfl
                have lox : ∀ x : Nat, x ≤ a → ∀ D5 : bf_D, (∀ b q, b ≠ 49 → D5 b q = D4 b q) → (∀ y, y < x → D5 49 y = nI (l.getD y 0)) → (∀ y, x ≤ y → D5 49 y = D4 49 y) → J 115 [some (.ref 37), some (.int (nI fr)), some (.int (nI a)), some (.int (wh)), some (.int (-9)), some (.int (nI 1)), some (.int (nI (cst (gF P c) l))), some (.int (nI 1)), some (.int (nI x))] [] (bf_MD D5) := by
                  refine bf_down (fun x hle3 ihx => ?_)
                  intro D5 h5 h9 h9b
                  refine bf_iload r.1 dX9_orderBy_115 rfl ?_
                  refine bf_iload_n r.1 dX9_orderBy_117 rfl ?_
                  refine nc_ge r (tgt := 156) dX9_orderBy_118 (by decide) (by omega) (by omega) (fun c742 => ?_) (fun c742 => ?_)
                  · have hb9 : ∀ y, y < a → D5 49 y = nI (l.getD y 0) := fun y hy => h9 y (by omega)
                    have hfr5 : fr3 D D5 := fun b q q1 q2 q3 => (h5 b q q3).trans (hfr4 b q q1 q2 q3)
                    refine bf_iload r.1 dX9_orderBy_156 rfl ?_
                    refine nz_eq r (tgt := 166) dX9_orderBy_158 (by decide) (by decide) (fun c743 => ?_) (fun c743 => ?_)
                    · exact absurd c743 (by decide)
                    · refine bf_iload r.1 dX9_orderBy_161 rfl ?_
                      refine bf_goto r.1 (tgt := 168) dX9_orderBy_163 (by decide) ?_
                      refine bf_istore r.1 (L2 := [some (.ref 37), some (.int (nI fr)), some (.int (nI a)), some (.int (wh)), some (.int (nI (cst (gF P c) l))), some (.int (nI 1)), some (.int (nI (cst (gF P c) l))), some (.int (nI 1)), some (.int (nI x))]) dX9_orderBy_168 rfl ?_
                      refine bf_aload_n r.1 dX9_orderBy_170 rfl ?_
                      refine bf_iload_n r.1 dX9_orderBy_171 rfl ?_
                      refine ce_v r (y2 := mX9_nextOrder) dX9_orderBy_172 li_X9_241 mv_X9_nextOrder rfl (by decide) [.int (nI a)] [] rfl (Nat.le_of_ble_eq_true rfl) rfl (e_X9_nextOrder (by omega) hn (o := fun x => l.getD x 0) (fun x hx => (h5 48 x (by decide)).trans (hrow.2.2 x hx)) (fun x hx => hrow.2.1 _ (bf_getD_mem (by rw [hrow.1]; exact hx)))) (fun res D744 hq744 => ?_)
                      rcases hq744 with ⟨hfO744, ⟨rfl, hx744⟩ | ⟨rfl, o744, hx744, hc744, h6744⟩⟩
                      · show J 175 [some (.ref 37), some (.int (nI fr)), some (.int (nI a)), some (.int (wh)), some (.int (nI (cst (gF P c) l))), some (.int (nI 1)), some (.int (nI (cst (gF P c) l))), some (.int (nI 1)), some (.int (nI x))] [.int (nI 0)] (bf_MD D744)
                        have hX : (cst (gF P c) l, l) = xS (gF P c) a := by rw [sq_n (nxL_n hx744), List.foldl_cons, List.foldl_nil, hr] at he; exact Option.some.inj he
                        refine bf_istore r.1 (L2 := [some (.ref 37), some (.int (nI fr)), some (.int (nI a)), some (.int (wh)), some (.int (nI (cst (gF P c) l))), some (.int (nI 0)), some (.int (nI (cst (gF P c) l))), some (.int (nI 1)), some (.int (nI x))]) dX9_orderBy_175 rfl ?_
                        refine bf_goto r.1 (tgt := 81) dX9_orderBy_177 (by decide) ?_
                        refine bf_iload r.1 dX9_orderBy_81 rfl ?_
                        refine nz_eq r (tgt := 180) dX9_orderBy_83 (by decide) (by decide) (fun c745 => ?_) (fun c745 => ?_)
                        · refine bf_iload_n r.1 dX9_orderBy_180 rfl ?_
                          refine bf_if_ne r.1 (tgt := 189) dX9_orderBy_181 (by decide) (fun c746 => ?_) (fun c746 => ?_)
                          · refine bf_iload_n r.1 dX9_orderBy_189 rfl ?_
                            refine bf_bipush r.1 (v := nI 10) dX9_orderBy_190 rfl ?_
                            refine bf_isub r.1 dX9_orderBy_192 ?_
                            obtain ⟨j0, hj6, ej, cj⟩ := oq_n hq c746
                            refine eq_i (v := nI j0) ej ?_
                            refine bf_iload_n r.1 dX9_orderBy_193 rfl ?_
                            refine nc_ge r (tgt := 209) dX9_orderBy_194 (by decide) (by omega) (by omega) (fun c747 => ?_) (fun c747 => ?_)
                            · refine bf_bipush r.1 (v := -9) dX9_orderBy_209 rfl ?_
                              exact re_i r dX9_orderBy_211 rfl rfl ⟨by unfold oAns; rw [if_neg c746, cj, if_neg (Nat.not_lt.mpr c747)], (fun a q h1 h2 h3 => (hfO744 a q h2).trans (hfr5 a q h1 h2 h3))⟩
                            · refine bf_aload_n r.1 dX9_orderBy_197 rfl ?_
                              refine ig_ref r (b := 49) dX9_orderBy_198 fl_X9_43 rfl (by decide) rfl ?_
                              refine bf_iload_n r.1 dX9_orderBy_201 rfl ?_
                              refine bf_bipush r.1 (v := nI 10) dX9_orderBy_202 rfl ?_
                              refine bf_isub r.1 dX9_orderBy_204 ?_
                              refine eq_i (v := nI j0) ej ?_
                              refine ia_ld r (n := 6) (v := nI (l.getD j0 0)) dX9_orderBy_205 rfl (by decide) (by omega) ((fun x hx => (hfO744 49 x (by decide)).trans (hb9 x hx)) j0 (by omega)) ?_
                              refine bf_goto r.1 (tgt := 211) dX9_orderBy_206 (by decide) ?_
                              exact re_i r dX9_orderBy_211 rfl rfl ⟨by unfold oAns; rw [if_neg c746, cj, if_pos c747, ← hX], (fun a q h1 h2 h3 => (hfO744 a q h2).trans (hfr5 a q h1 h2 h3))⟩
                          · refine bf_iload r.1 dX9_orderBy_184 rfl ?_
                            refine bf_goto r.1 (tgt := 211) dX9_orderBy_186 (by decide) ?_
                            exact re_i r dX9_orderBy_211 rfl rfl ⟨by unfold oAns; rw [if_pos c746, ← hX], (fun a q h1 h2 h3 => (hfO744 a q h2).trans (hfr5 a q h1 h2 h3))⟩
                        · exact absurd rfl c745
                      · show J 175 [some (.ref 37), some (.int (nI fr)), some (.int (nI a)), some (.int (wh)), some (.int (nI (cst (gF P c) l))), some (.int (nI 1)), some (.int (nI (cst (gF P c) l))), some (.int (nI 1)), some (.int (nI x))] [.int (nI 1)] (bf_MD D744)
                        refine bf_istore r.1 (L2 := [some (.ref 37), some (.int (nI fr)), some (.int (nI a)), some (.int (wh)), some (.int (nI (cst (gF P c) l))), some (.int (nI 1)), some (.int (nI (cst (gF P c) l))), some (.int (nI 1)), some (.int (nI x))]) dX9_orderBy_175 rfl ?_
                        refine bf_goto r.1 (tgt := 81) dX9_orderBy_177 (by decide) ?_
                        refine bf_fgt r.1 (i := 6) (L2 := [some (.ref 37), some (.int (nI fr)), some (.int (nI a)), some (.int (wh)), some (.int (nI (cst (gF P c) l))), some (.int (nI 1)), none, some (.int (nI 1)), some (.int (nI x))]) rfl ?_
                        refine bf_fgt r.1 (i := 7) (L2 := [some (.ref 37), some (.int (nI fr)), some (.int (nI a)), some (.int (wh)), some (.int (nI (cst (gF P c) l))), some (.int (nI 1)), none, none, some (.int (nI x))]) rfl ?_
                        refine bf_fgt r.1 (i := 8) (L2 := [some (.ref 37), some (.int (nI fr)), some (.int (nI a)), some (.int (wh)), some (.int (nI (cst (gF P c) l))), some (.int (nI 1)), none, none, none]) rfl ?_
                        have hnx := nxL_s hx744
                        rw [sqE_s hnx] at hE
                        rw [sq_s hnx, List.foldl_cons, hr] at he
                        exact ih _ (some (cst (gF P c) l, l)) D744 hE (rowC_o hc744 h6744) (fun b q q1 q2 q3 => (hfO744 b q q2).trans (hfr5 b q q1 q2 q3)) (fun x hx y hy => (hfO744 _ _ (by decide)).trans ((h5 _ _ (by decide)).trans (hG x hx y hy))) (fun s9 hs9 => by cases hs9; exact ⟨hcl, fun x hx => (hfO744 _ _ (by decide)).trans (hb9 x hx)⟩) he
                  · refine bf_aload_n r.1 dX9_orderBy_121 rfl ?_
                    refine ig_ref r (b := 49) dX9_orderBy_122 fl_X9_43 rfl (by decide) rfl ?_
                    refine bf_iload r.1 dX9_orderBy_125 rfl ?_
                    refine bf_iload r.1 dX9_orderBy_127 rfl ?_
                    refine nz_eq r (tgt := 142) dX9_orderBy_129 (by decide) (by decide) (fun c748 => ?_) (fun c748 => ?_)
                    · exact absurd c748 (by decide)
                    · refine bf_aload_n r.1 dX9_orderBy_132 rfl ?_
                      refine ig_ref r (b := 48) dX9_orderBy_133 fl_X9_40 rfl (by decide) rfl ?_
                      refine bf_iload r.1 dX9_orderBy_136 rfl ?_
                      refine ia_ld r (n := 6) (v := nI (l.getD x 0)) dX9_orderBy_138 rfl (by decide) (by omega) ((h5 48 x (by decide)).trans (hrow.2.2 x (by omega))) ?_
                      refine bf_goto r.1 (tgt := 149) dX9_orderBy_139 (by decide) ?_
                      refine ia_st r (n := 6) dX9_orderBy_149 rfl (by decide) (by omega) ?_
                      refine na_inc r (v := x + 1) (L2 := [some (.ref 37), some (.int (nI fr)), some (.int (nI a)), some (.int (wh)), some (.int (-9)), some (.int (nI 1)), some (.int (nI (cst (gF P c) l))), some (.int (nI 1)), some (.int (nI (x + 1)))]) dX9_orderBy_150 rfl (nI_add _ 1) rfl ?_
                      refine bf_goto r.1 (tgt := 115) dX9_orderBy_153 (by decide) ?_
                      refine ihx (by omega) _ (fun b q h => (bf_un (Or.inl h)).trans (h5 b q h)) (fun y hy => ?_) (fun y hy => (bf_un (by omega)).trans (h9b y (by omega)))
                      by_cases ey : y = x
                      · subst ey; exact bf_us
                      · exact (bf_un (Or.inr ey)).trans (h9 y (by omega))
                exact lox 0 (Nat.zero_le _) D4 (fun _ _ _ => rfl) (fun y hy => absurd hy (Nat.not_lt_zero _)) (fun _ _ => rfl)
              · exact absurd (by decide) c741
            · obtain ⟨st, rfl⟩ := Option.ne_none_iff_exists'.mp ho0
              have hst := hb st rfl
              show J 86 [some (.ref 37), some (.int (nI fr)), some (.int (nI a)), some (.int (wh)), some (.int (nI st.1)), some (.int (nI 1)), none, none, none] [] (bf_MD D4)
              refine bf_aload_n r.1 dX9_orderBy_86 rfl ?_
              refine bf_iload_n r.1 dX9_orderBy_87 rfl ?_
              refine cl_v r (y2 := mX9_orderFlips) dX9_orderBy_88 li_X9_238 mv_X9_orderFlips rfl (by decide) [.int (nI a)] [] rfl (Nat.le_of_ble_eq_true rfl) rfl (c_X9_orderFlips (by omega) hn (o := fun x => l.getD x 0) hrow.2.2 (fun x hx => hrow.2.1 _ (bf_getD_mem (by rw [hrow.1]; exact hx))) (g := (gF P c)) hG) ?_
              show J 91 [some (.ref 37), some (.int (nI fr)), some (.int (nI a)), some (.int (wh)), some (.int (nI st.1)), some (.int (nI 1)), none, none, none] [.int (nI (bf_sm (fun x => gF P c (l.getD x 0) (l.getD (x + 1) 0)) (a - 1)))] (bf_MD D4)
              refine eq_i (v := nI (cst (gF P c) l)) (congrArg nI (cst_n hrow.1).symm) ?_
              refine bf_istore r.1 (L2 := [some (.ref 37), some (.int (nI fr)), some (.int (nI a)), some (.int (wh)), some (.int (nI st.1)), some (.int (nI 1)), some (.int (nI (cst (gF P c) l))), none, none]) dX9_orderBy_91 rfl ?_
              refine bf_iload r.1 dX9_orderBy_93 rfl ?_
              refine nz_lt r (tgt := 105) dX9_orderBy_95 (by decide) (by omega) (fun c749 => ?_) (fun c749 => ?_)
              · exact absurd c749 (Nat.not_lt_zero _)
              · refine bf_iload r.1 dX9_orderBy_98 rfl ?_
                refine bf_iload r.1 dX9_orderBy_100 rfl ?_
                refine nc_ge r (tgt := 109) dX9_orderBy_102 (by decide) (by omega) (by omega) (fun c750 => ?_) (fun c750 => ?_)
                · refine bf_iconst r.1 (v := nI 0) dX9_orderBy_109 rfl ?_
                  refine bf_istore r.1 (L2 := [some (.ref 37), some (.int (nI fr)), some (.int (nI a)), some (.int (wh)), some (.int (nI st.1)), some (.int (nI 1)), some (.int (nI (cst (gF P c) l))), some (.int (nI 0)), none]) dX9_orderBy_110 rfl ?_
                  refine bf_iconst r.1 (v := nI 0) dX9_orderBy_112 rfl ?_
                  refine bf_istore r.1 (L2 := [some (.ref 37), some (.int (nI fr)), some (.int (nI a)), some (.int (wh)), some (.int (nI st.1)), some (.int (nI 1)), some (.int (nI (cst (gF P c) l))), some (.int (nI 0)), some (.int (nI 0))]) dX9_orderBy_113 rfl ?_
                  have hr : rF (gF P c) (some st) l = some st := congrArg some (if_pos c750)
                  have lox : ∀ x : Nat, x ≤ a → ∀ D5 : bf_D, (∀ b q, b ≠ 49 → D5 b q = D4 b q) → (∀ y, y < x → D5 49 y = nI (st.2.getD y 0)) → (∀ y, x ≤ y → D5 49 y = D4 49 y) → J 115 [some (.ref 37), some (.int (nI fr)), some (.int (nI a)), some (.int (wh)), some (.int (nI st.1)), some (.int (nI 1)), some (.int (nI (cst (gF P c) l))), some (.int (nI 0)), some (.int (nI x))] [] (bf_MD D5) := by
                    refine bf_down (fun x hle3 ihx => ?_)
                    intro D5 h5 h9 h9b
                    refine bf_iload r.1 dX9_orderBy_115 rfl ?_
                    refine bf_iload_n r.1 dX9_orderBy_117 rfl ?_
                    refine nc_ge r (tgt := 156) dX9_orderBy_118 (by decide) (by omega) (by omega) (fun c751 => ?_) (fun c751 => ?_)
                    · have hb9 : ∀ y, y < a → D5 49 y = nI (st.2.getD y 0) := fun y hy => h9 y (by omega)
                      have hfr5 : fr3 D D5 := fun b q q1 q2 q3 => (h5 b q q3).trans (hfr4 b q q1 q2 q3)
                      refine bf_iload r.1 dX9_orderBy_156 rfl ?_
                      refine nz_eq r (tgt := 166) dX9_orderBy_158 (by decide) (by decide) (fun c752 => ?_) (fun c752 => ?_)
                      · refine bf_iload r.1 dX9_orderBy_166 rfl ?_
                        refine bf_istore r.1 (L2 := [some (.ref 37), some (.int (nI fr)), some (.int (nI a)), some (.int (wh)), some (.int (nI st.1)), some (.int (nI 1)), some (.int (nI (cst (gF P c) l))), some (.int (nI 0)), some (.int (nI x))]) dX9_orderBy_168 rfl ?_
                        refine bf_aload_n r.1 dX9_orderBy_170 rfl ?_
                        refine bf_iload_n r.1 dX9_orderBy_171 rfl ?_
                        refine ce_v r (y2 := mX9_nextOrder) dX9_orderBy_172 li_X9_241 mv_X9_nextOrder rfl (by decide) [.int (nI a)] [] rfl (Nat.le_of_ble_eq_true rfl) rfl (e_X9_nextOrder (by omega) hn (o := fun x => l.getD x 0) (fun x hx => (h5 48 x (by decide)).trans (hrow.2.2 x hx)) (fun x hx => hrow.2.1 _ (bf_getD_mem (by rw [hrow.1]; exact hx)))) (fun res D753 hq753 => ?_)
                        rcases hq753 with ⟨hfO753, ⟨rfl, hx753⟩ | ⟨rfl, o753, hx753, hc753, h6753⟩⟩
                        · show J 175 [some (.ref 37), some (.int (nI fr)), some (.int (nI a)), some (.int (wh)), some (.int (nI st.1)), some (.int (nI 1)), some (.int (nI (cst (gF P c) l))), some (.int (nI 0)), some (.int (nI x))] [.int (nI 0)] (bf_MD D753)
                          have hX : st = xS (gF P c) a := by rw [sq_n (nxL_n hx753), List.foldl_cons, List.foldl_nil, hr] at he; exact Option.some.inj he
                          refine bf_istore r.1 (L2 := [some (.ref 37), some (.int (nI fr)), some (.int (nI a)), some (.int (wh)), some (.int (nI st.1)), some (.int (nI 0)), some (.int (nI (cst (gF P c) l))), some (.int (nI 0)), some (.int (nI x))]) dX9_orderBy_175 rfl ?_
                          refine bf_goto r.1 (tgt := 81) dX9_orderBy_177 (by decide) ?_
                          refine bf_iload r.1 dX9_orderBy_81 rfl ?_
                          refine nz_eq r (tgt := 180) dX9_orderBy_83 (by decide) (by decide) (fun c754 => ?_) (fun c754 => ?_)
                          · refine bf_iload_n r.1 dX9_orderBy_180 rfl ?_
                            refine bf_if_ne r.1 (tgt := 189) dX9_orderBy_181 (by decide) (fun c755 => ?_) (fun c755 => ?_)
                            · refine bf_iload_n r.1 dX9_orderBy_189 rfl ?_
                              refine bf_bipush r.1 (v := nI 10) dX9_orderBy_190 rfl ?_
                              refine bf_isub r.1 dX9_orderBy_192 ?_
                              obtain ⟨j0, hj6, ej, cj⟩ := oq_n hq c755
                              refine eq_i (v := nI j0) ej ?_
                              refine bf_iload_n r.1 dX9_orderBy_193 rfl ?_
                              refine nc_ge r (tgt := 209) dX9_orderBy_194 (by decide) (by omega) (by omega) (fun c756 => ?_) (fun c756 => ?_)
                              · refine bf_bipush r.1 (v := -9) dX9_orderBy_209 rfl ?_
                                exact re_i r dX9_orderBy_211 rfl rfl ⟨by unfold oAns; rw [if_neg c755, cj, if_neg (Nat.not_lt.mpr c756)], (fun a q h1 h2 h3 => (hfO753 a q h2).trans (hfr5 a q h1 h2 h3))⟩
                              · refine bf_aload_n r.1 dX9_orderBy_197 rfl ?_
                                refine ig_ref r (b := 49) dX9_orderBy_198 fl_X9_43 rfl (by decide) rfl ?_
                                refine bf_iload_n r.1 dX9_orderBy_201 rfl ?_
                                refine bf_bipush r.1 (v := nI 10) dX9_orderBy_202 rfl ?_
                                refine bf_isub r.1 dX9_orderBy_204 ?_
                                refine eq_i (v := nI j0) ej ?_
                                refine ia_ld r (n := 6) (v := nI (st.2.getD j0 0)) dX9_orderBy_205 rfl (by decide) (by omega) ((fun x hx => (hfO753 49 x (by decide)).trans (hb9 x hx)) j0 (by omega)) ?_
                                refine bf_goto r.1 (tgt := 211) dX9_orderBy_206 (by decide) ?_
                                exact re_i r dX9_orderBy_211 rfl rfl ⟨by unfold oAns; rw [if_neg c755, cj, if_pos c756, ← hX], (fun a q h1 h2 h3 => (hfO753 a q h2).trans (hfr5 a q h1 h2 h3))⟩
                            · refine bf_iload r.1 dX9_orderBy_184 rfl ?_
                              refine bf_goto r.1 (tgt := 211) dX9_orderBy_186 (by decide) ?_
                              exact re_i r dX9_orderBy_211 rfl rfl ⟨by unfold oAns; rw [if_pos c755, ← hX], (fun a q h1 h2 h3 => (hfO753 a q h2).trans (hfr5 a q h1 h2 h3))⟩
                          · exact absurd rfl c754
                        · show J 175 [some (.ref 37), some (.int (nI fr)), some (.int (nI a)), some (.int (wh)), some (.int (nI st.1)), some (.int (nI 1)), some (.int (nI (cst (gF P c) l))), some (.int (nI 0)), some (.int (nI x))] [.int (nI 1)] (bf_MD D753)
                          refine bf_istore r.1 (L2 := [some (.ref 37), some (.int (nI fr)), some (.int (nI a)), some (.int (wh)), some (.int (nI st.1)), some (.int (nI 1)), some (.int (nI (cst (gF P c) l))), some (.int (nI 0)), some (.int (nI x))]) dX9_orderBy_175 rfl ?_
                          refine bf_goto r.1 (tgt := 81) dX9_orderBy_177 (by decide) ?_
                          refine bf_fgt r.1 (i := 6) (L2 := [some (.ref 37), some (.int (nI fr)), some (.int (nI a)), some (.int (wh)), some (.int (nI st.1)), some (.int (nI 1)), none, some (.int (nI 0)), some (.int (nI x))]) rfl ?_
                          refine bf_fgt r.1 (i := 7) (L2 := [some (.ref 37), some (.int (nI fr)), some (.int (nI a)), some (.int (wh)), some (.int (nI st.1)), some (.int (nI 1)), none, none, some (.int (nI x))]) rfl ?_
                          refine bf_fgt r.1 (i := 8) (L2 := [some (.ref 37), some (.int (nI fr)), some (.int (nI a)), some (.int (wh)), some (.int (nI st.1)), some (.int (nI 1)), none, none, none]) rfl ?_
                          have hnx := nxL_s hx753
                          rw [sqE_s hnx] at hE
                          rw [sq_s hnx, List.foldl_cons, hr] at he
                          exact ih _ (some st) D753 hE (rowC_o hc753 h6753) (fun b q q1 q2 q3 => (hfO753 b q q2).trans (hfr5 b q q1 q2 q3)) (fun x hx y hy => (hfO753 _ _ (by decide)).trans ((h5 _ _ (by decide)).trans (hG x hx y hy))) (fun s9 hs9 => by cases hs9; exact ⟨hst.1, fun x hx => (hfO753 _ _ (by decide)).trans (hb9 x hx)⟩) he
                      · exact absurd rfl c752
                    · refine bf_aload_n r.1 dX9_orderBy_121 rfl ?_
                      refine ig_ref r (b := 49) dX9_orderBy_122 fl_X9_43 rfl (by decide) rfl ?_
                      refine bf_iload r.1 dX9_orderBy_125 rfl ?_
                      refine bf_iload r.1 dX9_orderBy_127 rfl ?_
                      refine nz_eq r (tgt := 142) dX9_orderBy_129 (by decide) (by decide) (fun c757 => ?_) (fun c757 => ?_)
                      · refine bf_aload_n r.1 dX9_orderBy_142 rfl ?_
                        refine ig_ref r (b := 49) dX9_orderBy_143 fl_X9_43 rfl (by decide) rfl ?_
                        refine bf_iload r.1 dX9_orderBy_146 rfl ?_
                        refine ia_ld r (n := 6) (v := nI (st.2.getD x 0)) dX9_orderBy_148 rfl (by decide) (by omega) ((h9b x (Nat.le_refl _)).trans (hst.2 x (by omega))) ?_
                        refine ia_st r (n := 6) dX9_orderBy_149 rfl (by decide) (by omega) ?_
                        refine na_inc r (v := x + 1) (L2 := [some (.ref 37), some (.int (nI fr)), some (.int (nI a)), some (.int (wh)), some (.int (nI st.1)), some (.int (nI 1)), some (.int (nI (cst (gF P c) l))), some (.int (nI 0)), some (.int (nI (x + 1)))]) dX9_orderBy_150 rfl (nI_add _ 1) rfl ?_
                        refine bf_goto r.1 (tgt := 115) dX9_orderBy_153 (by decide) ?_
                        refine ihx (by omega) _ (fun b q h => (bf_un (Or.inl h)).trans (h5 b q h)) (fun y hy => ?_) (fun y hy => (bf_un (by omega)).trans (h9b y (by omega)))
                        by_cases ey : y = x
                        · subst ey; exact bf_us
                        · exact (bf_un (Or.inr ey)).trans (h9 y (by omega))
                      · exact absurd rfl c757
                  exact lox 0 (Nat.zero_le _) D4 (fun _ _ _ => rfl) (fun y hy => absurd hy (Nat.not_lt_zero _)) (fun _ _ => rfl)
                · refine bf_iconst r.1 (v := nI 1) dX9_orderBy_105 rfl ?_
                  refine bf_goto r.1 (tgt := 110) dX9_orderBy_106 (by decide) ?_
                  refine bf_istore r.1 (L2 := [some (.ref 37), some (.int (nI fr)), some (.int (nI a)), some (.int (wh)), some (.int (nI st.1)), some (.int (nI 1)), some (.int (nI (cst (gF P c) l))), some (.int (nI 1)), none]) dX9_orderBy_110 rfl ?_
                  refine bf_iconst r.1 (v := nI 0) dX9_orderBy_112 rfl ?_
                  refine bf_istore r.1 (L2 := [some (.ref 37), some (.int (nI fr)), some (.int (nI a)), some (.int (wh)), some (.int (nI st.1)), some (.int (nI 1)), some (.int (nI (cst (gF P c) l))), some (.int (nI 1)), some (.int (nI 0))]) dX9_orderBy_113 rfl ?_
                  have hr : rF (gF P c) (some st) l = some (cst (gF P c) l, l) := congrArg some (if_neg (Nat.not_le.mpr c750))
                  have lox : ∀ x : Nat, x ≤ a → ∀ D5 : bf_D, (∀ b q, b ≠ 49 → D5 b q = D4 b q) → (∀ y, y < x → D5 49 y = nI (l.getD y 0)) → (∀ y, x ≤ y → D5 49 y = D4 49 y) → J 115 [some (.ref 37), some (.int (nI fr)), some (.int (nI a)), some (.int (wh)), some (.int (nI st.1)), some (.int (nI 1)), some (.int (nI (cst (gF P c) l))), some (.int (nI 1)), some (.int (nI x))] [] (bf_MD D5) := by
                    refine bf_down (fun x hle3 ihx => ?_)
                    intro D5 h5 h9 h9b
                    refine bf_iload r.1 dX9_orderBy_115 rfl ?_
                    refine bf_iload_n r.1 dX9_orderBy_117 rfl ?_
                    refine nc_ge r (tgt := 156) dX9_orderBy_118 (by decide) (by omega) (by omega) (fun c758 => ?_) (fun c758 => ?_)
                    · have hb9 : ∀ y, y < a → D5 49 y = nI (l.getD y 0) := fun y hy => h9 y (by omega)
                      have hfr5 : fr3 D D5 := fun b q q1 q2 q3 => (h5 b q q3).trans (hfr4 b q q1 q2 q3)
                      refine bf_iload r.1 dX9_orderBy_156 rfl ?_
                      refine nz_eq r (tgt := 166) dX9_orderBy_158 (by decide) (by decide) (fun c759 => ?_) (fun c759 => ?_)
                      · exact absurd c759 (by decide)
                      · refine bf_iload r.1 dX9_orderBy_161 rfl ?_
                        refine bf_goto r.1 (tgt := 168) dX9_orderBy_163 (by decide) ?_
                        refine bf_istore r.1 (L2 := [some (.ref 37), some (.int (nI fr)), some (.int (nI a)), some (.int (wh)), some (.int (nI (cst (gF P c) l))), some (.int (nI 1)), some (.int (nI (cst (gF P c) l))), some (.int (nI 1)), some (.int (nI x))]) dX9_orderBy_168 rfl ?_
                        refine bf_aload_n r.1 dX9_orderBy_170 rfl ?_
                        refine bf_iload_n r.1 dX9_orderBy_171 rfl ?_
                        refine ce_v r (y2 := mX9_nextOrder) dX9_orderBy_172 li_X9_241 mv_X9_nextOrder rfl (by decide) [.int (nI a)] [] rfl (Nat.le_of_ble_eq_true rfl) rfl (e_X9_nextOrder (by omega) hn (o := fun x => l.getD x 0) (fun x hx => (h5 48 x (by decide)).trans (hrow.2.2 x hx)) (fun x hx => hrow.2.1 _ (bf_getD_mem (by rw [hrow.1]; exact hx)))) (fun res D760 hq760 => ?_)
                        rcases hq760 with ⟨hfO760, ⟨rfl, hx760⟩ | ⟨rfl, o760, hx760, hc760, h6760⟩⟩
                        · show J 175 [some (.ref 37), some (.int (nI fr)), some (.int (nI a)), some (.int (wh)), some (.int (nI (cst (gF P c) l))), some (.int (nI 1)), some (.int (nI (cst (gF P c) l))), some (.int (nI 1)), some (.int (nI x))] [.int (nI 0)] (bf_MD D760)
                          have hX : (cst (gF P c) l, l) = xS (gF P c) a := by rw [sq_n (nxL_n hx760), List.foldl_cons, List.foldl_nil, hr] at he; exact Option.some.inj he
                          refine bf_istore r.1 (L2 := [some (.ref 37), some (.int (nI fr)), some (.int (nI a)), some (.int (wh)), some (.int (nI (cst (gF P c) l))), some (.int (nI 0)), some (.int (nI (cst (gF P c) l))), some (.int (nI 1)), some (.int (nI x))]) dX9_orderBy_175 rfl ?_
                          refine bf_goto r.1 (tgt := 81) dX9_orderBy_177 (by decide) ?_
                          refine bf_iload r.1 dX9_orderBy_81 rfl ?_
                          refine nz_eq r (tgt := 180) dX9_orderBy_83 (by decide) (by decide) (fun c761 => ?_) (fun c761 => ?_)
                          · refine bf_iload_n r.1 dX9_orderBy_180 rfl ?_
                            refine bf_if_ne r.1 (tgt := 189) dX9_orderBy_181 (by decide) (fun c762 => ?_) (fun c762 => ?_)
                            · refine bf_iload_n r.1 dX9_orderBy_189 rfl ?_
                              refine bf_bipush r.1 (v := nI 10) dX9_orderBy_190 rfl ?_
                              refine bf_isub r.1 dX9_orderBy_192 ?_
                              obtain ⟨j0, hj6, ej, cj⟩ := oq_n hq c762
                              refine eq_i (v := nI j0) ej ?_
                              refine bf_iload_n r.1 dX9_orderBy_193 rfl ?_
                              refine nc_ge r (tgt := 209) dX9_orderBy_194 (by decide) (by omega) (by omega) (fun c763 => ?_) (fun c763 => ?_)
                              · refine bf_bipush r.1 (v := -9) dX9_orderBy_209 rfl ?_
                                exact re_i r dX9_orderBy_211 rfl rfl ⟨by unfold oAns; rw [if_neg c762, cj, if_neg (Nat.not_lt.mpr c763)], (fun a q h1 h2 h3 => (hfO760 a q h2).trans (hfr5 a q h1 h2 h3))⟩
                              · refine bf_aload_n r.1 dX9_orderBy_197 rfl ?_
                                refine ig_ref r (b := 49) dX9_orderBy_198 fl_X9_43 rfl (by decide) rfl ?_
                                refine bf_iload_n r.1 dX9_orderBy_201 rfl ?_
                                refine bf_bipush r.1 (v := nI 10) dX9_orderBy_202 rfl ?_
                                refine bf_isub r.1 dX9_orderBy_204 ?_
                                refine eq_i (v := nI j0) ej ?_
                                refine ia_ld r (n := 6) (v := nI (l.getD j0 0)) dX9_orderBy_205 rfl (by decide) (by omega) ((fun x hx => (hfO760 49 x (by decide)).trans (hb9 x hx)) j0 (by omega)) ?_
                                refine bf_goto r.1 (tgt := 211) dX9_orderBy_206 (by decide) ?_
                                exact re_i r dX9_orderBy_211 rfl rfl ⟨by unfold oAns; rw [if_neg c762, cj, if_pos c763, ← hX], (fun a q h1 h2 h3 => (hfO760 a q h2).trans (hfr5 a q h1 h2 h3))⟩
                            · refine bf_iload r.1 dX9_orderBy_184 rfl ?_
                              refine bf_goto r.1 (tgt := 211) dX9_orderBy_186 (by decide) ?_
                              exact re_i r dX9_orderBy_211 rfl rfl ⟨by unfold oAns; rw [if_pos c762, ← hX], (fun a q h1 h2 h3 => (hfO760 a q h2).trans (hfr5 a q h1 h2 h3))⟩
                          · exact absurd rfl c761
                        · show J 175 [some (.ref 37), some (.int (nI fr)), some (.int (nI a)), some (.int (wh)), some (.int (nI (cst (gF P c) l))), some (.int (nI 1)), some (.int (nI (cst (gF P c) l))), some (.int (nI 1)), some (.int (nI x))] [.int (nI 1)] (bf_MD D760)
                          refine bf_istore r.1 (L2 := [some (.ref 37), some (.int (nI fr)), some (.int (nI a)), some (.int (wh)), some (.int (nI (cst (gF P c) l))), some (.int (nI 1)), some (.int (nI (cst (gF P c) l))), some (.int (nI 1)), some (.int (nI x))]) dX9_orderBy_175 rfl ?_
                          refine bf_goto r.1 (tgt := 81) dX9_orderBy_177 (by decide) ?_
                          refine bf_fgt r.1 (i := 6) (L2 := [some (.ref 37), some (.int (nI fr)), some (.int (nI a)), some (.int (wh)), some (.int (nI (cst (gF P c) l))), some (.int (nI 1)), none, some (.int (nI 1)), some (.int (nI x))]) rfl ?_
                          refine bf_fgt r.1 (i := 7) (L2 := [some (.ref 37), some (.int (nI fr)), some (.int (nI a)), some (.int (wh)), some (.int (nI (cst (gF P c) l))), some (.int (nI 1)), none, none, some (.int (nI x))]) rfl ?_
                          refine bf_fgt r.1 (i := 8) (L2 := [some (.ref 37), some (.int (nI fr)), some (.int (nI a)), some (.int (wh)), some (.int (nI (cst (gF P c) l))), some (.int (nI 1)), none, none, none]) rfl ?_
                          have hnx := nxL_s hx760
                          rw [sqE_s hnx] at hE
                          rw [sq_s hnx, List.foldl_cons, hr] at he
                          exact ih _ (some (cst (gF P c) l, l)) D760 hE (rowC_o hc760 h6760) (fun b q q1 q2 q3 => (hfO760 b q q2).trans (hfr5 b q q1 q2 q3)) (fun x hx y hy => (hfO760 _ _ (by decide)).trans ((h5 _ _ (by decide)).trans (hG x hx y hy))) (fun s9 hs9 => by cases hs9; exact ⟨hcl, fun x hx => (hfO760 _ _ (by decide)).trans (hb9 x hx)⟩) he
                    · refine bf_aload_n r.1 dX9_orderBy_121 rfl ?_
                      refine ig_ref r (b := 49) dX9_orderBy_122 fl_X9_43 rfl (by decide) rfl ?_
                      refine bf_iload r.1 dX9_orderBy_125 rfl ?_
                      refine bf_iload r.1 dX9_orderBy_127 rfl ?_
                      refine nz_eq r (tgt := 142) dX9_orderBy_129 (by decide) (by decide) (fun c764 => ?_) (fun c764 => ?_)
                      · exact absurd c764 (by decide)
                      · refine bf_aload_n r.1 dX9_orderBy_132 rfl ?_
                        refine ig_ref r (b := 48) dX9_orderBy_133 fl_X9_40 rfl (by decide) rfl ?_
                        refine bf_iload r.1 dX9_orderBy_136 rfl ?_
                        refine ia_ld r (n := 6) (v := nI (l.getD x 0)) dX9_orderBy_138 rfl (by decide) (by omega) ((h5 48 x (by decide)).trans (hrow.2.2 x (by omega))) ?_
                        refine bf_goto r.1 (tgt := 149) dX9_orderBy_139 (by decide) ?_
                        refine ia_st r (n := 6) dX9_orderBy_149 rfl (by decide) (by omega) ?_
                        refine na_inc r (v := x + 1) (L2 := [some (.ref 37), some (.int (nI fr)), some (.int (nI a)), some (.int (wh)), some (.int (nI st.1)), some (.int (nI 1)), some (.int (nI (cst (gF P c) l))), some (.int (nI 1)), some (.int (nI (x + 1)))]) dX9_orderBy_150 rfl (nI_add _ 1) rfl ?_
                        refine bf_goto r.1 (tgt := 115) dX9_orderBy_153 (by decide) ?_
                        refine ihx (by omega) _ (fun b q h => (bf_un (Or.inl h)).trans (h5 b q h)) (fun y hy => ?_) (fun y hy => (bf_un (by omega)).trans (h9b y (by omega)))
                        by_cases ey : y = x
                        · subst ey; exact bf_us
                        · exact (bf_un (Or.inr ey)).trans (h9 y (by omega))
                  exact lox 0 (Nat.zero_le _) D4 (fun _ _ _ => rfl) (fun y hy => absurd hy (Nat.not_lt_zero _)) (fun _ _ => rfl)
      exact loop 720 (List.range a) none D2 (sq_ok ⟨a, by omega⟩).2 (rowC_0 h48) hfr2 hG (fun st h => by cases h) (by rw [(sq_ok ⟨a, by omega⟩).1]; exact rF_all (by omega) (fun x y _ _ => hg28 x y))
    · refine bf_aload_n r.1 dX9_orderBy_9 rfl ?_
      refine ig_ref r (b := 48) dX9_orderBy_10 fl_X9_40 rfl (by decide) rfl ?_
      refine bf_iload r.1 dX9_orderBy_13 rfl ?_
      refine bf_iload r.1 dX9_orderBy_15 rfl ?_
      refine ia_st r (n := 6) dX9_orderBy_17 rfl (by decide) (by omega) ?_
      refine bf_iconst r.1 (v := nI 0) dX9_orderBy_18 rfl ?_
      refine bf_istore r.1 (L2 := [some (.ref 37), some (.int (nI fr)), some (.int (nI n)), some (.int (wh)), some (.int (nI a)), some (.int (nI 0)), none, none, none]) dX9_orderBy_19 rfl ?_
      have iha := ih
      have loB : ∀ b : Nat, b ≤ n → ∀ D3 : bf_D, fr3 D D3 → (∀ x, x < a + 1 → D3 48 x = nI x) → (∀ x, x < a → ∀ y, y < n → D3 47 (6 * x + y) = nI ((gF P c) x y)) → (∀ y, y < b → D3 47 (6 * a + y) = nI ((gF P c) a y)) → J 21 [some (.ref 37), some (.int (nI fr)), some (.int (nI n)), some (.int (wh)), some (.int (nI a)), some (.int (nI b)), none, none, none] [] (bf_MD D3) := by
        refine bf_down (fun b hle2 ih => ?_)
        intro D3 hfr3 g48 g47 ga
        refine bf_iload r.1 dX9_orderBy_21 rfl ?_
        refine bf_iload_n r.1 dX9_orderBy_23 rfl ?_
        refine nc_ge r (tgt := 68) dX9_orderBy_24 (by decide) (by omega) (by omega) (fun c765 => ?_) (fun c765 => ?_)
        · refine na_inc r (v := a + 1) (L2 := [some (.ref 37), some (.int (nI fr)), some (.int (nI n)), some (.int (wh)), some (.int (nI (a + 1))), some (.int (nI b)), none, none, none]) dX9_orderBy_68 rfl (nI_add _ 1) rfl ?_
          refine bf_goto r.1 (tgt := 3) dX9_orderBy_71 (by decide) ?_
          refine bf_fgt r.1 (i := 5) (L2 := [some (.ref 37), some (.int (nI fr)), some (.int (nI n)), some (.int (wh)), some (.int (nI (a + 1))), none, none, none, none]) rfl ?_
          refine iha (by omega) _ hfr3 g48 (fun x hx y hy => ?_)
          by_cases ex : x = a
          · subst ex; exact ga y (by omega)
          · exact g47 x (by omega) y hy
        · refine bf_aload_n r.1 dX9_orderBy_27 rfl ?_
          refine ig_ref r (b := 47) dX9_orderBy_28 fl_X9_37 rfl (by decide) rfl ?_
          refine bf_bipush r.1 (v := nI 6) dX9_orderBy_31 rfl ?_
          refine bf_iload r.1 dX9_orderBy_33 rfl ?_
          refine na_mul r dX9_orderBy_35  ?_
          refine bf_iload r.1 dX9_orderBy_36 rfl ?_
          refine na_add r dX9_orderBy_38  ?_
          refine bf_aload_n r.1 dX9_orderBy_39 rfl ?_
          refine bf_aload_n r.1 dX9_orderBy_40 rfl ?_
          refine ig_ref r (b := 55) dX9_orderBy_41 fl_X9_61 rfl (by decide) rfl ?_
          refine bf_iload_n r.1 dX9_orderBy_44 rfl ?_
          refine bf_iload r.1 dX9_orderBy_45 rfl ?_
          refine na_add r dX9_orderBy_47  ?_
          refine ia_ld r (n := 240) (v := nI (bf_cn c a)) dX9_orderBy_48 rfl (by decide) (by omega) ((hfr3 _ _ (by decide) (by decide) (by decide)).trans (hcc a (by omega)).1) ?_
          refine bf_aload_n r.1 dX9_orderBy_49 rfl ?_
          refine ig_ref r (b := 55) dX9_orderBy_50 fl_X9_61 rfl (by decide) rfl ?_
          refine bf_iload_n r.1 dX9_orderBy_53 rfl ?_
          refine bf_iload r.1 dX9_orderBy_54 rfl ?_
          refine na_add r dX9_orderBy_56  ?_
          refine ia_ld r (n := 240) (v := nI (bf_cn c b)) dX9_orderBy_57 rfl (by decide) (by omega) ((hfr3 _ _ (by decide) (by decide) (by decide)).trans (hcc b (by omega)).1) ?_
          refine cl_v r (y2 := mX9_flipsOf) dX9_orderBy_58 li_X9_193 mv_X9_flipsOf rfl (by decide) [.int (nI (bf_cn c a)), .int (nI (bf_cn c b))] [.int (nI (6 * a + b)), .ref 47] rfl (Nat.le_of_ble_eq_true rfl) rfl (c_X9_flipsOf (by omega) hv (mP_3 hm hn4 hfr3) (by have := (hcc a (by omega)).2; omega) (by have := (hcc b (by omega)).2; omega)) ?_
          show J 61 [some (.ref 37), some (.int (nI fr)), some (.int (nI n)), some (.int (wh)), some (.int (nI a)), some (.int (nI b)), none, none, none] [.int (nI (pF P (bf_cn c a) (bf_cn c b))), .int (nI (6 * a + b)), .ref 47] (bf_MD D3)
          refine ia_st r (n := 36) dX9_orderBy_61 rfl (by decide) (by omega) ?_
          refine na_inc r (v := b + 1) (L2 := [some (.ref 37), some (.int (nI fr)), some (.int (nI n)), some (.int (wh)), some (.int (nI a)), some (.int (nI (b + 1))), none, none, none]) dX9_orderBy_62 rfl (nI_add _ 1) rfl ?_
          refine bf_goto r.1 (tgt := 21) dX9_orderBy_65 (by decide) ?_
          refine ih (by omega) _ (f3u (by decide) hfr3) (fun x hx => (bf_un (Or.inl (by decide))).trans (g48 x hx)) (fun x hx y hy => (bf_un (by omega)).trans (g47 x hx y hy)) (fun y hy => ?_)
          by_cases ey : y = b
          · subst ey; exact bf_us
          · exact (bf_un (by omega)).trans (ga y (by omega))
      refine loB 0 (Nat.zero_le _) _ (f3u (by decide) hfr2) (fun x hx => ?_) (fun x hx y hy => (bf_un (Or.inl (by decide))).trans (h47 x hx y hy)) (fun y hy => absurd hy (Nat.not_lt_zero _))
      by_cases ex : x = a
      · subst ex; exact bf_us
      · exact (bf_un (Or.inr ex)).trans (h48 x (by omega))
  exact loA 0 (Nat.zero_le _) D f30 (fun x hx => absurd hx (Nat.not_lt_zero _)) (fun x hx => absurd hx (Nat.not_lt_zero _))
theorem e_X9_order {d : Nat} (hd : 10 ≤ d) {D : bf_D} {P : bf_Pn} {S : bf_Sh} {Q : bf_Rd} {F : Nat} {T : Int32} (va : vA (P, S, Q, F, T)) (ma : mA D (P, S, Q, F, T)) (k l i n wh : Int32) : bf_Ce d mX9_order [.ref 37, .int (k), .int (l), .int (i), .int (n), .int (wh)] D (fun r D' => r = some (.int (ox_order P S Q F T k l i n wh).1) ∧ mA D' (ox_order P S Q F T k l i n wh).2 ∧ bf_fr 37 57 D D') := by
  refine bf_Ce_of 9 hd mo_X9_order (Nat.le_of_ble_eq_true rfl) (fun e he J r => ?_)
  show J 0 [some (.ref 37), some (.int (k)), some (.int (l)), some (.int (i)), some (.int (n)), some (.int (wh)), none, none] [] (bf_MD D)
  obtain ⟨hv, vs, vr, hF⟩ := id va
  obtain ⟨hm, ms, mr, c5, c6⟩ := id ma
  have hn4 := hv.1
  have hx4 := pX_le hv
  have hx0 := pX_pos P
  refine bf_iload_n r.1 dX9_order_0 rfl ?_
  refine cl_s r (y2 := mX9_noSheet) dX9_order_1 li_X9_113 mv_X9_noSheet [.int (k)] [] rfl (Nat.le_of_ble_eq_true rfl) rfl (c_X9_noSheet (by omega) D _) ?_
  show J 4 [some (.ref 37), some (.int (k)), some (.int (l)), some (.int (i)), some (.int (n)), some (.int (wh)), none, none] [.int (if ¬ (0 ≤ k ∧ k < nI 4) then 1 else 0)] (bf_MD D)
  refine nb_eq r (tgt := 13) dX9_order_4 (by decide) (fun c766 => ?_) (fun c766 => ?_)
  · obtain ⟨k0, hk0, rfl⟩ := rg_in (by decide) (Decidable.not_not.mp c766)
    have wk := rg_s hk0 (by decide)
    have z60k := (vs k0 hk0).2
    refine bf_iload_n r.1 dX9_order_13 rfl ?_
    refine bf_i2l r.1 dX9_order_14 ?_
    refine bf_lconst r.1 (v := lN 0) dX9_order_15 rfl ?_
    refine bf_ldc2 r.1 dX9_order_16 lc_X9_120 ?_
    refine eq_l (v := lN 2) rfl ?_
    refine cl_s r (y2 := mX9_in) dX9_order_19 li_X9_80 mv_X9_in [.long (l.toInt64), .long (lN 0), .long (lN 2)] [] rfl (Nat.le_of_ble_eq_true rfl) rfl (c_X9_in32 (by omega) D l (h := 2) (m := 3) rfl (by decide)) ?_
    show J 22 [some (.ref 37), some (.int (nI k0)), some (.int (l)), some (.int (i)), some (.int (n)), some (.int (wh)), none, none] [.int (if 0 ≤ l ∧ l < nI 3 then 1 else 0)] (bf_MD D)
    refine nb_eq r (tgt := 58) dX9_order_22 (by decide) (fun c767 => ?_) (fun c767 => ?_)
    · have wl := rg_n c767
      refine bf_aload_n r.1 dX9_order_58 rfl ?_
      refine bf_bipush r.1 (v := -2) dX9_order_59 rfl ?_
      refine cl_v r (y2 := mX9_refused) dX9_order_61 li_X9_117 mv_X9_refused rfl (by decide) [.int (-2)] [] rfl (Nat.le_of_ble_eq_true rfl) rfl (c_X9_refused (by omega) D _) ?_
      show J 64 [some (.ref 37), some (.int (nI k0)), some (.int (l)), some (.int (i)), some (.int (n)), some (.int (wh)), none, none] [.int (-2)] (bf_MD (bf_u D 37 0 (nI 0)))
      have ho : ox_order P S Q F T (nI k0) l i n wh = (-2, (P, S, Q, 0, T)) := by simp only [ox_order, wk, wl, on_n, on_s]
      exact re_i r dX9_order_64 rfl rfl ⟨by rw [ho], by rw [ho]; exact (mA_0 hn4 0 ma), (fr_u fr_0 (by decide) (by decide))⟩
    · obtain ⟨l0, hl0, rfl⟩ := rg_in (by decide) c767
      have wl := rg_s hl0 (by decide)
      refine bf_iload r.1 dX9_order_25 rfl ?_
      refine bf_i2l r.1 dX9_order_27 ?_
      refine bf_lconst r.1 (v := lN 0) dX9_order_28 rfl ?_
      refine bf_ldc2 r.1 dX9_order_29 lc_X9_169 ?_
      refine eq_l (v := lN 6) rfl ?_
      refine cl_s r (y2 := mX9_in) dX9_order_32 li_X9_80 mv_X9_in [.long (n.toInt64), .long (lN 0), .long (lN 6)] [] rfl (Nat.le_of_ble_eq_true rfl) rfl (c_X9_in32 (by omega) D n (h := 6) (m := 7) rfl (by decide)) ?_
      show J 35 [some (.ref 37), some (.int (nI k0)), some (.int (nI l0)), some (.int (i)), some (.int (n)), some (.int (wh)), none, none] [.int (if 0 ≤ n ∧ n < nI 7 then 1 else 0)] (bf_MD D)
      refine nb_eq r (tgt := 58) dX9_order_35 (by decide) (fun c768 => ?_) (fun c768 => ?_)
      · have wn := rg_n c768
        refine bf_aload_n r.1 dX9_order_58 rfl ?_
        refine bf_bipush r.1 (v := -2) dX9_order_59 rfl ?_
        refine cl_v r (y2 := mX9_refused) dX9_order_61 li_X9_117 mv_X9_refused rfl (by decide) [.int (-2)] [] rfl (Nat.le_of_ble_eq_true rfl) rfl (c_X9_refused (by omega) D _) ?_
        show J 64 [some (.ref 37), some (.int (nI k0)), some (.int (nI l0)), some (.int (i)), some (.int (n)), some (.int (wh)), none, none] [.int (-2)] (bf_MD (bf_u D 37 0 (nI 0)))
        have ho : ox_order P S Q F T (nI k0) (nI l0) i n wh = (-2, (P, S, Q, 0, T)) := by simp only [ox_order, wk, wl, wn, on_n, on_s]
        exact re_i r dX9_order_64 rfl rfl ⟨by rw [ho], by rw [ho]; exact (mA_0 hn4 0 ma), (fr_u fr_0 (by decide) (by decide))⟩
      · obtain ⟨n0, hn0, rfl⟩ := rg_in (by decide) c768
        have wn := rg_s hn0 (by decide)
        refine bf_iload r.1 dX9_order_38 rfl ?_
        refine bf_if_eq r.1 (tgt := 65) dX9_order_40 (by decide) (fun c769 => ?_) (fun c769 => ?_)
        · have hoq := oq_z c769
          refine bf_aload_n r.1 dX9_order_65 rfl ?_
          refine ig_int r (v := nI (pN P)) dX9_order_66 fl_X9_77 rfl (by decide) rfl (mP_n (P := P) hm) ?_
          refine nz_ne r (tgt := 79) dX9_order_69 (by decide) (by omega) (fun c770 => ?_) (fun c770 => ?_)
          · have h1n : 1 ≤ pN P := by omega
            refine bf_aload_n r.1 dX9_order_79 rfl ?_
            refine bf_iload_n r.1 dX9_order_80 rfl ?_
            refine bf_iload_n r.1 dX9_order_81 rfl ?_
            refine bf_iload_n r.1 dX9_order_82 rfl ?_
            refine bf_iload r.1 dX9_order_83 rfl ?_
            refine na_i2l r dX9_order_85 (by omega) ?_
            refine eq_l (bf_lN32 (show n0 < 2 ^ 31 by omega)).symm ?_
            refine cl_v r (y2 := mX9_cellsBarred) dX9_order_86 li_X9_122 mv_X9_cellsBarred rfl (by decide) [.int (nI k0), .int (nI l0), .int (i), .long ((nI n0).toInt64)] [] rfl (Nat.le_of_ble_eq_true rfl) rfl (c_X9_cellsBarred (by omega) vs ms hk0 (nI l0) i (nI n0)) ?_
            show J 89 [some (.ref 37), some (.int (nI k0)), some (.int (nI l0)), some (.int (i)), some (.int (nI n0)), some (.int (wh)), none, none] [.int (if bf_foc (sZ S k0) (sL S k0) (nI l0) i (nI n0) = 0 then nI 0 else -10 - nI (bf_foc (sZ S k0) (sL S k0) (nI l0) i (nI n0)))] (bf_MD (if bf_foc (sZ S k0) (sL S k0) (nI l0) i (nI n0) = 0 then D else bf_u D 37 0 (nI (bf_foc (sZ S k0) (sL S k0) (nI l0) i (nI n0)))))
            by_cases hfo : bf_foc (sZ S k0) (sL S k0) (nI l0) i (nI n0) = 0
            · rw [if_pos hfo, if_pos hfo]
              show J 89 [some (.ref 37), some (.int (nI k0)), some (.int (nI l0)), some (.int (i)), some (.int (nI n0)), some (.int (wh)), none, none] [.int (nI 0)] (bf_MD D)
              obtain ⟨z, hz, _, q0, _, q2⟩ := bf_foc_0 hfo
              have z60 := (vs k0 hk0).2 z hz
              obtain ⟨i0, hi31, rfl⟩ := nI_of (x := i) (Int32.not_lt.mpr ((bf_le0 i).mpr q0))
              have ti := nI_toInt hi31
              have ci := nI_clamp hi31
              have tn := nI_toInt (show n0 < 2 ^ 31 by omega)
              have q3 : i0 + n0 ≤ z := by omega
              refine bf_istore r.1 (L2 := [some (.ref 37), some (.int (nI k0)), some (.int (nI l0)), some (.int (nI i0)), some (.int (nI n0)), some (.int (wh)), some (.int (nI 0)), none]) dX9_order_89 rfl ?_
              refine bf_iload r.1 dX9_order_91 rfl ?_
              refine nz_ge r (tgt := 99) dX9_order_93 (by decide) (by decide) (fun c771 => ?_) (fun c771 => ?_)
              · refine bf_iconst r.1 (v := nI 0) dX9_order_99 rfl ?_
                refine bf_istore r.1 (L2 := [some (.ref 37), some (.int (nI k0)), some (.int (nI l0)), some (.int (nI i0)), some (.int (nI n0)), some (.int (wh)), some (.int (nI 0)), some (.int (nI 0))]) dX9_order_100 rfl ?_
                have loop : ∀ t : Nat, t ≤ n0 → (∀ j, j < t → 0 ≤ (cCl S k0 i0) j ∧ (cCl S k0 i0) j < nI (pX P)) → J 102 [some (.ref 37), some (.int (nI k0)), some (.int (nI l0)), some (.int (nI i0)), some (.int (nI n0)), some (.int (wh)), some (.int (nI 0)), some (.int (nI t))] [] (bf_MD D) := by
                  refine bf_down (fun t hle ih => ?_)
                  intro hj
                  refine bf_iload r.1 dX9_order_102 rfl ?_
                  refine bf_iload r.1 dX9_order_104 rfl ?_
                  refine nc_ge r (tgt := 143) dX9_order_106 (by decide) (by omega) (by omega) (fun c772 => ?_) (fun c772 => ?_)
                  · have hin : bf_inR (cCl S k0 i0) (pX P) n0 = true := inR_iff.mpr (fun j h9 => hj j (by omega))
                    have hcc : ∀ t, t < n0 → D 55 (60 * k0 + i0 + t) = nI (bf_cn (cCl S k0 i0) t) ∧ bf_cn (cCl S k0 i0) t < pX P := by
                      intro t ht
                      obtain ⟨y, hy, ey⟩ := rg_in (by omega) (hj t (by omega))
                      have ec : bf_cn (cCl S k0 i0) t = y := by unfold bf_cn; rw [ey]; exact nI_clamp (by omega)
                      rw [ec, Nat.add_assoc, ← ey]
                      exact ⟨(ms k0 hk0).2.2 z hz (i0 + t) (by omega), hy⟩
                    refine bf_aload_n r.1 dX9_order_143 rfl ?_
                    refine bf_aload_n r.1 dX9_order_144 rfl ?_
                    refine bf_bipush r.1 (v := nI 60) dX9_order_145 rfl ?_
                    refine bf_iload_n r.1 dX9_order_147 rfl ?_
                    refine na_mul r dX9_order_148  ?_
                    refine bf_iload_n r.1 dX9_order_149 rfl ?_
                    refine na_add r dX9_order_150  ?_
                    refine bf_iload r.1 dX9_order_151 rfl ?_
                    refine bf_iload r.1 dX9_order_153 rfl ?_
                    refine ce_v r (y2 := mX9_orderBy) dX9_order_155 li_X9_246 mv_X9_orderBy rfl (by decide) [.int (nI (60 * k0 + i0)), .int (nI n0), .int (wh)] [.ref 37] rfl (Nat.le_of_ble_eq_true rfl) rfl (e_X9_orderBy (by omega) hv hm (c := (cCl S k0 i0)) (fr := 60 * k0 + i0) (n := n0) (by omega) (by omega) hcc hoq) (fun res D773 hq773 => ?_)
                    obtain ⟨rfl, hf3773⟩ := hq773
                    show J 158 [some (.ref 37), some (.int (nI k0)), some (.int (nI l0)), some (.int (nI i0)), some (.int (nI n0)), some (.int (wh)), some (.int (nI 0)), some (.int (nI t))] [.int (oAns (xS (gF P (cCl S k0 i0)) n0) n0 wh), .ref 37] (bf_MD D773)
                    replace ma := mA_3 hn4 ma hf3773
                    obtain ⟨hm, ms, mr, c5, c6⟩ := id ma
                    refine cl_v r (y2 := mX9_refused) dX9_order_158 li_X9_117 mv_X9_refused rfl (by decide) [.int (oAns (xS (gF P (cCl S k0 i0)) n0) n0 wh)] [] rfl (Nat.le_of_ble_eq_true rfl) rfl (c_X9_refused (by omega) D773 _) ?_
                    show J 161 [some (.ref 37), some (.int (nI k0)), some (.int (nI l0)), some (.int (nI i0)), some (.int (nI n0)), some (.int (wh)), some (.int (nI 0)), some (.int (nI t))] [.int (oAns (xS (gF P (cCl S k0 i0)) n0) n0 wh)] (bf_MD (bf_u D773 37 0 (nI 0)))
                    have ho : ox_order P S Q F T (nI k0) (nI l0) (nI i0) (nI n0) wh = (oAns (xS (gF P (cCl S k0 i0)) n0) n0 wh, (P, S, Q, 0, T)) := by simp only [ox_order, wk, wl, wn, if_pos hoq, if_neg c770, if_pos hfo, ci, if_pos hin, on_n, on_s]
                    exact re_i r dX9_order_161 rfl rfl ⟨by rw [ho], by rw [ho]; exact (mA_0 hn4 0 ma), (fr_u (fun a q h => hf3773 a q (by omega) (by omega) (by omega)) (by decide) (by decide))⟩
                  · refine bf_aload_n r.1 dX9_order_109 rfl ?_
                    refine bf_aload_n r.1 dX9_order_110 rfl ?_
                    refine ig_ref r (b := 55) dX9_order_111 fl_X9_61 rfl (by decide) rfl ?_
                    refine bf_bipush r.1 (v := nI 60) dX9_order_114 rfl ?_
                    refine bf_iload_n r.1 dX9_order_116 rfl ?_
                    refine na_mul r dX9_order_117  ?_
                    refine bf_iload_n r.1 dX9_order_118 rfl ?_
                    refine na_add r dX9_order_119  ?_
                    refine bf_iload r.1 dX9_order_120 rfl ?_
                    refine na_add r dX9_order_122  ?_
                    refine ia_ld r (n := 240) (v := sC S k0 (i0 + t)) dX9_order_123 rfl (by decide) (by omega) ((congrArg (D 55) (Nat.add_assoc (60 * k0) i0 t)).trans ((ms k0 hk0).2.2 z hz (i0 + t) (by omega))) ?_
                    refine cl_v r (y2 := mX9_noNumber) dX9_order_124 li_X9_185 mv_X9_noNumber rfl (by decide) [.int (sC S k0 (i0 + t))] [] rfl (Nat.le_of_ble_eq_true rfl) rfl (c_X9_noNumber (by omega) hv hm _) ?_
                    show J 127 [some (.ref 37), some (.int (nI k0)), some (.int (nI l0)), some (.int (nI i0)), some (.int (nI n0)), some (.int (wh)), some (.int (nI 0)), some (.int (nI t))] [.int (if ¬ (0 ≤ sC S k0 (i0 + t) ∧ sC S k0 (i0 + t) < nI (pX P)) then 1 else 0)] (bf_MD D)
                    refine nb_eq r (tgt := 137) dX9_order_127 (by decide) (fun c774 => ?_) (fun c774 => ?_)
                    · refine na_inc r (v := t + 1) (L2 := [some (.ref 37), some (.int (nI k0)), some (.int (nI l0)), some (.int (nI i0)), some (.int (nI n0)), some (.int (wh)), some (.int (nI 0)), some (.int (nI (t + 1)))]) dX9_order_137 rfl (nI_add _ 1) rfl ?_
                      refine bf_goto r.1 (tgt := 102) dX9_order_140 (by decide) ?_
                      exact ih (by omega) (lt_s hj (Decidable.not_not.mp c774))
                    · have hin : ¬ bf_inR (cCl S k0 i0) (pX P) n0 = true := fun q => c774 (inR_iff.mp q t c772)
                      refine bf_aload_n r.1 dX9_order_130 rfl ?_
                      refine bf_bipush r.1 (v := -2) dX9_order_131 rfl ?_
                      refine cl_v r (y2 := mX9_refused) dX9_order_133 li_X9_117 mv_X9_refused rfl (by decide) [.int (-2)] [] rfl (Nat.le_of_ble_eq_true rfl) rfl (c_X9_refused (by omega) D _) ?_
                      show J 136 [some (.ref 37), some (.int (nI k0)), some (.int (nI l0)), some (.int (nI i0)), some (.int (nI n0)), some (.int (wh)), some (.int (nI 0)), some (.int (nI t))] [.int (-2)] (bf_MD (bf_u D 37 0 (nI 0)))
                      have ho : ox_order P S Q F T (nI k0) (nI l0) (nI i0) (nI n0) wh = (-2, (P, S, Q, 0, T)) := by simp only [ox_order, wk, wl, wn, if_pos hoq, if_neg c770, if_pos hfo, ci, if_neg hin, on_n, on_s]
                      exact re_i r dX9_order_136 rfl rfl ⟨by rw [ho], by rw [ho]; exact (mA_0 hn4 0 ma), (fr_u fr_0 (by decide) (by decide))⟩
                exact loop 0 (Nat.zero_le _) lt_0
              · exact absurd c771 (by decide)
            · rw [if_neg hfo, if_neg hfo]
              show J 89 [some (.ref 37), some (.int (nI k0)), some (.int (nI l0)), some (.int (i)), some (.int (nI n0)), some (.int (wh)), none, none] [.int (-10 - nI (bf_foc (sZ S k0) (sL S k0) (nI l0) i (nI n0)))] (bf_MD (bf_u D 37 0 (nI (bf_foc (sZ S k0) (sL S k0) (nI l0) i (nI n0)))))
              refine bf_istore r.1 (L2 := [some (.ref 37), some (.int (nI k0)), some (.int (nI l0)), some (.int (i)), some (.int (nI n0)), some (.int (wh)), some (.int (-10 - nI (bf_foc (sZ S k0) (sL S k0) (nI l0) i (nI n0)))), none]) dX9_order_89 rfl ?_
              refine bf_iload r.1 dX9_order_91 rfl ?_
              refine bf_if_ge r.1 (tgt := 99) dX9_order_93 (by decide) (fun c775 => ?_) (fun c775 => ?_)
              · exact absurd c775 (neg10 (bf_foc_le _ _ _ _ _))
              · refine bf_iload r.1 dX9_order_96 rfl ?_
                have ho : ox_order P S Q F T (nI k0) (nI l0) i (nI n0) wh = (-10 - nI (bf_foc (sZ S k0) (sL S k0) (nI l0) i (nI n0)), (P, S, Q, (bf_foc (sZ S k0) (sL S k0) (nI l0) i (nI n0)), T)) := by simp only [ox_order, wk, wl, wn, if_pos hoq, if_neg c770, if_neg hfo, on_n, on_s]
                exact re_i r dX9_order_98 rfl rfl ⟨by rw [ho], by rw [ho]; exact (mA_0 hn4 (bf_foc (sZ S k0) (sL S k0) (nI l0) i (nI n0)) ma), (fr_u fr_0 (by decide) (by decide))⟩
          · refine bf_aload_n r.1 dX9_order_72 rfl ?_
            refine bf_bipush r.1 (v := -3) dX9_order_73 rfl ?_
            refine cl_v r (y2 := mX9_refused) dX9_order_75 li_X9_117 mv_X9_refused rfl (by decide) [.int (-3)] [] rfl (Nat.le_of_ble_eq_true rfl) rfl (c_X9_refused (by omega) D _) ?_
            show J 78 [some (.ref 37), some (.int (nI k0)), some (.int (nI l0)), some (.int (i)), some (.int (nI n0)), some (.int (wh)), none, none] [.int (-3)] (bf_MD (bf_u D 37 0 (nI 0)))
            have ho : ox_order P S Q F T (nI k0) (nI l0) i (nI n0) wh = (-3, (P, S, Q, 0, T)) := by simp only [ox_order, wk, wl, wn, if_pos hoq, if_pos c770, on_n, on_s]
            exact re_i r dX9_order_78 rfl rfl ⟨by rw [ho], by rw [ho]; exact (mA_0 hn4 0 ma), (fr_u fr_0 (by decide) (by decide))⟩
        · refine bf_iload r.1 dX9_order_43 rfl ?_
          refine bf_i2l r.1 dX9_order_45 ?_
          refine bf_ldc2 r.1 dX9_order_46 lc_X9_227 ?_
          refine eq_l (v := lN 10) rfl ?_
          refine bf_ldc2 r.1 dX9_order_49 lc_X9_244 ?_
          refine eq_l (v := lN 15) rfl ?_
          refine cl_s r (y2 := mX9_in) dX9_order_52 li_X9_80 mv_X9_in [.long (wh.toInt64), .long (lN 10), .long (lN 15)] [] rfl (Nat.le_of_ble_eq_true rfl) rfl (c_X9_in (by omega) D _ _ _) ?_
          show J 55 [some (.ref 37), some (.int (nI k0)), some (.int (nI l0)), some (.int (i)), some (.int (nI n0)), some (.int (wh)), none, none] [.int (if lN 10 ≤ wh.toInt64 ∧ wh.toInt64 ≤ lN 15 then 1 else 0)] (bf_MD D)
          refine nb_ne r (tgt := 65) dX9_order_55 (by decide) (fun c776 => ?_) (fun c776 => ?_)
          · have hoq := oq_y c776
            refine bf_aload_n r.1 dX9_order_65 rfl ?_
            refine ig_int r (v := nI (pN P)) dX9_order_66 fl_X9_77 rfl (by decide) rfl (mP_n (P := P) hm) ?_
            refine nz_ne r (tgt := 79) dX9_order_69 (by decide) (by omega) (fun c777 => ?_) (fun c777 => ?_)
            · have h1n : 1 ≤ pN P := by omega
              refine bf_aload_n r.1 dX9_order_79 rfl ?_
              refine bf_iload_n r.1 dX9_order_80 rfl ?_
              refine bf_iload_n r.1 dX9_order_81 rfl ?_
              refine bf_iload_n r.1 dX9_order_82 rfl ?_
              refine bf_iload r.1 dX9_order_83 rfl ?_
              refine na_i2l r dX9_order_85 (by omega) ?_
              refine eq_l (bf_lN32 (show n0 < 2 ^ 31 by omega)).symm ?_
              refine cl_v r (y2 := mX9_cellsBarred) dX9_order_86 li_X9_122 mv_X9_cellsBarred rfl (by decide) [.int (nI k0), .int (nI l0), .int (i), .long ((nI n0).toInt64)] [] rfl (Nat.le_of_ble_eq_true rfl) rfl (c_X9_cellsBarred (by omega) vs ms hk0 (nI l0) i (nI n0)) ?_
              show J 89 [some (.ref 37), some (.int (nI k0)), some (.int (nI l0)), some (.int (i)), some (.int (nI n0)), some (.int (wh)), none, none] [.int (if bf_foc (sZ S k0) (sL S k0) (nI l0) i (nI n0) = 0 then nI 0 else -10 - nI (bf_foc (sZ S k0) (sL S k0) (nI l0) i (nI n0)))] (bf_MD (if bf_foc (sZ S k0) (sL S k0) (nI l0) i (nI n0) = 0 then D else bf_u D 37 0 (nI (bf_foc (sZ S k0) (sL S k0) (nI l0) i (nI n0)))))
              by_cases hfo : bf_foc (sZ S k0) (sL S k0) (nI l0) i (nI n0) = 0
              · rw [if_pos hfo, if_pos hfo]
                show J 89 [some (.ref 37), some (.int (nI k0)), some (.int (nI l0)), some (.int (i)), some (.int (nI n0)), some (.int (wh)), none, none] [.int (nI 0)] (bf_MD D)
                obtain ⟨z, hz, _, q0, _, q2⟩ := bf_foc_0 hfo
                have z60 := (vs k0 hk0).2 z hz
                obtain ⟨i0, hi31, rfl⟩ := nI_of (x := i) (Int32.not_lt.mpr ((bf_le0 i).mpr q0))
                have ti := nI_toInt hi31
                have ci := nI_clamp hi31
                have tn := nI_toInt (show n0 < 2 ^ 31 by omega)
                have q3 : i0 + n0 ≤ z := by omega
                refine bf_istore r.1 (L2 := [some (.ref 37), some (.int (nI k0)), some (.int (nI l0)), some (.int (nI i0)), some (.int (nI n0)), some (.int (wh)), some (.int (nI 0)), none]) dX9_order_89 rfl ?_
                refine bf_iload r.1 dX9_order_91 rfl ?_
                refine nz_ge r (tgt := 99) dX9_order_93 (by decide) (by decide) (fun c778 => ?_) (fun c778 => ?_)
                · refine bf_iconst r.1 (v := nI 0) dX9_order_99 rfl ?_
                  refine bf_istore r.1 (L2 := [some (.ref 37), some (.int (nI k0)), some (.int (nI l0)), some (.int (nI i0)), some (.int (nI n0)), some (.int (wh)), some (.int (nI 0)), some (.int (nI 0))]) dX9_order_100 rfl ?_
                  have loop : ∀ t : Nat, t ≤ n0 → (∀ j, j < t → 0 ≤ (cCl S k0 i0) j ∧ (cCl S k0 i0) j < nI (pX P)) → J 102 [some (.ref 37), some (.int (nI k0)), some (.int (nI l0)), some (.int (nI i0)), some (.int (nI n0)), some (.int (wh)), some (.int (nI 0)), some (.int (nI t))] [] (bf_MD D) := by
                    refine bf_down (fun t hle ih => ?_)
                    intro hj
                    refine bf_iload r.1 dX9_order_102 rfl ?_
                    refine bf_iload r.1 dX9_order_104 rfl ?_
                    refine nc_ge r (tgt := 143) dX9_order_106 (by decide) (by omega) (by omega) (fun c779 => ?_) (fun c779 => ?_)
                    · have hin : bf_inR (cCl S k0 i0) (pX P) n0 = true := inR_iff.mpr (fun j h9 => hj j (by omega))
                      have hcc : ∀ t, t < n0 → D 55 (60 * k0 + i0 + t) = nI (bf_cn (cCl S k0 i0) t) ∧ bf_cn (cCl S k0 i0) t < pX P := by
                        intro t ht
                        obtain ⟨y, hy, ey⟩ := rg_in (by omega) (hj t (by omega))
                        have ec : bf_cn (cCl S k0 i0) t = y := by unfold bf_cn; rw [ey]; exact nI_clamp (by omega)
                        rw [ec, Nat.add_assoc, ← ey]
                        exact ⟨(ms k0 hk0).2.2 z hz (i0 + t) (by omega), hy⟩
                      refine bf_aload_n r.1 dX9_order_143 rfl ?_
                      refine bf_aload_n r.1 dX9_order_144 rfl ?_
                      refine bf_bipush r.1 (v := nI 60) dX9_order_145 rfl ?_
                      refine bf_iload_n r.1 dX9_order_147 rfl ?_
                      refine na_mul r dX9_order_148  ?_
                      refine bf_iload_n r.1 dX9_order_149 rfl ?_
                      refine na_add r dX9_order_150  ?_
                      refine bf_iload r.1 dX9_order_151 rfl ?_
                      refine bf_iload r.1 dX9_order_153 rfl ?_
                      refine ce_v r (y2 := mX9_orderBy) dX9_order_155 li_X9_246 mv_X9_orderBy rfl (by decide) [.int (nI (60 * k0 + i0)), .int (nI n0), .int (wh)] [.ref 37] rfl (Nat.le_of_ble_eq_true rfl) rfl (e_X9_orderBy (by omega) hv hm (c := (cCl S k0 i0)) (fr := 60 * k0 + i0) (n := n0) (by omega) (by omega) hcc hoq) (fun res D780 hq780 => ?_)
                      obtain ⟨rfl, hf3780⟩ := hq780
                      show J 158 [some (.ref 37), some (.int (nI k0)), some (.int (nI l0)), some (.int (nI i0)), some (.int (nI n0)), some (.int (wh)), some (.int (nI 0)), some (.int (nI t))] [.int (oAns (xS (gF P (cCl S k0 i0)) n0) n0 wh), .ref 37] (bf_MD D780)
                      replace ma := mA_3 hn4 ma hf3780
                      obtain ⟨hm, ms, mr, c5, c6⟩ := id ma
                      refine cl_v r (y2 := mX9_refused) dX9_order_158 li_X9_117 mv_X9_refused rfl (by decide) [.int (oAns (xS (gF P (cCl S k0 i0)) n0) n0 wh)] [] rfl (Nat.le_of_ble_eq_true rfl) rfl (c_X9_refused (by omega) D780 _) ?_
                      show J 161 [some (.ref 37), some (.int (nI k0)), some (.int (nI l0)), some (.int (nI i0)), some (.int (nI n0)), some (.int (wh)), some (.int (nI 0)), some (.int (nI t))] [.int (oAns (xS (gF P (cCl S k0 i0)) n0) n0 wh)] (bf_MD (bf_u D780 37 0 (nI 0)))
                      have ho : ox_order P S Q F T (nI k0) (nI l0) (nI i0) (nI n0) wh = (oAns (xS (gF P (cCl S k0 i0)) n0) n0 wh, (P, S, Q, 0, T)) := by simp only [ox_order, wk, wl, wn, if_pos hoq, if_neg c777, if_pos hfo, ci, if_pos hin, on_n, on_s]
                      exact re_i r dX9_order_161 rfl rfl ⟨by rw [ho], by rw [ho]; exact (mA_0 hn4 0 ma), (fr_u (fun a q h => hf3780 a q (by omega) (by omega) (by omega)) (by decide) (by decide))⟩
                    · refine bf_aload_n r.1 dX9_order_109 rfl ?_
                      refine bf_aload_n r.1 dX9_order_110 rfl ?_
                      refine ig_ref r (b := 55) dX9_order_111 fl_X9_61 rfl (by decide) rfl ?_
                      refine bf_bipush r.1 (v := nI 60) dX9_order_114 rfl ?_
                      refine bf_iload_n r.1 dX9_order_116 rfl ?_
                      refine na_mul r dX9_order_117  ?_
                      refine bf_iload_n r.1 dX9_order_118 rfl ?_
                      refine na_add r dX9_order_119  ?_
                      refine bf_iload r.1 dX9_order_120 rfl ?_
                      refine na_add r dX9_order_122  ?_
                      refine ia_ld r (n := 240) (v := sC S k0 (i0 + t)) dX9_order_123 rfl (by decide) (by omega) ((congrArg (D 55) (Nat.add_assoc (60 * k0) i0 t)).trans ((ms k0 hk0).2.2 z hz (i0 + t) (by omega))) ?_
                      refine cl_v r (y2 := mX9_noNumber) dX9_order_124 li_X9_185 mv_X9_noNumber rfl (by decide) [.int (sC S k0 (i0 + t))] [] rfl (Nat.le_of_ble_eq_true rfl) rfl (c_X9_noNumber (by omega) hv hm _) ?_
                      show J 127 [some (.ref 37), some (.int (nI k0)), some (.int (nI l0)), some (.int (nI i0)), some (.int (nI n0)), some (.int (wh)), some (.int (nI 0)), some (.int (nI t))] [.int (if ¬ (0 ≤ sC S k0 (i0 + t) ∧ sC S k0 (i0 + t) < nI (pX P)) then 1 else 0)] (bf_MD D)
                      refine nb_eq r (tgt := 137) dX9_order_127 (by decide) (fun c781 => ?_) (fun c781 => ?_)
                      · refine na_inc r (v := t + 1) (L2 := [some (.ref 37), some (.int (nI k0)), some (.int (nI l0)), some (.int (nI i0)), some (.int (nI n0)), some (.int (wh)), some (.int (nI 0)), some (.int (nI (t + 1)))]) dX9_order_137 rfl (nI_add _ 1) rfl ?_
                        refine bf_goto r.1 (tgt := 102) dX9_order_140 (by decide) ?_
                        exact ih (by omega) (lt_s hj (Decidable.not_not.mp c781))
                      · have hin : ¬ bf_inR (cCl S k0 i0) (pX P) n0 = true := fun q => c781 (inR_iff.mp q t c779)
                        refine bf_aload_n r.1 dX9_order_130 rfl ?_
                        refine bf_bipush r.1 (v := -2) dX9_order_131 rfl ?_
                        refine cl_v r (y2 := mX9_refused) dX9_order_133 li_X9_117 mv_X9_refused rfl (by decide) [.int (-2)] [] rfl (Nat.le_of_ble_eq_true rfl) rfl (c_X9_refused (by omega) D _) ?_
                        show J 136 [some (.ref 37), some (.int (nI k0)), some (.int (nI l0)), some (.int (nI i0)), some (.int (nI n0)), some (.int (wh)), some (.int (nI 0)), some (.int (nI t))] [.int (-2)] (bf_MD (bf_u D 37 0 (nI 0)))
                        have ho : ox_order P S Q F T (nI k0) (nI l0) (nI i0) (nI n0) wh = (-2, (P, S, Q, 0, T)) := by simp only [ox_order, wk, wl, wn, if_pos hoq, if_neg c777, if_pos hfo, ci, if_neg hin, on_n, on_s]
                        exact re_i r dX9_order_136 rfl rfl ⟨by rw [ho], by rw [ho]; exact (mA_0 hn4 0 ma), (fr_u fr_0 (by decide) (by decide))⟩
                  exact loop 0 (Nat.zero_le _) lt_0
                · exact absurd c778 (by decide)
              · rw [if_neg hfo, if_neg hfo]
                show J 89 [some (.ref 37), some (.int (nI k0)), some (.int (nI l0)), some (.int (i)), some (.int (nI n0)), some (.int (wh)), none, none] [.int (-10 - nI (bf_foc (sZ S k0) (sL S k0) (nI l0) i (nI n0)))] (bf_MD (bf_u D 37 0 (nI (bf_foc (sZ S k0) (sL S k0) (nI l0) i (nI n0)))))
                refine bf_istore r.1 (L2 := [some (.ref 37), some (.int (nI k0)), some (.int (nI l0)), some (.int (i)), some (.int (nI n0)), some (.int (wh)), some (.int (-10 - nI (bf_foc (sZ S k0) (sL S k0) (nI l0) i (nI n0)))), none]) dX9_order_89 rfl ?_
                refine bf_iload r.1 dX9_order_91 rfl ?_
                refine bf_if_ge r.1 (tgt := 99) dX9_order_93 (by decide) (fun c782 => ?_) (fun c782 => ?_)
                · exact absurd c782 (neg10 (bf_foc_le _ _ _ _ _))
                · refine bf_iload r.1 dX9_order_96 rfl ?_
                  have ho : ox_order P S Q F T (nI k0) (nI l0) i (nI n0) wh = (-10 - nI (bf_foc (sZ S k0) (sL S k0) (nI l0) i (nI n0)), (P, S, Q, (bf_foc (sZ S k0) (sL S k0) (nI l0) i (nI n0)), T)) := by simp only [ox_order, wk, wl, wn, if_pos hoq, if_neg c777, if_neg hfo, on_n, on_s]
                  exact re_i r dX9_order_98 rfl rfl ⟨by rw [ho], by rw [ho]; exact (mA_0 hn4 (bf_foc (sZ S k0) (sL S k0) (nI l0) i (nI n0)) ma), (fr_u fr_0 (by decide) (by decide))⟩
            · refine bf_aload_n r.1 dX9_order_72 rfl ?_
              refine bf_bipush r.1 (v := -3) dX9_order_73 rfl ?_
              refine cl_v r (y2 := mX9_refused) dX9_order_75 li_X9_117 mv_X9_refused rfl (by decide) [.int (-3)] [] rfl (Nat.le_of_ble_eq_true rfl) rfl (c_X9_refused (by omega) D _) ?_
              show J 78 [some (.ref 37), some (.int (nI k0)), some (.int (nI l0)), some (.int (i)), some (.int (nI n0)), some (.int (wh)), none, none] [.int (-3)] (bf_MD (bf_u D 37 0 (nI 0)))
              have ho : ox_order P S Q F T (nI k0) (nI l0) i (nI n0) wh = (-3, (P, S, Q, 0, T)) := by simp only [ox_order, wk, wl, wn, if_pos hoq, if_pos c777, on_n, on_s]
              exact re_i r dX9_order_78 rfl rfl ⟨by rw [ho], by rw [ho]; exact (mA_0 hn4 0 ma), (fr_u fr_0 (by decide) (by decide))⟩
          · have hoq := oq_no c769 c776
            refine bf_aload_n r.1 dX9_order_58 rfl ?_
            refine bf_bipush r.1 (v := -2) dX9_order_59 rfl ?_
            refine cl_v r (y2 := mX9_refused) dX9_order_61 li_X9_117 mv_X9_refused rfl (by decide) [.int (-2)] [] rfl (Nat.le_of_ble_eq_true rfl) rfl (c_X9_refused (by omega) D _) ?_
            show J 64 [some (.ref 37), some (.int (nI k0)), some (.int (nI l0)), some (.int (i)), some (.int (nI n0)), some (.int (wh)), none, none] [.int (-2)] (bf_MD (bf_u D 37 0 (nI 0)))
            have ho : ox_order P S Q F T (nI k0) (nI l0) i (nI n0) wh = (-2, (P, S, Q, 0, T)) := by simp only [ox_order, wk, wl, wn, if_neg hoq, on_n, on_s]
            exact re_i r dX9_order_64 rfl rfl ⟨by rw [ho], by rw [ho]; exact (mA_0 hn4 0 ma), (fr_u fr_0 (by decide) (by decide))⟩
  · have wk := rg_n c766
    refine bf_aload_n r.1 dX9_order_7 rfl ?_
    refine bf_iconst r.1 (v := -1) dX9_order_8 rfl ?_
    refine cl_v r (y2 := mX9_refused) dX9_order_9 li_X9_117 mv_X9_refused rfl (by decide) [.int (-1)] [] rfl (Nat.le_of_ble_eq_true rfl) rfl (c_X9_refused (by omega) D _) ?_
    show J 12 [some (.ref 37), some (.int (k)), some (.int (l)), some (.int (i)), some (.int (n)), some (.int (wh)), none, none] [.int (-1)] (bf_MD (bf_u D 37 0 (nI 0)))
    have ho : ox_order P S Q F T k l i n wh = (-1, (P, S, Q, 0, T)) := by simp only [ox_order, wk, on_n, on_s]
    exact re_i r dX9_order_12 rfl rfl ⟨by rw [ho], by rw [ho]; exact (mA_0 hn4 0 ma), (fr_u fr_0 (by decide) (by decide))⟩
