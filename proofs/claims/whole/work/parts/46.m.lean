/-! the reference: places, life, panel -/
def frR (D D' : bf_D) (j : Nat) : Prop := ∀ a q, (a ≠ 37 ∨ (q ≠ 8 ∧ q ≠ 9)) → ((a = 42 ∨ a = 43 ∨ a = 44) → q ≠ j) → D' a q = D a q
section
variable {D D1 D2 : bf_D} {j : Nat} {v : Int32}
theorem fR0 : frR D D j := fun _ _ _ _ => rfl
theorem fR8 (h : frR D D1 j) : frR D (bf_u D1 37 8 v) j := fun a q h1 h2 => (bf_un (by omega)).trans (h a q h1 h2)
theorem fR9 (h : frR D D1 j) : frR D (bf_u D1 37 9 v) j := fun a q h1 h2 => (bf_un (by omega)).trans (h a q h1 h2)
theorem fRE (h : frR D D1 j) (h2 : frE D1 D2) : frR D D2 j := fun a q h3 h4 => (h2 a q (by omega)).trans (h a q h3 h4)
theorem fRa {b : Nat} (hb : b = 42 ∨ b = 43 ∨ b = 44) (h : frR D D1 j) : frR D (bf_u D1 b j v) j := fun a q h1 h2 => (bf_un (by
  by_cases e : a = b
  · exact Or.inr (h2 (by omega))
  · exact Or.inl e)).trans (h a q h1 h2)
end
theorem hlt_k {c : Nat → Int32} {n j : Nat} (hj : j < 4) (hst : stpR c n (4 + 8 * j)) (h1 : ¬ cEx c n (4 + 8 * j) = nI 102) (h2 : ¬ cEx c n (4 + 8 * j) = nI 109) (h3 : ¬ cEx c n (4 + 8 * j) = nI 116) : hltR c n (4 + 8 * j) := by
  refine ⟨hst, fun q => ?_⟩
  rcases (go_ki hj).mp q.2 with q2 | q2 | q2
  · exact h1 ((cEx_i (by decide)).mpr ⟨q.1, q2⟩)
  · exact h2 ((cEx_i (by decide)).mpr ⟨q.1, q2⟩)
  · exact h3 ((cEx_i (by decide)).mpr ⟨q.1, q2⟩)
theorem go35 {c : Nat → Int32} {t : Nat} (h : 35 ≤ t) : ¬ bf_go c t = true := by unfold bf_go; rw [if_pos h]; decide
theorem tK_v {c : Nat → Int32} {j : Nat} : (c (4 + 8 * j) = nI 102 → tK c j = 0) ∧ (c (4 + 8 * j) = nI 109 → tK c j = 1) ∧ (c (4 + 8 * j) = nI 116 → tK c j = 2) := by
  unfold tK bf_ko
  refine ⟨fun h => ?_, fun h => ?_, fun h => ?_⟩
  · rw [if_pos h]; rfl
  · rw [h, if_neg (by decide), if_pos rfl]; rfl
  · rw [h, if_neg (by decide), if_neg (by decide), if_pos rfl]; rfl
theorem e_X9_readsPlace {d : Nat} (hd : 4 ≤ d) {D : bf_D} {c : Nat → Int32} {fr n j : Nat} (hn : n ≤ 60) (hf : fr + n ≤ 240) (hcc : ∀ t, t < n → D 55 (fr + t) = c t) (hj : j ≤ 4) (ht : D 37 8 = nI (3 + 8 * j)) (h9 : D 37 9 = nI j) (hst : stpR c n (3 + 8 * j)) (hj4 : j = 4 → 3 + 8 * j < n) : bf_Ce d mX9_readsPlace [.ref 37, .int (nI fr), .int (nI n)] D (fun r D' => frR D D' j ∧ ((r = some (.int (nI 1)) ∧ j < 4 ∧ stpR c n (3 + 8 * (j + 1)) ∧ D' 37 8 = nI (3 + 8 * (j + 1)) ∧ D' 37 9 = nI (j + 1) ∧ D' 42 j = nI (tK c j) ∧ D' 43 j = nI (tD c j) ∧ D' 44 j = nI (tT c j)) ∨ (r = some (.int (nI 0)) ∧ ∃ t, hltR c n t ∧ 3 + 8 * j ≤ t ∧ t < 3 + 8 * (j + 1) ∧ D' 37 8 = nI t))) := by
  refine bf_Ce_of 3 hd mo_X9_readsPlace (Nat.le_of_ble_eq_true rfl) (fun e he J r => ?_)
  show J 0 [some (.ref 37), some (.int (nI fr)), some (.int (nI n)), none, none, none] [] (bf_MD D)
  refine bf_aload_n r.1 dX9_readsPlace_0 rfl ?_
  refine ig_int r (v := nI j) dX9_readsPlace_1 fl_X9_95 rfl (by decide) rfl h9 ?_
  refine bf_iconst r.1 (v := nI 4) dX9_readsPlace_4 rfl ?_
  refine nc_eq r (tgt := 19) dX9_readsPlace_5 (by decide) (by omega) (by decide) (fun c624 => ?_) (fun c624 => ?_)
  · refine bf_iconst r.1 (v := nI 0) dX9_readsPlace_19 rfl ?_
    exact re_i r dX9_readsPlace_20 rfl (by decide) ⟨fR0, Or.inr ⟨rfl, 3 + 8 * j, ⟨hst, fun q => go35 (by omega) q.2⟩, by omega, by omega, ht⟩⟩
  · have hj3 : j < 4 := by omega
    refine bf_aload_n r.1 dX9_readsPlace_8 rfl ?_
    refine bf_iload_n r.1 dX9_readsPlace_9 rfl ?_
    refine bf_iload_n r.1 dX9_readsPlace_10 rfl ?_
    refine cl_v r (y2 := mX9_codeAt) dX9_readsPlace_11 li_X9_87 mv_X9_codeAt rfl (by decide) [.int (nI fr), .int (nI n)] [] rfl (Nat.le_of_ble_eq_true rfl) rfl (c_X9_codeAt (by omega) (c := c) (fr := fr) (n := n) (t := 3 + 8 * j) hn hf hcc ht (by omega)) ?_
    show J 14 [some (.ref 37), some (.int (nI fr)), some (.int (nI n)), none, none, none] [.int (cEx c n (3 + 8 * j))] (bf_MD D)
    refine bf_bipush r.1 (v := nI 59) dX9_readsPlace_14 rfl ?_
    refine bf_icmp_eq r.1 (tgt := 21) dX9_readsPlace_16 (by decide) (fun c625 => ?_) (fun c625 => ?_)
    · have hg0 := (cEx_i (by decide)).mp c625
      have st1 : stpR c n (4 + 8 * j) := by rw [show 4 + 8 * j = 3 + 8 * j + 1 by omega]; exact stp_s hst ⟨hg0.1, (go_si hj3).mpr hg0.2⟩
      refine bf_aload_n r.1 dX9_readsPlace_21 rfl ?_
      refine bf_dup r.1 dX9_readsPlace_22 rfl ?_
      refine ig_int r (v := nI (3 + 8 * j)) dX9_readsPlace_23 fl_X9_84 rfl (by decide) rfl ht ?_
      refine bf_iconst r.1 (v := nI 1) dX9_readsPlace_26 rfl ?_
      refine na_add r dX9_readsPlace_27  ?_
      refine eq_i (v := nI (4 + 8 * j)) (congrArg nI (by omega)) ?_
      refine ip_int r dX9_readsPlace_28 fp_X9_84 rfl (by decide) rfl ?_
      refine bf_aload_n r.1 dX9_readsPlace_31 rfl ?_
      refine bf_iload_n r.1 dX9_readsPlace_32 rfl ?_
      refine bf_iload_n r.1 dX9_readsPlace_33 rfl ?_
      refine cl_v r (y2 := mX9_codeAt) dX9_readsPlace_34 li_X9_87 mv_X9_codeAt rfl (by decide) [.int (nI fr), .int (nI n)] [] rfl (Nat.le_of_ble_eq_true rfl) rfl (c_X9_codeAt (by omega) (c := c) (fr := fr) (n := n) (t := 4 + 8 * j) hn hf (fun t h => (bf_un (Or.inl (by decide))).trans (hcc t h)) bf_us (by omega)) ?_
      show J 37 [some (.ref 37), some (.int (nI fr)), some (.int (nI n)), none, none, none] [.int (cEx c n (4 + 8 * j))] (bf_MD (bf_u D 37 8 (nI (4 + 8 * j))))
      refine bf_istore_n r.1 (L2 := [some (.ref 37), some (.int (nI fr)), some (.int (nI n)), some (.int (cEx c n (4 + 8 * j))), none, none]) dX9_readsPlace_37 rfl ?_
      refine bf_iload_n r.1 dX9_readsPlace_38 rfl ?_
      refine bf_bipush r.1 (v := nI 102) dX9_readsPlace_39 rfl ?_
      refine bf_icmp_eq r.1 (tgt := 58) dX9_readsPlace_41 (by decide) (fun c626 => ?_) (fun c626 => ?_)
      · have hgk := (cEx_i (by decide)).mp c626
        have st2 : stpR c n (5 + 8 * j) := by rw [show 5 + 8 * j = 4 + 8 * j + 1 by omega]; exact stp_s st1 ⟨hgk.1, (go_ki hj3).mpr (Or.inl hgk.2)⟩
        have hk := tK_v.1 hgk.2
        refine bf_aload_n r.1 dX9_readsPlace_58 rfl ?_
        refine bf_dup r.1 dX9_readsPlace_59 rfl ?_
        refine ig_int r (v := nI (4 + 8 * j)) dX9_readsPlace_60 fl_X9_84 rfl (by decide) rfl bf_us ?_
        refine bf_iconst r.1 (v := nI 1) dX9_readsPlace_63 rfl ?_
        refine na_add r dX9_readsPlace_64  ?_
        refine eq_i (v := nI (5 + 8 * j)) (congrArg nI (by omega)) ?_
        refine ip_int r dX9_readsPlace_65 fp_X9_84 rfl (by decide) rfl ?_
        refine bf_aload_n r.1 dX9_readsPlace_68 rfl ?_
        refine bf_iload_n r.1 dX9_readsPlace_69 rfl ?_
        refine bf_iload_n r.1 dX9_readsPlace_70 rfl ?_
        refine ce_v r (y2 := mX9_barsRead) dX9_readsPlace_71 li_X9_98 mv_X9_barsRead rfl (by decide) [.int (nI fr), .int (nI n)] [] rfl (Nat.le_of_ble_eq_true rfl) rfl (e_X9_barsRead (by omega) (c := c) (fr := fr) (n := n) (j := j) (p := 5) hn hf (fun t h => (bf_un (Or.inl (by decide))).trans ((fun t h => (bf_un (Or.inl (by decide))).trans (hcc t h)) t h)) hj3 (by decide) bf_us st2) (fun res D627 hq627 => ?_)
        rcases hq627 with ⟨hfE627, ⟨v1, rfl, hv627, hb627, hs627, h8627⟩ | ⟨rfl, a627, ha627, hh627, h8627⟩⟩
        · show J 74 [some (.ref 37), some (.int (nI fr)), some (.int (nI n)), some (.int (cEx c n (4 + 8 * j))), none, none] [.int (nI v1)] (bf_MD D627)
          have st5 : stpR c n (8 + 8 * j) := by rw [show 8 + 8 * j = 5 + 8 * j + 3 by omega]; exact hs627
          have h85 : D627 37 8 = nI (8 + 8 * j) := h8627.trans (congrArg nI (by omega))
          have e1 : v1 = tD c j := by unfold tD; rw [hb627]; exact (nI_clamp hv627).symm
          refine bf_istore r.1 (L2 := [some (.ref 37), some (.int (nI fr)), some (.int (nI n)), some (.int (cEx c n (4 + 8 * j))), some (.int (nI v1)), none]) dX9_readsPlace_74 rfl ?_
          refine bf_iload r.1 dX9_readsPlace_76 rfl ?_
          refine nz_ge r (tgt := 86) dX9_readsPlace_78 (by decide) hv627 (fun c628 => ?_) (fun c628 => ?_)
          · refine bf_aload_n r.1 dX9_readsPlace_86 rfl ?_
            refine bf_iload_n r.1 dX9_readsPlace_87 rfl ?_
            refine bf_iload_n r.1 dX9_readsPlace_88 rfl ?_
            refine ce_v r (y2 := mX9_barsRead) dX9_readsPlace_89 li_X9_98 mv_X9_barsRead rfl (by decide) [.int (nI fr), .int (nI n)] [] rfl (Nat.le_of_ble_eq_true rfl) rfl (e_X9_barsRead (by omega) (c := c) (fr := fr) (n := n) (j := j) (p := 8) hn hf (fun t h => (hfE627 55 _ (Or.inl (by decide))).trans ((fun t h => (bf_un (Or.inl (by decide))).trans ((fun t h => (bf_un (Or.inl (by decide))).trans (hcc t h)) t h)) t h)) hj3 (by decide) h85 st5) (fun res D629 hq629 => ?_)
            rcases hq629 with ⟨hfE629, ⟨v2, rfl, hv629, hb629, hs629, h8629⟩ | ⟨rfl, a629, ha629, hh629, h8629⟩⟩
            · show J 92 [some (.ref 37), some (.int (nI fr)), some (.int (nI n)), some (.int (cEx c n (4 + 8 * j))), some (.int (nI v1)), none] [.int (nI v2)] (bf_MD D629)
              have e2 : v2 = tT c j := by unfold tT; rw [hb629]; exact (nI_clamp hv629).symm
              refine bf_istore r.1 (L2 := [some (.ref 37), some (.int (nI fr)), some (.int (nI n)), some (.int (cEx c n (4 + 8 * j))), some (.int (nI v1)), some (.int (nI v2))]) dX9_readsPlace_92 rfl ?_
              refine bf_iload r.1 dX9_readsPlace_94 rfl ?_
              refine nz_ge r (tgt := 101) dX9_readsPlace_96 (by decide) hv629 (fun c630 => ?_) (fun c630 => ?_)
              · refine bf_aload_n r.1 dX9_readsPlace_101 rfl ?_
                refine ig_ref r (b := 42) dX9_readsPlace_102 fl_X9_22 rfl (by decide) rfl ?_
                refine bf_aload_n r.1 dX9_readsPlace_105 rfl ?_
                refine ig_int r (v := nI j) dX9_readsPlace_106 fl_X9_95 rfl (by decide) rfl ((hfE629 37 9 (Or.inr (by decide))).trans ((hfE627 37 9 (Or.inr (by decide))).trans ((bf_un (by decide)).trans ((bf_un (by decide)).trans h9)))) ?_
                refine bf_iload_n r.1 dX9_readsPlace_109 rfl ?_
                refine bf_bipush r.1 (v := nI 102) dX9_readsPlace_110 rfl ?_
                refine bf_icmp_ne r.1 (tgt := 119) dX9_readsPlace_112 (by decide) (fun c631 => ?_) (fun c631 => ?_)
                · exact absurd c626 c631
                · refine bf_iconst r.1 (v := nI 0) dX9_readsPlace_115 rfl ?_
                  refine bf_goto r.1 (tgt := 130) dX9_readsPlace_116 (by decide) ?_
                  refine eq_i (v := nI (tK c j)) (congrArg nI hk.symm) ?_
                  refine ia_st r (n := 4) dX9_readsPlace_130 rfl (by decide) (by omega) ?_
                  refine bf_aload_n r.1 dX9_readsPlace_131 rfl ?_
                  refine ig_ref r (b := 43) dX9_readsPlace_132 fl_X9_25 rfl (by decide) rfl ?_
                  refine bf_aload_n r.1 dX9_readsPlace_135 rfl ?_
                  refine ig_int r (v := nI j) dX9_readsPlace_136 fl_X9_95 rfl (by decide) rfl ((bf_un (by omega)).trans ((hfE629 37 9 (Or.inr (by decide))).trans ((hfE627 37 9 (Or.inr (by decide))).trans ((bf_un (by decide)).trans ((bf_un (by decide)).trans h9))))) ?_
                  refine bf_iload r.1 dX9_readsPlace_139 rfl ?_
                  refine eq_i (v := nI (tD c j)) (congrArg nI e1) ?_
                  refine ia_st r (n := 4) dX9_readsPlace_141 rfl (by decide) (by omega) ?_
                  refine bf_aload_n r.1 dX9_readsPlace_142 rfl ?_
                  refine ig_ref r (b := 44) dX9_readsPlace_143 fl_X9_28 rfl (by decide) rfl ?_
                  refine bf_aload_n r.1 dX9_readsPlace_146 rfl ?_
                  refine ig_int r (v := nI j) dX9_readsPlace_147 fl_X9_95 rfl (by decide) rfl ((bf_un (by omega)).trans ((bf_un (by omega)).trans ((hfE629 37 9 (Or.inr (by decide))).trans ((hfE627 37 9 (Or.inr (by decide))).trans ((bf_un (by decide)).trans ((bf_un (by decide)).trans h9)))))) ?_
                  refine bf_iload r.1 dX9_readsPlace_150 rfl ?_
                  refine eq_i (v := nI (tT c j)) (congrArg nI e2) ?_
                  refine ia_st r (n := 4) dX9_readsPlace_152 rfl (by decide) (by omega) ?_
                  refine bf_aload_n r.1 dX9_readsPlace_153 rfl ?_
                  refine bf_dup r.1 dX9_readsPlace_154 rfl ?_
                  refine ig_int r (v := nI j) dX9_readsPlace_155 fl_X9_95 rfl (by decide) rfl ((bf_un (by omega)).trans ((bf_un (by omega)).trans ((bf_un (by omega)).trans ((hfE629 37 9 (Or.inr (by decide))).trans ((hfE627 37 9 (Or.inr (by decide))).trans ((bf_un (by decide)).trans ((bf_un (by decide)).trans h9))))))) ?_
                  refine bf_iconst r.1 (v := nI 1) dX9_readsPlace_158 rfl ?_
                  refine na_add r dX9_readsPlace_159  ?_
                  refine ip_int r dX9_readsPlace_160 fp_X9_95 rfl (by decide) rfl ?_
                  refine bf_iconst r.1 (v := nI 1) dX9_readsPlace_163 rfl ?_
                  exact re_i r dX9_readsPlace_164 rfl (by decide) ⟨(fR9 (fRa (by decide) (fRa (by decide) (fRa (by decide) (fRE (fRE (fR8 (fR8 fR0)) hfE627) hfE629))))), Or.inl ⟨rfl, hj3, by rw [show 3 + 8 * (j + 1) = 8 + 8 * j + 3 by omega]; exact hs629, ((bf_un (by decide)).trans ((bf_un (by omega)).trans ((bf_un (by omega)).trans ((bf_un (by omega)).trans h8629)))).trans (congrArg nI (by omega)), bf_us, ((bf_un (by omega)).trans ((bf_un (by omega)).trans ((bf_un (by omega)).trans bf_us))), ((bf_un (by omega)).trans ((bf_un (by omega)).trans bf_us)), ((bf_un (by omega)).trans bf_us)⟩⟩
              · exact absurd c630 (Nat.not_lt_zero _)
            · show J 92 [some (.ref 37), some (.int (nI fr)), some (.int (nI n)), some (.int (cEx c n (4 + 8 * j))), some (.int (nI v1)), none] [.int (-9)] (bf_MD D629)
              refine bf_istore r.1 (L2 := [some (.ref 37), some (.int (nI fr)), some (.int (nI n)), some (.int (cEx c n (4 + 8 * j))), some (.int (nI v1)), some (.int (-9))]) dX9_readsPlace_92 rfl ?_
              refine bf_iload r.1 dX9_readsPlace_94 rfl ?_
              refine bf_if_ge r.1 (tgt := 101) dX9_readsPlace_96 (by decide) (fun c632 => ?_) (fun c632 => ?_)
              · exact absurd c632 (by decide)
              · refine bf_iconst r.1 (v := nI 0) dX9_readsPlace_99 rfl ?_
                exact re_i r dX9_readsPlace_100 rfl (by decide) ⟨(fRE (fRE (fR8 (fR8 fR0)) hfE627) hfE629), Or.inr ⟨rfl, 8 + 8 * j + a629, hh629, by omega, by omega, h8629⟩⟩
          · exact absurd c628 (Nat.not_lt_zero _)
        · show J 74 [some (.ref 37), some (.int (nI fr)), some (.int (nI n)), some (.int (cEx c n (4 + 8 * j))), none, none] [.int (-9)] (bf_MD D627)
          refine bf_istore r.1 (L2 := [some (.ref 37), some (.int (nI fr)), some (.int (nI n)), some (.int (cEx c n (4 + 8 * j))), some (.int (-9)), none]) dX9_readsPlace_74 rfl ?_
          refine bf_iload r.1 dX9_readsPlace_76 rfl ?_
          refine bf_if_ge r.1 (tgt := 86) dX9_readsPlace_78 (by decide) (fun c633 => ?_) (fun c633 => ?_)
          · exact absurd c633 (by decide)
          · refine bf_bipush r.1 (v := -9) dX9_readsPlace_81 rfl ?_
            refine bf_goto r.1 (tgt := 92) dX9_readsPlace_83 (by decide) ?_
            refine bf_istore r.1 (L2 := [some (.ref 37), some (.int (nI fr)), some (.int (nI n)), some (.int (cEx c n (4 + 8 * j))), some (.int (-9)), some (.int (-9))]) dX9_readsPlace_92 rfl ?_
            refine bf_iload r.1 dX9_readsPlace_94 rfl ?_
            refine bf_if_ge r.1 (tgt := 101) dX9_readsPlace_96 (by decide) (fun c634 => ?_) (fun c634 => ?_)
            · exact absurd c634 (by decide)
            · refine bf_iconst r.1 (v := nI 0) dX9_readsPlace_99 rfl ?_
              exact re_i r dX9_readsPlace_100 rfl (by decide) ⟨(fRE (fR8 (fR8 fR0)) hfE627), Or.inr ⟨rfl, 5 + 8 * j + a627, hh627, by omega, by omega, h8627⟩⟩
      · refine bf_iload_n r.1 dX9_readsPlace_44 rfl ?_
        refine bf_bipush r.1 (v := nI 109) dX9_readsPlace_45 rfl ?_
        refine bf_icmp_eq r.1 (tgt := 58) dX9_readsPlace_47 (by decide) (fun c635 => ?_) (fun c635 => ?_)
        · have hgk := (cEx_i (by decide)).mp c635
          have st2 : stpR c n (5 + 8 * j) := by rw [show 5 + 8 * j = 4 + 8 * j + 1 by omega]; exact stp_s st1 ⟨hgk.1, (go_ki hj3).mpr (Or.inr (Or.inl hgk.2))⟩
          have hk := tK_v.2.1 hgk.2
          refine bf_aload_n r.1 dX9_readsPlace_58 rfl ?_
          refine bf_dup r.1 dX9_readsPlace_59 rfl ?_
          refine ig_int r (v := nI (4 + 8 * j)) dX9_readsPlace_60 fl_X9_84 rfl (by decide) rfl bf_us ?_
          refine bf_iconst r.1 (v := nI 1) dX9_readsPlace_63 rfl ?_
          refine na_add r dX9_readsPlace_64  ?_
          refine eq_i (v := nI (5 + 8 * j)) (congrArg nI (by omega)) ?_
          refine ip_int r dX9_readsPlace_65 fp_X9_84 rfl (by decide) rfl ?_
          refine bf_aload_n r.1 dX9_readsPlace_68 rfl ?_
          refine bf_iload_n r.1 dX9_readsPlace_69 rfl ?_
          refine bf_iload_n r.1 dX9_readsPlace_70 rfl ?_
          refine ce_v r (y2 := mX9_barsRead) dX9_readsPlace_71 li_X9_98 mv_X9_barsRead rfl (by decide) [.int (nI fr), .int (nI n)] [] rfl (Nat.le_of_ble_eq_true rfl) rfl (e_X9_barsRead (by omega) (c := c) (fr := fr) (n := n) (j := j) (p := 5) hn hf (fun t h => (bf_un (Or.inl (by decide))).trans ((fun t h => (bf_un (Or.inl (by decide))).trans (hcc t h)) t h)) hj3 (by decide) bf_us st2) (fun res D636 hq636 => ?_)
          rcases hq636 with ⟨hfE636, ⟨v1, rfl, hv636, hb636, hs636, h8636⟩ | ⟨rfl, a636, ha636, hh636, h8636⟩⟩
          · show J 74 [some (.ref 37), some (.int (nI fr)), some (.int (nI n)), some (.int (cEx c n (4 + 8 * j))), none, none] [.int (nI v1)] (bf_MD D636)
            have st5 : stpR c n (8 + 8 * j) := by rw [show 8 + 8 * j = 5 + 8 * j + 3 by omega]; exact hs636
            have h85 : D636 37 8 = nI (8 + 8 * j) := h8636.trans (congrArg nI (by omega))
            have e1 : v1 = tD c j := by unfold tD; rw [hb636]; exact (nI_clamp hv636).symm
            refine bf_istore r.1 (L2 := [some (.ref 37), some (.int (nI fr)), some (.int (nI n)), some (.int (cEx c n (4 + 8 * j))), some (.int (nI v1)), none]) dX9_readsPlace_74 rfl ?_
            refine bf_iload r.1 dX9_readsPlace_76 rfl ?_
            refine nz_ge r (tgt := 86) dX9_readsPlace_78 (by decide) hv636 (fun c637 => ?_) (fun c637 => ?_)
            · refine bf_aload_n r.1 dX9_readsPlace_86 rfl ?_
              refine bf_iload_n r.1 dX9_readsPlace_87 rfl ?_
              refine bf_iload_n r.1 dX9_readsPlace_88 rfl ?_
              refine ce_v r (y2 := mX9_barsRead) dX9_readsPlace_89 li_X9_98 mv_X9_barsRead rfl (by decide) [.int (nI fr), .int (nI n)] [] rfl (Nat.le_of_ble_eq_true rfl) rfl (e_X9_barsRead (by omega) (c := c) (fr := fr) (n := n) (j := j) (p := 8) hn hf (fun t h => (hfE636 55 _ (Or.inl (by decide))).trans ((fun t h => (bf_un (Or.inl (by decide))).trans ((fun t h => (bf_un (Or.inl (by decide))).trans (hcc t h)) t h)) t h)) hj3 (by decide) h85 st5) (fun res D638 hq638 => ?_)
              rcases hq638 with ⟨hfE638, ⟨v2, rfl, hv638, hb638, hs638, h8638⟩ | ⟨rfl, a638, ha638, hh638, h8638⟩⟩
              · show J 92 [some (.ref 37), some (.int (nI fr)), some (.int (nI n)), some (.int (cEx c n (4 + 8 * j))), some (.int (nI v1)), none] [.int (nI v2)] (bf_MD D638)
                have e2 : v2 = tT c j := by unfold tT; rw [hb638]; exact (nI_clamp hv638).symm
                refine bf_istore r.1 (L2 := [some (.ref 37), some (.int (nI fr)), some (.int (nI n)), some (.int (cEx c n (4 + 8 * j))), some (.int (nI v1)), some (.int (nI v2))]) dX9_readsPlace_92 rfl ?_
                refine bf_iload r.1 dX9_readsPlace_94 rfl ?_
                refine nz_ge r (tgt := 101) dX9_readsPlace_96 (by decide) hv638 (fun c639 => ?_) (fun c639 => ?_)
                · refine bf_aload_n r.1 dX9_readsPlace_101 rfl ?_
                  refine ig_ref r (b := 42) dX9_readsPlace_102 fl_X9_22 rfl (by decide) rfl ?_
                  refine bf_aload_n r.1 dX9_readsPlace_105 rfl ?_
                  refine ig_int r (v := nI j) dX9_readsPlace_106 fl_X9_95 rfl (by decide) rfl ((hfE638 37 9 (Or.inr (by decide))).trans ((hfE636 37 9 (Or.inr (by decide))).trans ((bf_un (by decide)).trans ((bf_un (by decide)).trans h9)))) ?_
                  refine bf_iload_n r.1 dX9_readsPlace_109 rfl ?_
                  refine bf_bipush r.1 (v := nI 102) dX9_readsPlace_110 rfl ?_
                  refine bf_icmp_ne r.1 (tgt := 119) dX9_readsPlace_112 (by decide) (fun c640 => ?_) (fun c640 => ?_)
                  · refine bf_iload_n r.1 dX9_readsPlace_119 rfl ?_
                    refine bf_bipush r.1 (v := nI 109) dX9_readsPlace_120 rfl ?_
                    refine bf_icmp_ne r.1 (tgt := 129) dX9_readsPlace_122 (by decide) (fun c641 => ?_) (fun c641 => ?_)
                    · exact absurd c635 c641
                    · refine bf_iconst r.1 (v := nI 1) dX9_readsPlace_125 rfl ?_
                      refine bf_goto r.1 (tgt := 130) dX9_readsPlace_126 (by decide) ?_
                      refine eq_i (v := nI (tK c j)) (congrArg nI hk.symm) ?_
                      refine ia_st r (n := 4) dX9_readsPlace_130 rfl (by decide) (by omega) ?_
                      refine bf_aload_n r.1 dX9_readsPlace_131 rfl ?_
                      refine ig_ref r (b := 43) dX9_readsPlace_132 fl_X9_25 rfl (by decide) rfl ?_
                      refine bf_aload_n r.1 dX9_readsPlace_135 rfl ?_
                      refine ig_int r (v := nI j) dX9_readsPlace_136 fl_X9_95 rfl (by decide) rfl ((bf_un (by omega)).trans ((hfE638 37 9 (Or.inr (by decide))).trans ((hfE636 37 9 (Or.inr (by decide))).trans ((bf_un (by decide)).trans ((bf_un (by decide)).trans h9))))) ?_
                      refine bf_iload r.1 dX9_readsPlace_139 rfl ?_
                      refine eq_i (v := nI (tD c j)) (congrArg nI e1) ?_
                      refine ia_st r (n := 4) dX9_readsPlace_141 rfl (by decide) (by omega) ?_
                      refine bf_aload_n r.1 dX9_readsPlace_142 rfl ?_
                      refine ig_ref r (b := 44) dX9_readsPlace_143 fl_X9_28 rfl (by decide) rfl ?_
                      refine bf_aload_n r.1 dX9_readsPlace_146 rfl ?_
                      refine ig_int r (v := nI j) dX9_readsPlace_147 fl_X9_95 rfl (by decide) rfl ((bf_un (by omega)).trans ((bf_un (by omega)).trans ((hfE638 37 9 (Or.inr (by decide))).trans ((hfE636 37 9 (Or.inr (by decide))).trans ((bf_un (by decide)).trans ((bf_un (by decide)).trans h9)))))) ?_
                      refine bf_iload r.1 dX9_readsPlace_150 rfl ?_
                      refine eq_i (v := nI (tT c j)) (congrArg nI e2) ?_
                      refine ia_st r (n := 4) dX9_readsPlace_152 rfl (by decide) (by omega) ?_
                      refine bf_aload_n r.1 dX9_readsPlace_153 rfl ?_
                      refine bf_dup r.1 dX9_readsPlace_154 rfl ?_
                      refine ig_int r (v := nI j) dX9_readsPlace_155 fl_X9_95 rfl (by decide) rfl ((bf_un (by omega)).trans ((bf_un (by omega)).trans ((bf_un (by omega)).trans ((hfE638 37 9 (Or.inr (by decide))).trans ((hfE636 37 9 (Or.inr (by decide))).trans ((bf_un (by decide)).trans ((bf_un (by decide)).trans h9))))))) ?_
                      refine bf_iconst r.1 (v := nI 1) dX9_readsPlace_158 rfl ?_
                      refine na_add r dX9_readsPlace_159  ?_
                      refine ip_int r dX9_readsPlace_160 fp_X9_95 rfl (by decide) rfl ?_
                      refine bf_iconst r.1 (v := nI 1) dX9_readsPlace_163 rfl ?_
                      exact re_i r dX9_readsPlace_164 rfl (by decide) ⟨(fR9 (fRa (by decide) (fRa (by decide) (fRa (by decide) (fRE (fRE (fR8 (fR8 fR0)) hfE636) hfE638))))), Or.inl ⟨rfl, hj3, by rw [show 3 + 8 * (j + 1) = 8 + 8 * j + 3 by omega]; exact hs638, ((bf_un (by decide)).trans ((bf_un (by omega)).trans ((bf_un (by omega)).trans ((bf_un (by omega)).trans h8638)))).trans (congrArg nI (by omega)), bf_us, ((bf_un (by omega)).trans ((bf_un (by omega)).trans ((bf_un (by omega)).trans bf_us))), ((bf_un (by omega)).trans ((bf_un (by omega)).trans bf_us)), ((bf_un (by omega)).trans bf_us)⟩⟩
                  · exact absurd c640 c626
                · exact absurd c639 (Nat.not_lt_zero _)
              · show J 92 [some (.ref 37), some (.int (nI fr)), some (.int (nI n)), some (.int (cEx c n (4 + 8 * j))), some (.int (nI v1)), none] [.int (-9)] (bf_MD D638)
                refine bf_istore r.1 (L2 := [some (.ref 37), some (.int (nI fr)), some (.int (nI n)), some (.int (cEx c n (4 + 8 * j))), some (.int (nI v1)), some (.int (-9))]) dX9_readsPlace_92 rfl ?_
                refine bf_iload r.1 dX9_readsPlace_94 rfl ?_
                refine bf_if_ge r.1 (tgt := 101) dX9_readsPlace_96 (by decide) (fun c642 => ?_) (fun c642 => ?_)
                · exact absurd c642 (by decide)
                · refine bf_iconst r.1 (v := nI 0) dX9_readsPlace_99 rfl ?_
                  exact re_i r dX9_readsPlace_100 rfl (by decide) ⟨(fRE (fRE (fR8 (fR8 fR0)) hfE636) hfE638), Or.inr ⟨rfl, 8 + 8 * j + a638, hh638, by omega, by omega, h8638⟩⟩
            · exact absurd c637 (Nat.not_lt_zero _)
          · show J 74 [some (.ref 37), some (.int (nI fr)), some (.int (nI n)), some (.int (cEx c n (4 + 8 * j))), none, none] [.int (-9)] (bf_MD D636)
            refine bf_istore r.1 (L2 := [some (.ref 37), some (.int (nI fr)), some (.int (nI n)), some (.int (cEx c n (4 + 8 * j))), some (.int (-9)), none]) dX9_readsPlace_74 rfl ?_
            refine bf_iload r.1 dX9_readsPlace_76 rfl ?_
            refine bf_if_ge r.1 (tgt := 86) dX9_readsPlace_78 (by decide) (fun c643 => ?_) (fun c643 => ?_)
            · exact absurd c643 (by decide)
            · refine bf_bipush r.1 (v := -9) dX9_readsPlace_81 rfl ?_
              refine bf_goto r.1 (tgt := 92) dX9_readsPlace_83 (by decide) ?_
              refine bf_istore r.1 (L2 := [some (.ref 37), some (.int (nI fr)), some (.int (nI n)), some (.int (cEx c n (4 + 8 * j))), some (.int (-9)), some (.int (-9))]) dX9_readsPlace_92 rfl ?_
              refine bf_iload r.1 dX9_readsPlace_94 rfl ?_
              refine bf_if_ge r.1 (tgt := 101) dX9_readsPlace_96 (by decide) (fun c644 => ?_) (fun c644 => ?_)
              · exact absurd c644 (by decide)
              · refine bf_iconst r.1 (v := nI 0) dX9_readsPlace_99 rfl ?_
                exact re_i r dX9_readsPlace_100 rfl (by decide) ⟨(fRE (fR8 (fR8 fR0)) hfE636), Or.inr ⟨rfl, 5 + 8 * j + a636, hh636, by omega, by omega, h8636⟩⟩
        · refine bf_iload_n r.1 dX9_readsPlace_50 rfl ?_
          refine bf_bipush r.1 (v := nI 116) dX9_readsPlace_51 rfl ?_
          refine bf_icmp_eq r.1 (tgt := 58) dX9_readsPlace_53 (by decide) (fun c645 => ?_) (fun c645 => ?_)
          · have hgk := (cEx_i (by decide)).mp c645
            have st2 : stpR c n (5 + 8 * j) := by rw [show 5 + 8 * j = 4 + 8 * j + 1 by omega]; exact stp_s st1 ⟨hgk.1, (go_ki hj3).mpr (Or.inr (Or.inr hgk.2))⟩
            have hk := tK_v.2.2 hgk.2
            refine bf_aload_n r.1 dX9_readsPlace_58 rfl ?_
            refine bf_dup r.1 dX9_readsPlace_59 rfl ?_
            refine ig_int r (v := nI (4 + 8 * j)) dX9_readsPlace_60 fl_X9_84 rfl (by decide) rfl bf_us ?_
            refine bf_iconst r.1 (v := nI 1) dX9_readsPlace_63 rfl ?_
            refine na_add r dX9_readsPlace_64  ?_
            refine eq_i (v := nI (5 + 8 * j)) (congrArg nI (by omega)) ?_
            refine ip_int r dX9_readsPlace_65 fp_X9_84 rfl (by decide) rfl ?_
            refine bf_aload_n r.1 dX9_readsPlace_68 rfl ?_
            refine bf_iload_n r.1 dX9_readsPlace_69 rfl ?_
            refine bf_iload_n r.1 dX9_readsPlace_70 rfl ?_
            refine ce_v r (y2 := mX9_barsRead) dX9_readsPlace_71 li_X9_98 mv_X9_barsRead rfl (by decide) [.int (nI fr), .int (nI n)] [] rfl (Nat.le_of_ble_eq_true rfl) rfl (e_X9_barsRead (by omega) (c := c) (fr := fr) (n := n) (j := j) (p := 5) hn hf (fun t h => (bf_un (Or.inl (by decide))).trans ((fun t h => (bf_un (Or.inl (by decide))).trans (hcc t h)) t h)) hj3 (by decide) bf_us st2) (fun res D646 hq646 => ?_)
            rcases hq646 with ⟨hfE646, ⟨v1, rfl, hv646, hb646, hs646, h8646⟩ | ⟨rfl, a646, ha646, hh646, h8646⟩⟩
            · show J 74 [some (.ref 37), some (.int (nI fr)), some (.int (nI n)), some (.int (cEx c n (4 + 8 * j))), none, none] [.int (nI v1)] (bf_MD D646)
              have st5 : stpR c n (8 + 8 * j) := by rw [show 8 + 8 * j = 5 + 8 * j + 3 by omega]; exact hs646
              have h85 : D646 37 8 = nI (8 + 8 * j) := h8646.trans (congrArg nI (by omega))
              have e1 : v1 = tD c j := by unfold tD; rw [hb646]; exact (nI_clamp hv646).symm
              refine bf_istore r.1 (L2 := [some (.ref 37), some (.int (nI fr)), some (.int (nI n)), some (.int (cEx c n (4 + 8 * j))), some (.int (nI v1)), none]) dX9_readsPlace_74 rfl ?_
              refine bf_iload r.1 dX9_readsPlace_76 rfl ?_
              refine nz_ge r (tgt := 86) dX9_readsPlace_78 (by decide) hv646 (fun c647 => ?_) (fun c647 => ?_)
              · refine bf_aload_n r.1 dX9_readsPlace_86 rfl ?_
                refine bf_iload_n r.1 dX9_readsPlace_87 rfl ?_
                refine bf_iload_n r.1 dX9_readsPlace_88 rfl ?_
                refine ce_v r (y2 := mX9_barsRead) dX9_readsPlace_89 li_X9_98 mv_X9_barsRead rfl (by decide) [.int (nI fr), .int (nI n)] [] rfl (Nat.le_of_ble_eq_true rfl) rfl (e_X9_barsRead (by omega) (c := c) (fr := fr) (n := n) (j := j) (p := 8) hn hf (fun t h => (hfE646 55 _ (Or.inl (by decide))).trans ((fun t h => (bf_un (Or.inl (by decide))).trans ((fun t h => (bf_un (Or.inl (by decide))).trans (hcc t h)) t h)) t h)) hj3 (by decide) h85 st5) (fun res D648 hq648 => ?_)
                rcases hq648 with ⟨hfE648, ⟨v2, rfl, hv648, hb648, hs648, h8648⟩ | ⟨rfl, a648, ha648, hh648, h8648⟩⟩
                · show J 92 [some (.ref 37), some (.int (nI fr)), some (.int (nI n)), some (.int (cEx c n (4 + 8 * j))), some (.int (nI v1)), none] [.int (nI v2)] (bf_MD D648)
                  have e2 : v2 = tT c j := by unfold tT; rw [hb648]; exact (nI_clamp hv648).symm
                  refine bf_istore r.1 (L2 := [some (.ref 37), some (.int (nI fr)), some (.int (nI n)), some (.int (cEx c n (4 + 8 * j))), some (.int (nI v1)), some (.int (nI v2))]) dX9_readsPlace_92 rfl ?_
                  refine bf_iload r.1 dX9_readsPlace_94 rfl ?_
                  refine nz_ge r (tgt := 101) dX9_readsPlace_96 (by decide) hv648 (fun c649 => ?_) (fun c649 => ?_)
                  · refine bf_aload_n r.1 dX9_readsPlace_101 rfl ?_
                    refine ig_ref r (b := 42) dX9_readsPlace_102 fl_X9_22 rfl (by decide) rfl ?_
                    refine bf_aload_n r.1 dX9_readsPlace_105 rfl ?_
                    refine ig_int r (v := nI j) dX9_readsPlace_106 fl_X9_95 rfl (by decide) rfl ((hfE648 37 9 (Or.inr (by decide))).trans ((hfE646 37 9 (Or.inr (by decide))).trans ((bf_un (by decide)).trans ((bf_un (by decide)).trans h9)))) ?_
                    refine bf_iload_n r.1 dX9_readsPlace_109 rfl ?_
                    refine bf_bipush r.1 (v := nI 102) dX9_readsPlace_110 rfl ?_
                    refine bf_icmp_ne r.1 (tgt := 119) dX9_readsPlace_112 (by decide) (fun c650 => ?_) (fun c650 => ?_)
                    · refine bf_iload_n r.1 dX9_readsPlace_119 rfl ?_
                      refine bf_bipush r.1 (v := nI 109) dX9_readsPlace_120 rfl ?_
                      refine bf_icmp_ne r.1 (tgt := 129) dX9_readsPlace_122 (by decide) (fun c651 => ?_) (fun c651 => ?_)
                      · refine bf_iconst r.1 (v := nI 2) dX9_readsPlace_129 rfl ?_
                        refine eq_i (v := nI (tK c j)) (congrArg nI hk.symm) ?_
                        refine ia_st r (n := 4) dX9_readsPlace_130 rfl (by decide) (by omega) ?_
                        refine bf_aload_n r.1 dX9_readsPlace_131 rfl ?_
                        refine ig_ref r (b := 43) dX9_readsPlace_132 fl_X9_25 rfl (by decide) rfl ?_
                        refine bf_aload_n r.1 dX9_readsPlace_135 rfl ?_
                        refine ig_int r (v := nI j) dX9_readsPlace_136 fl_X9_95 rfl (by decide) rfl ((bf_un (by omega)).trans ((hfE648 37 9 (Or.inr (by decide))).trans ((hfE646 37 9 (Or.inr (by decide))).trans ((bf_un (by decide)).trans ((bf_un (by decide)).trans h9))))) ?_
                        refine bf_iload r.1 dX9_readsPlace_139 rfl ?_
                        refine eq_i (v := nI (tD c j)) (congrArg nI e1) ?_
                        refine ia_st r (n := 4) dX9_readsPlace_141 rfl (by decide) (by omega) ?_
                        refine bf_aload_n r.1 dX9_readsPlace_142 rfl ?_
                        refine ig_ref r (b := 44) dX9_readsPlace_143 fl_X9_28 rfl (by decide) rfl ?_
                        refine bf_aload_n r.1 dX9_readsPlace_146 rfl ?_
                        refine ig_int r (v := nI j) dX9_readsPlace_147 fl_X9_95 rfl (by decide) rfl ((bf_un (by omega)).trans ((bf_un (by omega)).trans ((hfE648 37 9 (Or.inr (by decide))).trans ((hfE646 37 9 (Or.inr (by decide))).trans ((bf_un (by decide)).trans ((bf_un (by decide)).trans h9)))))) ?_
                        refine bf_iload r.1 dX9_readsPlace_150 rfl ?_
                        refine eq_i (v := nI (tT c j)) (congrArg nI e2) ?_
                        refine ia_st r (n := 4) dX9_readsPlace_152 rfl (by decide) (by omega) ?_
                        refine bf_aload_n r.1 dX9_readsPlace_153 rfl ?_
                        refine bf_dup r.1 dX9_readsPlace_154 rfl ?_
                        refine ig_int r (v := nI j) dX9_readsPlace_155 fl_X9_95 rfl (by decide) rfl ((bf_un (by omega)).trans ((bf_un (by omega)).trans ((bf_un (by omega)).trans ((hfE648 37 9 (Or.inr (by decide))).trans ((hfE646 37 9 (Or.inr (by decide))).trans ((bf_un (by decide)).trans ((bf_un (by decide)).trans h9))))))) ?_
                        refine bf_iconst r.1 (v := nI 1) dX9_readsPlace_158 rfl ?_
                        refine na_add r dX9_readsPlace_159  ?_
                        refine ip_int r dX9_readsPlace_160 fp_X9_95 rfl (by decide) rfl ?_
                        refine bf_iconst r.1 (v := nI 1) dX9_readsPlace_163 rfl ?_
                        exact re_i r dX9_readsPlace_164 rfl (by decide) ⟨(fR9 (fRa (by decide) (fRa (by decide) (fRa (by decide) (fRE (fRE (fR8 (fR8 fR0)) hfE646) hfE648))))), Or.inl ⟨rfl, hj3, by rw [show 3 + 8 * (j + 1) = 8 + 8 * j + 3 by omega]; exact hs648, ((bf_un (by decide)).trans ((bf_un (by omega)).trans ((bf_un (by omega)).trans ((bf_un (by omega)).trans h8648)))).trans (congrArg nI (by omega)), bf_us, ((bf_un (by omega)).trans ((bf_un (by omega)).trans ((bf_un (by omega)).trans bf_us))), ((bf_un (by omega)).trans ((bf_un (by omega)).trans bf_us)), ((bf_un (by omega)).trans bf_us)⟩⟩
                      · exact absurd c651 c635
                    · exact absurd c650 c626
                  · exact absurd c649 (Nat.not_lt_zero _)
                · show J 92 [some (.ref 37), some (.int (nI fr)), some (.int (nI n)), some (.int (cEx c n (4 + 8 * j))), some (.int (nI v1)), none] [.int (-9)] (bf_MD D648)
                  refine bf_istore r.1 (L2 := [some (.ref 37), some (.int (nI fr)), some (.int (nI n)), some (.int (cEx c n (4 + 8 * j))), some (.int (nI v1)), some (.int (-9))]) dX9_readsPlace_92 rfl ?_
                  refine bf_iload r.1 dX9_readsPlace_94 rfl ?_
                  refine bf_if_ge r.1 (tgt := 101) dX9_readsPlace_96 (by decide) (fun c652 => ?_) (fun c652 => ?_)
                  · exact absurd c652 (by decide)
                  · refine bf_iconst r.1 (v := nI 0) dX9_readsPlace_99 rfl ?_
                    exact re_i r dX9_readsPlace_100 rfl (by decide) ⟨(fRE (fRE (fR8 (fR8 fR0)) hfE646) hfE648), Or.inr ⟨rfl, 8 + 8 * j + a648, hh648, by omega, by omega, h8648⟩⟩
              · exact absurd c647 (Nat.not_lt_zero _)
            · show J 74 [some (.ref 37), some (.int (nI fr)), some (.int (nI n)), some (.int (cEx c n (4 + 8 * j))), none, none] [.int (-9)] (bf_MD D646)
              refine bf_istore r.1 (L2 := [some (.ref 37), some (.int (nI fr)), some (.int (nI n)), some (.int (cEx c n (4 + 8 * j))), some (.int (-9)), none]) dX9_readsPlace_74 rfl ?_
              refine bf_iload r.1 dX9_readsPlace_76 rfl ?_
              refine bf_if_ge r.1 (tgt := 86) dX9_readsPlace_78 (by decide) (fun c653 => ?_) (fun c653 => ?_)
              · exact absurd c653 (by decide)
              · refine bf_bipush r.1 (v := -9) dX9_readsPlace_81 rfl ?_
                refine bf_goto r.1 (tgt := 92) dX9_readsPlace_83 (by decide) ?_
                refine bf_istore r.1 (L2 := [some (.ref 37), some (.int (nI fr)), some (.int (nI n)), some (.int (cEx c n (4 + 8 * j))), some (.int (-9)), some (.int (-9))]) dX9_readsPlace_92 rfl ?_
                refine bf_iload r.1 dX9_readsPlace_94 rfl ?_
                refine bf_if_ge r.1 (tgt := 101) dX9_readsPlace_96 (by decide) (fun c654 => ?_) (fun c654 => ?_)
                · exact absurd c654 (by decide)
                · refine bf_iconst r.1 (v := nI 0) dX9_readsPlace_99 rfl ?_
                  exact re_i r dX9_readsPlace_100 rfl (by decide) ⟨(fRE (fR8 (fR8 fR0)) hfE646), Or.inr ⟨rfl, 5 + 8 * j + a646, hh646, by omega, by omega, h8646⟩⟩
          · refine bf_iconst r.1 (v := nI 0) dX9_readsPlace_56 rfl ?_
            exact re_i r dX9_readsPlace_57 rfl (by decide) ⟨(fR8 fR0), Or.inr ⟨rfl, 4 + 8 * j, (hlt_k hj3 st1 c626 c635 c645), by omega, by omega, bf_us⟩⟩
    · refine bf_iconst r.1 (v := nI 0) dX9_readsPlace_19 rfl ?_
      exact re_i r dX9_readsPlace_20 rfl (by decide) ⟨fR0, Or.inr ⟨rfl, 3 + 8 * j, ⟨hst, fun q => c625 ((cEx_i (by decide)).mpr ⟨q.1, (go_si hj3).mp q.2⟩)⟩, by omega, by omega, ht⟩⟩
def frL (D D' : bf_D) : Prop := ∀ a q, a ≠ 42 → a ≠ 43 → a ≠ 44 → (a ≠ 37 ∨ (q ≠ 8 ∧ q ≠ 9)) → D' a q = D a q
theorem fL8 {D D1 : bf_D} {v : Int32} (h : frL D D1) : frL D (bf_u D1 37 8 v) := fun a q h1 h2 h3 h4 => (bf_un (by omega)).trans (h a q h1 h2 h3 h4)
theorem fL9 {D D1 : bf_D} {v : Int32} (h : frL D D1) : frL D (bf_u D1 37 9 v) := fun a q h1 h2 h3 h4 => (bf_un (by omega)).trans (h a q h1 h2 h3 h4)
theorem fL0 {D : bf_D} : frL D D := fun _ _ _ _ _ _ => rfl
theorem fLR {D D1 D2 : bf_D} {j : Nat} (h : frL D D1) (h2 : frR D1 D2 j) : frL D D2 := fun a q h3 h4 h5 h6 => (h2 a q h6 (by omega)).trans (h a q h3 h4 h5 h6)
def plR (D : bf_D) (c : Nat → Int32) (m : Nat) : Prop := ∀ j, j < m → D 42 j = nI (tK c j) ∧ D 43 j = nI (tD c j) ∧ D 44 j = nI (tT c j)
theorem e_X9_lifeRead {d : Nat} (hd : 5 ≤ d) {D : bf_D} {c : Nat → Int32} {fr n : Nat} (hn : n ≤ 60) (hf : fr + n ≤ 240) (hcc : ∀ t, t < n → D 55 (fr + t) = c t) : bf_Ce d mX9_lifeRead [.ref 37, .int (nI fr), .int (nI n)] D (fun r D' => frL D D' ∧ ((bf_tf c n = none ∧ r = some (.int (nI (tLf c))) ∧ D' 37 9 = nI ((n - 3) / 8) ∧ plR D' c ((n - 3) / 8)) ∨ (∃ t, bf_tf c n = some t ∧ r = some (.int (-9)) ∧ D' 37 8 = nI t))) := by
  refine bf_Ce_of 4 hd mo_X9_lifeRead (Nat.le_of_ble_eq_true rfl) (fun e he J r => ?_)
  show J 0 [some (.ref 37), some (.int (nI fr)), some (.int (nI n)), none, none, none] [] (bf_MD D)
  refine bf_aload_n r.1 dX9_lifeRead_0 rfl ?_
  refine bf_iconst r.1 (v := nI 0) dX9_lifeRead_1 rfl ?_
  refine ip_int r dX9_lifeRead_2 fp_X9_84 rfl (by decide) rfl ?_
  refine bf_aload_n r.1 dX9_lifeRead_5 rfl ?_
  refine bf_iconst r.1 (v := nI 0) dX9_lifeRead_6 rfl ?_
  refine ip_int r dX9_lifeRead_7 fp_X9_95 rfl (by decide) rfl ?_
  refine bf_aload_n r.1 dX9_lifeRead_10 rfl ?_
  refine bf_iload_n r.1 dX9_lifeRead_11 rfl ?_
  refine bf_iload_n r.1 dX9_lifeRead_12 rfl ?_
  refine cl_v r (y2 := mX9_codeAt) dX9_lifeRead_13 li_X9_87 mv_X9_codeAt rfl (by decide) [.int (nI fr), .int (nI n)] [] rfl (Nat.le_of_ble_eq_true rfl) rfl (c_X9_codeAt (by omega) (c := c) (fr := fr) (n := n) (t := 0) hn hf (fun t h => (bf_un (Or.inl (by decide))).trans ((fun t h => (bf_un (Or.inl (by decide))).trans (hcc t h)) t h)) ((bf_un (by decide)).trans bf_us) (by omega)) ?_
  show J 16 [some (.ref 37), some (.int (nI fr)), some (.int (nI n)), none, none, none] [.int (cEx c n 0)] (bf_MD (bf_u (bf_u D 37 8 (nI 0)) 37 9 (nI 0)))
  refine bf_bipush r.1 (v := nI 112) dX9_lifeRead_16 rfl ?_
  refine bf_icmp_eq r.1 (tgt := 24) dX9_lifeRead_18 (by decide) (fun c655 => ?_) (fun c655 => ?_)
  · have hg0 := (cEx_i (by decide)).mp c655
    have st1 : stpR c n 1 := stp_s ⟨Nat.zero_le _, fun u hu => absurd hu (Nat.not_lt_zero _)⟩ ⟨hg0.1, go_0i.mpr hg0.2⟩
    refine bf_aload_n r.1 dX9_lifeRead_24 rfl ?_
    refine bf_dup r.1 dX9_lifeRead_25 rfl ?_
    refine ig_int r (v := nI 0) dX9_lifeRead_26 fl_X9_84 rfl (by decide) rfl ((bf_un (by decide)).trans bf_us) ?_
    refine bf_iconst r.1 (v := nI 1) dX9_lifeRead_29 rfl ?_
    refine na_add r dX9_lifeRead_30  ?_
    refine eq_i (v := nI 1) rfl ?_
    refine ip_int r dX9_lifeRead_31 fp_X9_84 rfl (by decide) rfl ?_
    refine bf_aload_n r.1 dX9_lifeRead_34 rfl ?_
    refine bf_iload_n r.1 dX9_lifeRead_35 rfl ?_
    refine bf_iload_n r.1 dX9_lifeRead_36 rfl ?_
    refine bf_iconst r.1 (v := nI 0) dX9_lifeRead_37 rfl ?_
    refine bf_iconst r.1 (v := nI 0) dX9_lifeRead_38 rfl ?_
    refine bf_bipush r.1 (v := nI 9) dX9_lifeRead_39 rfl ?_
    refine cl_v r (y2 := mX9_figure) dX9_lifeRead_41 li_X9_91 mv_X9_figure rfl (by decide) [.int (nI fr), .int (nI n), .int (nI 0), .int (nI 0), .int (nI 9)] [] rfl (Nat.le_of_ble_eq_true rfl) rfl (c_X9_figureS (by omega) (c := c) (fr := fr) (n := n) (t := 1) hn hf (fun t h => (bf_un (Or.inl (by decide))).trans ((fun t h => (bf_un (Or.inl (by decide))).trans ((fun t h => (bf_un (Or.inl (by decide))).trans (hcc t h)) t h)) t h)) bf_us (by omega) (lo := 0) (hi := 9) (by decide) (by decide) (nI_nonneg (by omega))) ?_
    show J 44 [some (.ref 37), some (.int (nI fr)), some (.int (nI n)), none, none, none] [.int (if isF (cEx c n 1) 0 9 = true then (cEx c n 1) - nI 48 else -9)] (bf_MD (bf_u (bf_u (bf_u (bf_u D 37 8 (nI 0)) 37 9 (nI 0)) 37 8 (nI 1)) 37 8 (nI (if isF (cEx c n 1) 0 9 = true then 1 + 1 else 1))))
    by_cases hFx : isF (cEx c n 1) 0 9 = true
    · rw [if_pos hFx, if_pos hFx]
      obtain ⟨x, xl, xh, xe⟩ := (isF_iff (by decide) (by decide)).mp hFx
      rw [show (cEx c n 1) - nI 48 = nI x from by rw [xe, pk_sub (by omega), Nat.add_sub_cancel]]
      show J 44 [some (.ref 37), some (.int (nI fr)), some (.int (nI n)), none, none, none] [.int (nI x)] (bf_MD (bf_u (bf_u (bf_u (bf_u D 37 8 (nI 0)) 37 9 (nI 0)) 37 8 (nI 1)) 37 8 (nI (1 + 1))))
      have hg1 := (cEx_i (by omega)).mp xe
      have st2 : stpR c n 2 := stp_s st1 ⟨hg1.1, go_1i.mpr ⟨x, xh, hg1.2⟩⟩
      refine bf_istore_n r.1 (L2 := [some (.ref 37), some (.int (nI fr)), some (.int (nI n)), some (.int (nI x)), none, none]) dX9_lifeRead_44 rfl ?_
      refine bf_aload_n r.1 dX9_lifeRead_45 rfl ?_
      refine bf_iload_n r.1 dX9_lifeRead_46 rfl ?_
      refine bf_iload_n r.1 dX9_lifeRead_47 rfl ?_
      refine bf_iload_n r.1 dX9_lifeRead_48 rfl ?_
      refine bf_iload_n r.1 dX9_lifeRead_49 rfl ?_
      refine nz_ne r (tgt := 57) dX9_lifeRead_50 (by decide) (by omega) (fun c656 => ?_) (fun c656 => ?_)
      · refine bf_iconst r.1 (v := nI 0) dX9_lifeRead_57 rfl ?_
        refine bf_bipush r.1 (v := nI 9) dX9_lifeRead_58 rfl ?_
        refine cl_v r (y2 := mX9_figure) dX9_lifeRead_60 li_X9_91 mv_X9_figure rfl (by decide) [.int (nI fr), .int (nI n), .int (nI x), .int (nI 0), .int (nI 9)] [] rfl (Nat.le_of_ble_eq_true rfl) rfl (c_X9_figureS (by omega) (c := c) (fr := fr) (n := n) (t := 1 + 1) hn hf (fun t h => (bf_un (Or.inl (by decide))).trans ((fun t h => (bf_un (Or.inl (by decide))).trans ((fun t h => (bf_un (Or.inl (by decide))).trans ((fun t h => (bf_un (Or.inl (by decide))).trans (hcc t h)) t h)) t h)) t h)) bf_us (by omega) (lo := 0) (hi := 9) (by decide) (by decide) (nI_nonneg (by omega))) ?_
        show J 63 [some (.ref 37), some (.int (nI fr)), some (.int (nI n)), some (.int (nI x)), none, none] [.int (if isF (cEx c n (1 + 1)) 0 9 = true then (cEx c n (1 + 1)) - nI 48 else -9)] (bf_MD (bf_u (bf_u (bf_u (bf_u (bf_u D 37 8 (nI 0)) 37 9 (nI 0)) 37 8 (nI 1)) 37 8 (nI (1 + 1))) 37 8 (nI (if isF (cEx c n (1 + 1)) 0 9 = true then 1 + 1 + 1 else 1 + 1))))
        by_cases hFy : isF (cEx c n (1 + 1)) 0 9 = true
        · rw [if_pos hFy, if_pos hFy]
          obtain ⟨y, yl, yh, ye⟩ := (isF_iff (by decide) (by decide)).mp hFy
          rw [show (cEx c n (1 + 1)) - nI 48 = nI y from by rw [ye, pk_sub (by omega), Nat.add_sub_cancel]]
          show J 63 [some (.ref 37), some (.int (nI fr)), some (.int (nI n)), some (.int (nI x)), none, none] [.int (nI y)] (bf_MD (bf_u (bf_u (bf_u (bf_u (bf_u D 37 8 (nI 0)) 37 9 (nI 0)) 37 8 (nI 1)) 37 8 (nI (1 + 1))) 37 8 (nI (1 + 1 + 1))))
          have hg2 := (cEx_i (by omega)).mp ye
          have st3 : stpR c n 3 := stp_s st2 ⟨hg2.1, (go_2i xh hg1.2).mpr ⟨y, by rw [← (show 0 = if x = 0 then 1 else 0 from (if_neg c656).symm)]; exact yl, yh, hg2.2⟩⟩
          have hlf : 10 * x + y = tLf c := by unfold tLf; rw [bf_nb2 (f := fun i => c (1 + i)) hg1.2 hg2.2]; exact (nI_clamp (by omega)).symm
          refine bf_istore r.1 (L2 := [some (.ref 37), some (.int (nI fr)), some (.int (nI n)), some (.int (nI x)), some (.int (nI y)), none]) dX9_lifeRead_63 rfl ?_
          refine bf_iload r.1 dX9_lifeRead_65 rfl ?_
          refine nz_lt r (tgt := 74) dX9_lifeRead_67 (by decide) (by omega) (fun c657 => ?_) (fun c657 => ?_)
          · exact absurd c657 (Nat.not_lt_zero _)
          · refine bf_iconst r.1 (v := nI 1) dX9_lifeRead_70 rfl ?_
            refine bf_goto r.1 (tgt := 75) dX9_lifeRead_71 (by decide) ?_
            refine bf_istore r.1 (L2 := [some (.ref 37), some (.int (nI fr)), some (.int (nI n)), some (.int (nI x)), some (.int (nI y)), some (.int (nI 1))]) dX9_lifeRead_75 rfl ?_
            have loop : ∀ (f j : Nat) (D2 : bf_D), j + f = 4 → stpR c n (3 + 8 * j) → D2 37 8 = nI (3 + 8 * j) → D2 37 9 = nI j → plR D2 c j → frL D D2 → (∀ t, t < n → D2 55 (fr + t) = c t) → J 77 [some (.ref 37), some (.int (nI fr)), some (.int (nI n)), some (.int (nI x)), some (.int (nI y)), some (.int (nI 1))] [] (bf_MD D2) := by
              intro f
              induction f with
              | zero =>
                intro j D2 hjf hst h8 h9 hpl hfr hcc2
                refine bf_iload r.1 dX9_lifeRead_77 rfl ?_
                refine nz_eq r (tgt := 108) dX9_lifeRead_79 (by decide) (by decide) (fun c658 => ?_) (fun c658 => ?_)
                · exact absurd c658 (by decide)
                · refine bf_aload_n r.1 dX9_lifeRead_82 rfl ?_
                  refine ig_int r (v := nI j) dX9_lifeRead_83 fl_X9_95 rfl (by decide) rfl h9 ?_
                  refine nz_eq r (tgt := 97) dX9_lifeRead_86 (by decide) (by omega) (fun c659 => ?_) (fun c659 => ?_)
                  · refine bf_aload_n r.1 dX9_lifeRead_97 rfl ?_
                    refine bf_iload_n r.1 dX9_lifeRead_98 rfl ?_
                    refine bf_iload_n r.1 dX9_lifeRead_99 rfl ?_
                    refine ce_v r (y2 := mX9_readsPlace) dX9_lifeRead_100 li_X9_101 mv_X9_readsPlace rfl (by decide) [.int (nI fr), .int (nI n)] [] rfl (Nat.le_of_ble_eq_true rfl) rfl (e_X9_readsPlace (by omega) (c := c) (fr := fr) (n := n) (j := j) hn hf hcc2 (by omega) h8 h9 hst (by omega)) (fun res D660 hq660 => ?_)
                    rcases hq660 with ⟨hfR660, ⟨rfl, hj660, hs660, h8660, h9660, hk660, hd660, ht660⟩ | ⟨rfl, t660, hh660, hlo660, hhi660, h8660⟩⟩
                    · show J 103 [some (.ref 37), some (.int (nI fr)), some (.int (nI n)), some (.int (nI x)), some (.int (nI y)), some (.int (nI 1))] [.int (nI 1)] (bf_MD D660)
                      refine bf_istore r.1 (L2 := [some (.ref 37), some (.int (nI fr)), some (.int (nI n)), some (.int (nI x)), some (.int (nI y)), some (.int (nI 1))]) dX9_lifeRead_103 rfl ?_
                      refine bf_goto r.1 (tgt := 77) dX9_lifeRead_105 (by decide) ?_
                      exact absurd hj660 (by omega)
                    · show J 103 [some (.ref 37), some (.int (nI fr)), some (.int (nI n)), some (.int (nI x)), some (.int (nI y)), some (.int (nI 1))] [.int (nI 0)] (bf_MD D660)
                      have hne : t660 = n → ¬ (11 ≤ n ∧ (n - 3) % 8 = 0) := by intro q q2; omega
                      refine bf_istore r.1 (L2 := [some (.ref 37), some (.int (nI fr)), some (.int (nI n)), some (.int (nI x)), some (.int (nI y)), some (.int (nI 0))]) dX9_lifeRead_103 rfl ?_
                      refine bf_goto r.1 (tgt := 77) dX9_lifeRead_105 (by decide) ?_
                      refine bf_iload r.1 dX9_lifeRead_77 rfl ?_
                      refine nz_eq r (tgt := 108) dX9_lifeRead_79 (by decide) (by decide) (fun c661 => ?_) (fun c661 => ?_)
                      · refine bf_iload r.1 dX9_lifeRead_108 rfl ?_
                        refine nz_eq r (tgt := 123) dX9_lifeRead_110 (by decide) (by decide) (fun c662 => ?_) (fun c662 => ?_)
                        · refine bf_bipush r.1 (v := -9) dX9_lifeRead_123 rfl ?_
                          exact re_i r dX9_lifeRead_125 rfl rfl ⟨(fLR hfr hfR660), Or.inr ⟨t660, tf_h hh660 hne, rfl, h8660⟩⟩
                        · exact absurd rfl c662
                      · exact absurd rfl c661
                  · refine bf_aload_n r.1 dX9_lifeRead_89 rfl ?_
                    refine ig_int r (v := nI (3 + 8 * j)) dX9_lifeRead_90 fl_X9_84 rfl (by decide) rfl h8 ?_
                    refine bf_iload_n r.1 dX9_lifeRead_93 rfl ?_
                    refine nc_ge r (tgt := 108) dX9_lifeRead_94 (by decide) (by omega) (by omega) (fun c663 => ?_) (fun c663 => ?_)
                    · have hn3 : n = 3 + 8 * j := by have := hst.1; omega
                      have hjd : (n - 3) / 8 = j := by omega
                      refine bf_iload r.1 dX9_lifeRead_108 rfl ?_
                      refine nz_eq r (tgt := 123) dX9_lifeRead_110 (by decide) (by decide) (fun c664 => ?_) (fun c664 => ?_)
                      · exact absurd c664 (by decide)
                      · refine bf_bipush r.1 (v := nI 10) dX9_lifeRead_113 rfl ?_
                        refine bf_iload_n r.1 dX9_lifeRead_115 rfl ?_
                        refine na_mul r dX9_lifeRead_116  ?_
                        refine bf_iload r.1 dX9_lifeRead_117 rfl ?_
                        refine na_add r dX9_lifeRead_119  ?_
                        refine bf_goto r.1 (tgt := 125) dX9_lifeRead_120 (by decide) ?_
                        exact re_i r dX9_lifeRead_125 rfl rfl ⟨hfr, Or.inl ⟨tf_k (by have h0 := hst; rw [← hn3] at h0; exact h0) (by omega) (by omega), by rw [← hlf], by rw [hjd]; exact h9, by rw [hjd]; exact hpl⟩⟩
                    · refine bf_aload_n r.1 dX9_lifeRead_97 rfl ?_
                      refine bf_iload_n r.1 dX9_lifeRead_98 rfl ?_
                      refine bf_iload_n r.1 dX9_lifeRead_99 rfl ?_
                      refine ce_v r (y2 := mX9_readsPlace) dX9_lifeRead_100 li_X9_101 mv_X9_readsPlace rfl (by decide) [.int (nI fr), .int (nI n)] [] rfl (Nat.le_of_ble_eq_true rfl) rfl (e_X9_readsPlace (by omega) (c := c) (fr := fr) (n := n) (j := j) hn hf hcc2 (by omega) h8 h9 hst (by omega)) (fun res D665 hq665 => ?_)
                      rcases hq665 with ⟨hfR665, ⟨rfl, hj665, hs665, h8665, h9665, hk665, hd665, ht665⟩ | ⟨rfl, t665, hh665, hlo665, hhi665, h8665⟩⟩
                      · show J 103 [some (.ref 37), some (.int (nI fr)), some (.int (nI n)), some (.int (nI x)), some (.int (nI y)), some (.int (nI 1))] [.int (nI 1)] (bf_MD D665)
                        refine bf_istore r.1 (L2 := [some (.ref 37), some (.int (nI fr)), some (.int (nI n)), some (.int (nI x)), some (.int (nI y)), some (.int (nI 1))]) dX9_lifeRead_103 rfl ?_
                        refine bf_goto r.1 (tgt := 77) dX9_lifeRead_105 (by decide) ?_
                        exact absurd hj665 (by omega)
                      · show J 103 [some (.ref 37), some (.int (nI fr)), some (.int (nI n)), some (.int (nI x)), some (.int (nI y)), some (.int (nI 1))] [.int (nI 0)] (bf_MD D665)
                        have hne : t665 = n → ¬ (11 ≤ n ∧ (n - 3) % 8 = 0) := by intro q q2; omega
                        refine bf_istore r.1 (L2 := [some (.ref 37), some (.int (nI fr)), some (.int (nI n)), some (.int (nI x)), some (.int (nI y)), some (.int (nI 0))]) dX9_lifeRead_103 rfl ?_
                        refine bf_goto r.1 (tgt := 77) dX9_lifeRead_105 (by decide) ?_
                        refine bf_iload r.1 dX9_lifeRead_77 rfl ?_
                        refine nz_eq r (tgt := 108) dX9_lifeRead_79 (by decide) (by decide) (fun c666 => ?_) (fun c666 => ?_)
                        · refine bf_iload r.1 dX9_lifeRead_108 rfl ?_
                          refine nz_eq r (tgt := 123) dX9_lifeRead_110 (by decide) (by decide) (fun c667 => ?_) (fun c667 => ?_)
                          · refine bf_bipush r.1 (v := -9) dX9_lifeRead_123 rfl ?_
                            exact re_i r dX9_lifeRead_125 rfl rfl ⟨(fLR hfr hfR665), Or.inr ⟨t665, tf_h hh665 hne, rfl, h8665⟩⟩
                          · exact absurd rfl c667
                        · exact absurd rfl c666
              | succ f ih =>
                intro j D2 hjf hst h8 h9 hpl hfr hcc2
                refine bf_iload r.1 dX9_lifeRead_77 rfl ?_
                refine nz_eq r (tgt := 108) dX9_lifeRead_79 (by decide) (by decide) (fun c668 => ?_) (fun c668 => ?_)
                · exact absurd c668 (by decide)
                · refine bf_aload_n r.1 dX9_lifeRead_82 rfl ?_
                  refine ig_int r (v := nI j) dX9_lifeRead_83 fl_X9_95 rfl (by decide) rfl h9 ?_
                  refine nz_eq r (tgt := 97) dX9_lifeRead_86 (by decide) (by omega) (fun c669 => ?_) (fun c669 => ?_)
                  · refine bf_aload_n r.1 dX9_lifeRead_97 rfl ?_
                    refine bf_iload_n r.1 dX9_lifeRead_98 rfl ?_
                    refine bf_iload_n r.1 dX9_lifeRead_99 rfl ?_
                    refine ce_v r (y2 := mX9_readsPlace) dX9_lifeRead_100 li_X9_101 mv_X9_readsPlace rfl (by decide) [.int (nI fr), .int (nI n)] [] rfl (Nat.le_of_ble_eq_true rfl) rfl (e_X9_readsPlace (by omega) (c := c) (fr := fr) (n := n) (j := j) hn hf hcc2 (by omega) h8 h9 hst (by omega)) (fun res D670 hq670 => ?_)
                    rcases hq670 with ⟨hfR670, ⟨rfl, hj670, hs670, h8670, h9670, hk670, hd670, ht670⟩ | ⟨rfl, t670, hh670, hlo670, hhi670, h8670⟩⟩
                    · show J 103 [some (.ref 37), some (.int (nI fr)), some (.int (nI n)), some (.int (nI x)), some (.int (nI y)), some (.int (nI 1))] [.int (nI 1)] (bf_MD D670)
                      refine bf_istore r.1 (L2 := [some (.ref 37), some (.int (nI fr)), some (.int (nI n)), some (.int (nI x)), some (.int (nI y)), some (.int (nI 1))]) dX9_lifeRead_103 rfl ?_
                      refine bf_goto r.1 (tgt := 77) dX9_lifeRead_105 (by decide) ?_
                      refine ih (j + 1) D670 (by omega) hs670 h8670 h9670 (fun i hi => ?_) (fLR hfr hfR670) (fun t h => (hfR670 55 _ (Or.inl (by decide)) (by omega)).trans (hcc2 t h))
                      by_cases ei : i = j
                      · subst ei; exact ⟨hk670, hd670, ht670⟩
                      · have h0 := hpl i (by omega)
                        exact ⟨(hfR670 _ _ (Or.inl (by decide)) (fun _ => ei)).trans h0.1, (hfR670 _ _ (Or.inl (by decide)) (fun _ => ei)).trans h0.2.1, (hfR670 _ _ (Or.inl (by decide)) (fun _ => ei)).trans h0.2.2⟩
                    · show J 103 [some (.ref 37), some (.int (nI fr)), some (.int (nI n)), some (.int (nI x)), some (.int (nI y)), some (.int (nI 1))] [.int (nI 0)] (bf_MD D670)
                      have hne : t670 = n → ¬ (11 ≤ n ∧ (n - 3) % 8 = 0) := by intro q q2; omega
                      refine bf_istore r.1 (L2 := [some (.ref 37), some (.int (nI fr)), some (.int (nI n)), some (.int (nI x)), some (.int (nI y)), some (.int (nI 0))]) dX9_lifeRead_103 rfl ?_
                      refine bf_goto r.1 (tgt := 77) dX9_lifeRead_105 (by decide) ?_
                      refine bf_iload r.1 dX9_lifeRead_77 rfl ?_
                      refine nz_eq r (tgt := 108) dX9_lifeRead_79 (by decide) (by decide) (fun c671 => ?_) (fun c671 => ?_)
                      · refine bf_iload r.1 dX9_lifeRead_108 rfl ?_
                        refine nz_eq r (tgt := 123) dX9_lifeRead_110 (by decide) (by decide) (fun c672 => ?_) (fun c672 => ?_)
                        · refine bf_bipush r.1 (v := -9) dX9_lifeRead_123 rfl ?_
                          exact re_i r dX9_lifeRead_125 rfl rfl ⟨(fLR hfr hfR670), Or.inr ⟨t670, tf_h hh670 hne, rfl, h8670⟩⟩
                        · exact absurd rfl c672
                      · exact absurd rfl c671
                  · refine bf_aload_n r.1 dX9_lifeRead_89 rfl ?_
                    refine ig_int r (v := nI (3 + 8 * j)) dX9_lifeRead_90 fl_X9_84 rfl (by decide) rfl h8 ?_
                    refine bf_iload_n r.1 dX9_lifeRead_93 rfl ?_
                    refine nc_ge r (tgt := 108) dX9_lifeRead_94 (by decide) (by omega) (by omega) (fun c673 => ?_) (fun c673 => ?_)
                    · have hn3 : n = 3 + 8 * j := by have := hst.1; omega
                      have hjd : (n - 3) / 8 = j := by omega
                      refine bf_iload r.1 dX9_lifeRead_108 rfl ?_
                      refine nz_eq r (tgt := 123) dX9_lifeRead_110 (by decide) (by decide) (fun c674 => ?_) (fun c674 => ?_)
                      · exact absurd c674 (by decide)
                      · refine bf_bipush r.1 (v := nI 10) dX9_lifeRead_113 rfl ?_
                        refine bf_iload_n r.1 dX9_lifeRead_115 rfl ?_
                        refine na_mul r dX9_lifeRead_116  ?_
                        refine bf_iload r.1 dX9_lifeRead_117 rfl ?_
                        refine na_add r dX9_lifeRead_119  ?_
                        refine bf_goto r.1 (tgt := 125) dX9_lifeRead_120 (by decide) ?_
                        exact re_i r dX9_lifeRead_125 rfl rfl ⟨hfr, Or.inl ⟨tf_k (by have h0 := hst; rw [← hn3] at h0; exact h0) (by omega) (by omega), by rw [← hlf], by rw [hjd]; exact h9, by rw [hjd]; exact hpl⟩⟩
                    · refine bf_aload_n r.1 dX9_lifeRead_97 rfl ?_
                      refine bf_iload_n r.1 dX9_lifeRead_98 rfl ?_
                      refine bf_iload_n r.1 dX9_lifeRead_99 rfl ?_
                      refine ce_v r (y2 := mX9_readsPlace) dX9_lifeRead_100 li_X9_101 mv_X9_readsPlace rfl (by decide) [.int (nI fr), .int (nI n)] [] rfl (Nat.le_of_ble_eq_true rfl) rfl (e_X9_readsPlace (by omega) (c := c) (fr := fr) (n := n) (j := j) hn hf hcc2 (by omega) h8 h9 hst (by omega)) (fun res D675 hq675 => ?_)
                      rcases hq675 with ⟨hfR675, ⟨rfl, hj675, hs675, h8675, h9675, hk675, hd675, ht675⟩ | ⟨rfl, t675, hh675, hlo675, hhi675, h8675⟩⟩
                      · show J 103 [some (.ref 37), some (.int (nI fr)), some (.int (nI n)), some (.int (nI x)), some (.int (nI y)), some (.int (nI 1))] [.int (nI 1)] (bf_MD D675)
                        refine bf_istore r.1 (L2 := [some (.ref 37), some (.int (nI fr)), some (.int (nI n)), some (.int (nI x)), some (.int (nI y)), some (.int (nI 1))]) dX9_lifeRead_103 rfl ?_
                        refine bf_goto r.1 (tgt := 77) dX9_lifeRead_105 (by decide) ?_
                        refine ih (j + 1) D675 (by omega) hs675 h8675 h9675 (fun i hi => ?_) (fLR hfr hfR675) (fun t h => (hfR675 55 _ (Or.inl (by decide)) (by omega)).trans (hcc2 t h))
                        by_cases ei : i = j
                        · subst ei; exact ⟨hk675, hd675, ht675⟩
                        · have h0 := hpl i (by omega)
                          exact ⟨(hfR675 _ _ (Or.inl (by decide)) (fun _ => ei)).trans h0.1, (hfR675 _ _ (Or.inl (by decide)) (fun _ => ei)).trans h0.2.1, (hfR675 _ _ (Or.inl (by decide)) (fun _ => ei)).trans h0.2.2⟩
                      · show J 103 [some (.ref 37), some (.int (nI fr)), some (.int (nI n)), some (.int (nI x)), some (.int (nI y)), some (.int (nI 1))] [.int (nI 0)] (bf_MD D675)
                        have hne : t675 = n → ¬ (11 ≤ n ∧ (n - 3) % 8 = 0) := by intro q q2; omega
                        refine bf_istore r.1 (L2 := [some (.ref 37), some (.int (nI fr)), some (.int (nI n)), some (.int (nI x)), some (.int (nI y)), some (.int (nI 0))]) dX9_lifeRead_103 rfl ?_
                        refine bf_goto r.1 (tgt := 77) dX9_lifeRead_105 (by decide) ?_
                        refine bf_iload r.1 dX9_lifeRead_77 rfl ?_
                        refine nz_eq r (tgt := 108) dX9_lifeRead_79 (by decide) (by decide) (fun c676 => ?_) (fun c676 => ?_)
                        · refine bf_iload r.1 dX9_lifeRead_108 rfl ?_
                          refine nz_eq r (tgt := 123) dX9_lifeRead_110 (by decide) (by decide) (fun c677 => ?_) (fun c677 => ?_)
                          · refine bf_bipush r.1 (v := -9) dX9_lifeRead_123 rfl ?_
                            exact re_i r dX9_lifeRead_125 rfl rfl ⟨(fLR hfr hfR675), Or.inr ⟨t675, tf_h hh675 hne, rfl, h8675⟩⟩
                          · exact absurd rfl c677
                        · exact absurd rfl c676
            exact loop 4 0 _ rfl st3 bf_us ((bf_un (by decide)).trans ((bf_un (by decide)).trans ((bf_un (by decide)).trans bf_us))) (fun j hj => absurd hj (Nat.not_lt_zero _)) (fL8 (fL8 (fL8 (fL9 (fL8 fL0))))) (fun t h => (bf_un (Or.inl (by decide))).trans ((fun t h => (bf_un (Or.inl (by decide))).trans ((fun t h => (bf_un (Or.inl (by decide))).trans ((fun t h => (bf_un (Or.inl (by decide))).trans ((fun t h => (bf_un (Or.inl (by decide))).trans (hcc t h)) t h)) t h)) t h)) t h))
        · rw [if_neg hFy, if_neg hFy]
          show J 63 [some (.ref 37), some (.int (nI fr)), some (.int (nI n)), some (.int (nI x)), none, none] [.int (-9)] (bf_MD (bf_u (bf_u (bf_u (bf_u (bf_u D 37 8 (nI 0)) 37 9 (nI 0)) 37 8 (nI 1)) 37 8 (nI (1 + 1))) 37 8 (nI (1 + 1))))
          have hh2 : hltR c n 2 := ⟨st2, fun q => by obtain ⟨y, h0, h1, h2⟩ := (go_2i xh hg1.2).mp q.2; exact hFy ((isF_iff (by decide) (by decide)).mpr ⟨y, by rw [(show 0 = if x = 0 then 1 else 0 from (if_neg c656).symm)]; exact h0, h1, (cEx_i (by omega)).mpr ⟨q.1, h2⟩⟩)⟩
          refine bf_istore r.1 (L2 := [some (.ref 37), some (.int (nI fr)), some (.int (nI n)), some (.int (nI x)), some (.int (-9)), none]) dX9_lifeRead_63 rfl ?_
          refine bf_iload r.1 dX9_lifeRead_65 rfl ?_
          refine bf_if_lt r.1 (tgt := 74) dX9_lifeRead_67 (by decide) (fun c678 => ?_) (fun c678 => ?_)
          · refine bf_iconst r.1 (v := nI 0) dX9_lifeRead_74 rfl ?_
            refine bf_istore r.1 (L2 := [some (.ref 37), some (.int (nI fr)), some (.int (nI n)), some (.int (nI x)), some (.int (-9)), some (.int (nI 0))]) dX9_lifeRead_75 rfl ?_
            refine bf_iload r.1 dX9_lifeRead_77 rfl ?_
            refine nz_eq r (tgt := 108) dX9_lifeRead_79 (by decide) (by decide) (fun c679 => ?_) (fun c679 => ?_)
            · refine bf_iload r.1 dX9_lifeRead_108 rfl ?_
              refine nz_eq r (tgt := 123) dX9_lifeRead_110 (by decide) (by decide) (fun c680 => ?_) (fun c680 => ?_)
              · refine bf_bipush r.1 (v := -9) dX9_lifeRead_123 rfl ?_
                exact re_i r dX9_lifeRead_125 rfl rfl ⟨(fL8 (fL8 (fL8 (fL9 (fL8 fL0))))), Or.inr ⟨2, tf_h hh2 (fun q => by omega), rfl, bf_us⟩⟩
              · exact absurd rfl c680
            · exact absurd rfl c679
          · exact absurd (by decide) c678
      · refine bf_iconst r.1 (v := nI 1) dX9_lifeRead_53 rfl ?_
        refine bf_goto r.1 (tgt := 58) dX9_lifeRead_54 (by decide) ?_
        refine bf_bipush r.1 (v := nI 9) dX9_lifeRead_58 rfl ?_
        refine cl_v r (y2 := mX9_figure) dX9_lifeRead_60 li_X9_91 mv_X9_figure rfl (by decide) [.int (nI fr), .int (nI n), .int (nI x), .int (nI 1), .int (nI 9)] [] rfl (Nat.le_of_ble_eq_true rfl) rfl (c_X9_figureS (by omega) (c := c) (fr := fr) (n := n) (t := 1 + 1) hn hf (fun t h => (bf_un (Or.inl (by decide))).trans ((fun t h => (bf_un (Or.inl (by decide))).trans ((fun t h => (bf_un (Or.inl (by decide))).trans ((fun t h => (bf_un (Or.inl (by decide))).trans (hcc t h)) t h)) t h)) t h)) bf_us (by omega) (lo := 1) (hi := 9) (by decide) (by decide) (nI_nonneg (by omega))) ?_
        show J 63 [some (.ref 37), some (.int (nI fr)), some (.int (nI n)), some (.int (nI x)), none, none] [.int (if isF (cEx c n (1 + 1)) 1 9 = true then (cEx c n (1 + 1)) - nI 48 else -9)] (bf_MD (bf_u (bf_u (bf_u (bf_u (bf_u D 37 8 (nI 0)) 37 9 (nI 0)) 37 8 (nI 1)) 37 8 (nI (1 + 1))) 37 8 (nI (if isF (cEx c n (1 + 1)) 1 9 = true then 1 + 1 + 1 else 1 + 1))))
        by_cases hFy : isF (cEx c n (1 + 1)) 1 9 = true
        · rw [if_pos hFy, if_pos hFy]
          obtain ⟨y, yl, yh, ye⟩ := (isF_iff (by decide) (by decide)).mp hFy
          rw [show (cEx c n (1 + 1)) - nI 48 = nI y from by rw [ye, pk_sub (by omega), Nat.add_sub_cancel]]
          show J 63 [some (.ref 37), some (.int (nI fr)), some (.int (nI n)), some (.int (nI x)), none, none] [.int (nI y)] (bf_MD (bf_u (bf_u (bf_u (bf_u (bf_u D 37 8 (nI 0)) 37 9 (nI 0)) 37 8 (nI 1)) 37 8 (nI (1 + 1))) 37 8 (nI (1 + 1 + 1))))
          have hg2 := (cEx_i (by omega)).mp ye
          have st3 : stpR c n 3 := stp_s st2 ⟨hg2.1, (go_2i xh hg1.2).mpr ⟨y, by rw [← (show 1 = if x = 0 then 1 else 0 from (if_pos c656).symm)]; exact yl, yh, hg2.2⟩⟩
          have hlf : 10 * x + y = tLf c := by unfold tLf; rw [bf_nb2 (f := fun i => c (1 + i)) hg1.2 hg2.2]; exact (nI_clamp (by omega)).symm
          refine bf_istore r.1 (L2 := [some (.ref 37), some (.int (nI fr)), some (.int (nI n)), some (.int (nI x)), some (.int (nI y)), none]) dX9_lifeRead_63 rfl ?_
          refine bf_iload r.1 dX9_lifeRead_65 rfl ?_
          refine nz_lt r (tgt := 74) dX9_lifeRead_67 (by decide) (by omega) (fun c681 => ?_) (fun c681 => ?_)
          · exact absurd c681 (Nat.not_lt_zero _)
          · refine bf_iconst r.1 (v := nI 1) dX9_lifeRead_70 rfl ?_
            refine bf_goto r.1 (tgt := 75) dX9_lifeRead_71 (by decide) ?_
            refine bf_istore r.1 (L2 := [some (.ref 37), some (.int (nI fr)), some (.int (nI n)), some (.int (nI x)), some (.int (nI y)), some (.int (nI 1))]) dX9_lifeRead_75 rfl ?_
            have loop : ∀ (f j : Nat) (D2 : bf_D), j + f = 4 → stpR c n (3 + 8 * j) → D2 37 8 = nI (3 + 8 * j) → D2 37 9 = nI j → plR D2 c j → frL D D2 → (∀ t, t < n → D2 55 (fr + t) = c t) → J 77 [some (.ref 37), some (.int (nI fr)), some (.int (nI n)), some (.int (nI x)), some (.int (nI y)), some (.int (nI 1))] [] (bf_MD D2) := by
              intro f
              induction f with
              | zero =>
                intro j D2 hjf hst h8 h9 hpl hfr hcc2
                refine bf_iload r.1 dX9_lifeRead_77 rfl ?_
                refine nz_eq r (tgt := 108) dX9_lifeRead_79 (by decide) (by decide) (fun c682 => ?_) (fun c682 => ?_)
                · exact absurd c682 (by decide)
                · refine bf_aload_n r.1 dX9_lifeRead_82 rfl ?_
                  refine ig_int r (v := nI j) dX9_lifeRead_83 fl_X9_95 rfl (by decide) rfl h9 ?_
                  refine nz_eq r (tgt := 97) dX9_lifeRead_86 (by decide) (by omega) (fun c683 => ?_) (fun c683 => ?_)
                  · refine bf_aload_n r.1 dX9_lifeRead_97 rfl ?_
                    refine bf_iload_n r.1 dX9_lifeRead_98 rfl ?_
                    refine bf_iload_n r.1 dX9_lifeRead_99 rfl ?_
                    refine ce_v r (y2 := mX9_readsPlace) dX9_lifeRead_100 li_X9_101 mv_X9_readsPlace rfl (by decide) [.int (nI fr), .int (nI n)] [] rfl (Nat.le_of_ble_eq_true rfl) rfl (e_X9_readsPlace (by omega) (c := c) (fr := fr) (n := n) (j := j) hn hf hcc2 (by omega) h8 h9 hst (by omega)) (fun res D684 hq684 => ?_)
                    rcases hq684 with ⟨hfR684, ⟨rfl, hj684, hs684, h8684, h9684, hk684, hd684, ht684⟩ | ⟨rfl, t684, hh684, hlo684, hhi684, h8684⟩⟩
                    · show J 103 [some (.ref 37), some (.int (nI fr)), some (.int (nI n)), some (.int (nI x)), some (.int (nI y)), some (.int (nI 1))] [.int (nI 1)] (bf_MD D684)
                      refine bf_istore r.1 (L2 := [some (.ref 37), some (.int (nI fr)), some (.int (nI n)), some (.int (nI x)), some (.int (nI y)), some (.int (nI 1))]) dX9_lifeRead_103 rfl ?_
                      refine bf_goto r.1 (tgt := 77) dX9_lifeRead_105 (by decide) ?_
                      exact absurd hj684 (by omega)
                    · show J 103 [some (.ref 37), some (.int (nI fr)), some (.int (nI n)), some (.int (nI x)), some (.int (nI y)), some (.int (nI 1))] [.int (nI 0)] (bf_MD D684)
                      have hne : t684 = n → ¬ (11 ≤ n ∧ (n - 3) % 8 = 0) := by intro q q2; omega
                      refine bf_istore r.1 (L2 := [some (.ref 37), some (.int (nI fr)), some (.int (nI n)), some (.int (nI x)), some (.int (nI y)), some (.int (nI 0))]) dX9_lifeRead_103 rfl ?_
                      refine bf_goto r.1 (tgt := 77) dX9_lifeRead_105 (by decide) ?_
                      refine bf_iload r.1 dX9_lifeRead_77 rfl ?_
                      refine nz_eq r (tgt := 108) dX9_lifeRead_79 (by decide) (by decide) (fun c685 => ?_) (fun c685 => ?_)
                      · refine bf_iload r.1 dX9_lifeRead_108 rfl ?_
                        refine nz_eq r (tgt := 123) dX9_lifeRead_110 (by decide) (by decide) (fun c686 => ?_) (fun c686 => ?_)
                        · refine bf_bipush r.1 (v := -9) dX9_lifeRead_123 rfl ?_
                          exact re_i r dX9_lifeRead_125 rfl rfl ⟨(fLR hfr hfR684), Or.inr ⟨t684, tf_h hh684 hne, rfl, h8684⟩⟩
                        · exact absurd rfl c686
                      · exact absurd rfl c685
                  · refine bf_aload_n r.1 dX9_lifeRead_89 rfl ?_
                    refine ig_int r (v := nI (3 + 8 * j)) dX9_lifeRead_90 fl_X9_84 rfl (by decide) rfl h8 ?_
                    refine bf_iload_n r.1 dX9_lifeRead_93 rfl ?_
                    refine nc_ge r (tgt := 108) dX9_lifeRead_94 (by decide) (by omega) (by omega) (fun c687 => ?_) (fun c687 => ?_)
                    · have hn3 : n = 3 + 8 * j := by have := hst.1; omega
                      have hjd : (n - 3) / 8 = j := by omega
                      refine bf_iload r.1 dX9_lifeRead_108 rfl ?_
                      refine nz_eq r (tgt := 123) dX9_lifeRead_110 (by decide) (by decide) (fun c688 => ?_) (fun c688 => ?_)
                      · exact absurd c688 (by decide)
                      · refine bf_bipush r.1 (v := nI 10) dX9_lifeRead_113 rfl ?_
                        refine bf_iload_n r.1 dX9_lifeRead_115 rfl ?_
                        refine na_mul r dX9_lifeRead_116  ?_
                        refine bf_iload r.1 dX9_lifeRead_117 rfl ?_
                        refine na_add r dX9_lifeRead_119  ?_
                        refine bf_goto r.1 (tgt := 125) dX9_lifeRead_120 (by decide) ?_
                        exact re_i r dX9_lifeRead_125 rfl rfl ⟨hfr, Or.inl ⟨tf_k (by have h0 := hst; rw [← hn3] at h0; exact h0) (by omega) (by omega), by rw [← hlf], by rw [hjd]; exact h9, by rw [hjd]; exact hpl⟩⟩
                    · refine bf_aload_n r.1 dX9_lifeRead_97 rfl ?_
                      refine bf_iload_n r.1 dX9_lifeRead_98 rfl ?_
                      refine bf_iload_n r.1 dX9_lifeRead_99 rfl ?_
                      refine ce_v r (y2 := mX9_readsPlace) dX9_lifeRead_100 li_X9_101 mv_X9_readsPlace rfl (by decide) [.int (nI fr), .int (nI n)] [] rfl (Nat.le_of_ble_eq_true rfl) rfl (e_X9_readsPlace (by omega) (c := c) (fr := fr) (n := n) (j := j) hn hf hcc2 (by omega) h8 h9 hst (by omega)) (fun res D689 hq689 => ?_)
                      rcases hq689 with ⟨hfR689, ⟨rfl, hj689, hs689, h8689, h9689, hk689, hd689, ht689⟩ | ⟨rfl, t689, hh689, hlo689, hhi689, h8689⟩⟩
                      · show J 103 [some (.ref 37), some (.int (nI fr)), some (.int (nI n)), some (.int (nI x)), some (.int (nI y)), some (.int (nI 1))] [.int (nI 1)] (bf_MD D689)
                        refine bf_istore r.1 (L2 := [some (.ref 37), some (.int (nI fr)), some (.int (nI n)), some (.int (nI x)), some (.int (nI y)), some (.int (nI 1))]) dX9_lifeRead_103 rfl ?_
                        refine bf_goto r.1 (tgt := 77) dX9_lifeRead_105 (by decide) ?_
                        exact absurd hj689 (by omega)
                      · show J 103 [some (.ref 37), some (.int (nI fr)), some (.int (nI n)), some (.int (nI x)), some (.int (nI y)), some (.int (nI 1))] [.int (nI 0)] (bf_MD D689)
                        have hne : t689 = n → ¬ (11 ≤ n ∧ (n - 3) % 8 = 0) := by intro q q2; omega
                        refine bf_istore r.1 (L2 := [some (.ref 37), some (.int (nI fr)), some (.int (nI n)), some (.int (nI x)), some (.int (nI y)), some (.int (nI 0))]) dX9_lifeRead_103 rfl ?_
                        refine bf_goto r.1 (tgt := 77) dX9_lifeRead_105 (by decide) ?_
                        refine bf_iload r.1 dX9_lifeRead_77 rfl ?_
                        refine nz_eq r (tgt := 108) dX9_lifeRead_79 (by decide) (by decide) (fun c690 => ?_) (fun c690 => ?_)
                        · refine bf_iload r.1 dX9_lifeRead_108 rfl ?_
                          refine nz_eq r (tgt := 123) dX9_lifeRead_110 (by decide) (by decide) (fun c691 => ?_) (fun c691 => ?_)
                          · refine bf_bipush r.1 (v := -9) dX9_lifeRead_123 rfl ?_
                            exact re_i r dX9_lifeRead_125 rfl rfl ⟨(fLR hfr hfR689), Or.inr ⟨t689, tf_h hh689 hne, rfl, h8689⟩⟩
                          · exact absurd rfl c691
                        · exact absurd rfl c690
              | succ f ih =>
                intro j D2 hjf hst h8 h9 hpl hfr hcc2
                refine bf_iload r.1 dX9_lifeRead_77 rfl ?_
                refine nz_eq r (tgt := 108) dX9_lifeRead_79 (by decide) (by decide) (fun c692 => ?_) (fun c692 => ?_)
                · exact absurd c692 (by decide)
                · refine bf_aload_n r.1 dX9_lifeRead_82 rfl ?_
                  refine ig_int r (v := nI j) dX9_lifeRead_83 fl_X9_95 rfl (by decide) rfl h9 ?_
                  refine nz_eq r (tgt := 97) dX9_lifeRead_86 (by decide) (by omega) (fun c693 => ?_) (fun c693 => ?_)
                  · refine bf_aload_n r.1 dX9_lifeRead_97 rfl ?_
                    refine bf_iload_n r.1 dX9_lifeRead_98 rfl ?_
                    refine bf_iload_n r.1 dX9_lifeRead_99 rfl ?_
                    refine ce_v r (y2 := mX9_readsPlace) dX9_lifeRead_100 li_X9_101 mv_X9_readsPlace rfl (by decide) [.int (nI fr), .int (nI n)] [] rfl (Nat.le_of_ble_eq_true rfl) rfl (e_X9_readsPlace (by omega) (c := c) (fr := fr) (n := n) (j := j) hn hf hcc2 (by omega) h8 h9 hst (by omega)) (fun res D694 hq694 => ?_)
                    rcases hq694 with ⟨hfR694, ⟨rfl, hj694, hs694, h8694, h9694, hk694, hd694, ht694⟩ | ⟨rfl, t694, hh694, hlo694, hhi694, h8694⟩⟩
                    · show J 103 [some (.ref 37), some (.int (nI fr)), some (.int (nI n)), some (.int (nI x)), some (.int (nI y)), some (.int (nI 1))] [.int (nI 1)] (bf_MD D694)
                      refine bf_istore r.1 (L2 := [some (.ref 37), some (.int (nI fr)), some (.int (nI n)), some (.int (nI x)), some (.int (nI y)), some (.int (nI 1))]) dX9_lifeRead_103 rfl ?_
                      refine bf_goto r.1 (tgt := 77) dX9_lifeRead_105 (by decide) ?_
                      refine ih (j + 1) D694 (by omega) hs694 h8694 h9694 (fun i hi => ?_) (fLR hfr hfR694) (fun t h => (hfR694 55 _ (Or.inl (by decide)) (by omega)).trans (hcc2 t h))
                      by_cases ei : i = j
                      · subst ei; exact ⟨hk694, hd694, ht694⟩
                      · have h0 := hpl i (by omega)
                        exact ⟨(hfR694 _ _ (Or.inl (by decide)) (fun _ => ei)).trans h0.1, (hfR694 _ _ (Or.inl (by decide)) (fun _ => ei)).trans h0.2.1, (hfR694 _ _ (Or.inl (by decide)) (fun _ => ei)).trans h0.2.2⟩
                    · show J 103 [some (.ref 37), some (.int (nI fr)), some (.int (nI n)), some (.int (nI x)), some (.int (nI y)), some (.int (nI 1))] [.int (nI 0)] (bf_MD D694)
                      have hne : t694 = n → ¬ (11 ≤ n ∧ (n - 3) % 8 = 0) := by intro q q2; omega
                      refine bf_istore r.1 (L2 := [some (.ref 37), some (.int (nI fr)), some (.int (nI n)), some (.int (nI x)), some (.int (nI y)), some (.int (nI 0))]) dX9_lifeRead_103 rfl ?_
                      refine bf_goto r.1 (tgt := 77) dX9_lifeRead_105 (by decide) ?_
                      refine bf_iload r.1 dX9_lifeRead_77 rfl ?_
                      refine nz_eq r (tgt := 108) dX9_lifeRead_79 (by decide) (by decide) (fun c695 => ?_) (fun c695 => ?_)
                      · refine bf_iload r.1 dX9_lifeRead_108 rfl ?_
                        refine nz_eq r (tgt := 123) dX9_lifeRead_110 (by decide) (by decide) (fun c696 => ?_) (fun c696 => ?_)
                        · refine bf_bipush r.1 (v := -9) dX9_lifeRead_123 rfl ?_
                          exact re_i r dX9_lifeRead_125 rfl rfl ⟨(fLR hfr hfR694), Or.inr ⟨t694, tf_h hh694 hne, rfl, h8694⟩⟩
                        · exact absurd rfl c696
                      · exact absurd rfl c695
                  · refine bf_aload_n r.1 dX9_lifeRead_89 rfl ?_
                    refine ig_int r (v := nI (3 + 8 * j)) dX9_lifeRead_90 fl_X9_84 rfl (by decide) rfl h8 ?_
                    refine bf_iload_n r.1 dX9_lifeRead_93 rfl ?_
                    refine nc_ge r (tgt := 108) dX9_lifeRead_94 (by decide) (by omega) (by omega) (fun c697 => ?_) (fun c697 => ?_)
                    · have hn3 : n = 3 + 8 * j := by have := hst.1; omega
                      have hjd : (n - 3) / 8 = j := by omega
                      refine bf_iload r.1 dX9_lifeRead_108 rfl ?_
                      refine nz_eq r (tgt := 123) dX9_lifeRead_110 (by decide) (by decide) (fun c698 => ?_) (fun c698 => ?_)
                      · exact absurd c698 (by decide)
                      · refine bf_bipush r.1 (v := nI 10) dX9_lifeRead_113 rfl ?_
                        refine bf_iload_n r.1 dX9_lifeRead_115 rfl ?_
                        refine na_mul r dX9_lifeRead_116  ?_
                        refine bf_iload r.1 dX9_lifeRead_117 rfl ?_
                        refine na_add r dX9_lifeRead_119  ?_
                        refine bf_goto r.1 (tgt := 125) dX9_lifeRead_120 (by decide) ?_
                        exact re_i r dX9_lifeRead_125 rfl rfl ⟨hfr, Or.inl ⟨tf_k (by have h0 := hst; rw [← hn3] at h0; exact h0) (by omega) (by omega), by rw [← hlf], by rw [hjd]; exact h9, by rw [hjd]; exact hpl⟩⟩
                    · refine bf_aload_n r.1 dX9_lifeRead_97 rfl ?_
                      refine bf_iload_n r.1 dX9_lifeRead_98 rfl ?_
                      refine bf_iload_n r.1 dX9_lifeRead_99 rfl ?_
                      refine ce_v r (y2 := mX9_readsPlace) dX9_lifeRead_100 li_X9_101 mv_X9_readsPlace rfl (by decide) [.int (nI fr), .int (nI n)] [] rfl (Nat.le_of_ble_eq_true rfl) rfl (e_X9_readsPlace (by omega) (c := c) (fr := fr) (n := n) (j := j) hn hf hcc2 (by omega) h8 h9 hst (by omega)) (fun res D699 hq699 => ?_)
                      rcases hq699 with ⟨hfR699, ⟨rfl, hj699, hs699, h8699, h9699, hk699, hd699, ht699⟩ | ⟨rfl, t699, hh699, hlo699, hhi699, h8699⟩⟩
                      · show J 103 [some (.ref 37), some (.int (nI fr)), some (.int (nI n)), some (.int (nI x)), some (.int (nI y)), some (.int (nI 1))] [.int (nI 1)] (bf_MD D699)
                        refine bf_istore r.1 (L2 := [some (.ref 37), some (.int (nI fr)), some (.int (nI n)), some (.int (nI x)), some (.int (nI y)), some (.int (nI 1))]) dX9_lifeRead_103 rfl ?_
                        refine bf_goto r.1 (tgt := 77) dX9_lifeRead_105 (by decide) ?_
                        refine ih (j + 1) D699 (by omega) hs699 h8699 h9699 (fun i hi => ?_) (fLR hfr hfR699) (fun t h => (hfR699 55 _ (Or.inl (by decide)) (by omega)).trans (hcc2 t h))
                        by_cases ei : i = j
                        · subst ei; exact ⟨hk699, hd699, ht699⟩
                        · have h0 := hpl i (by omega)
                          exact ⟨(hfR699 _ _ (Or.inl (by decide)) (fun _ => ei)).trans h0.1, (hfR699 _ _ (Or.inl (by decide)) (fun _ => ei)).trans h0.2.1, (hfR699 _ _ (Or.inl (by decide)) (fun _ => ei)).trans h0.2.2⟩
                      · show J 103 [some (.ref 37), some (.int (nI fr)), some (.int (nI n)), some (.int (nI x)), some (.int (nI y)), some (.int (nI 1))] [.int (nI 0)] (bf_MD D699)
                        have hne : t699 = n → ¬ (11 ≤ n ∧ (n - 3) % 8 = 0) := by intro q q2; omega
                        refine bf_istore r.1 (L2 := [some (.ref 37), some (.int (nI fr)), some (.int (nI n)), some (.int (nI x)), some (.int (nI y)), some (.int (nI 0))]) dX9_lifeRead_103 rfl ?_
                        refine bf_goto r.1 (tgt := 77) dX9_lifeRead_105 (by decide) ?_
                        refine bf_iload r.1 dX9_lifeRead_77 rfl ?_
                        refine nz_eq r (tgt := 108) dX9_lifeRead_79 (by decide) (by decide) (fun c700 => ?_) (fun c700 => ?_)
                        · refine bf_iload r.1 dX9_lifeRead_108 rfl ?_
                          refine nz_eq r (tgt := 123) dX9_lifeRead_110 (by decide) (by decide) (fun c701 => ?_) (fun c701 => ?_)
                          · refine bf_bipush r.1 (v := -9) dX9_lifeRead_123 rfl ?_
                            exact re_i r dX9_lifeRead_125 rfl rfl ⟨(fLR hfr hfR699), Or.inr ⟨t699, tf_h hh699 hne, rfl, h8699⟩⟩
                          · exact absurd rfl c701
                        · exact absurd rfl c700
            exact loop 4 0 _ rfl st3 bf_us ((bf_un (by decide)).trans ((bf_un (by decide)).trans ((bf_un (by decide)).trans bf_us))) (fun j hj => absurd hj (Nat.not_lt_zero _)) (fL8 (fL8 (fL8 (fL9 (fL8 fL0))))) (fun t h => (bf_un (Or.inl (by decide))).trans ((fun t h => (bf_un (Or.inl (by decide))).trans ((fun t h => (bf_un (Or.inl (by decide))).trans ((fun t h => (bf_un (Or.inl (by decide))).trans ((fun t h => (bf_un (Or.inl (by decide))).trans (hcc t h)) t h)) t h)) t h)) t h))
        · rw [if_neg hFy, if_neg hFy]
          show J 63 [some (.ref 37), some (.int (nI fr)), some (.int (nI n)), some (.int (nI x)), none, none] [.int (-9)] (bf_MD (bf_u (bf_u (bf_u (bf_u (bf_u D 37 8 (nI 0)) 37 9 (nI 0)) 37 8 (nI 1)) 37 8 (nI (1 + 1))) 37 8 (nI (1 + 1))))
          have hh2 : hltR c n 2 := ⟨st2, fun q => by obtain ⟨y, h0, h1, h2⟩ := (go_2i xh hg1.2).mp q.2; exact hFy ((isF_iff (by decide) (by decide)).mpr ⟨y, by rw [(show 1 = if x = 0 then 1 else 0 from (if_pos c656).symm)]; exact h0, h1, (cEx_i (by omega)).mpr ⟨q.1, h2⟩⟩)⟩
          refine bf_istore r.1 (L2 := [some (.ref 37), some (.int (nI fr)), some (.int (nI n)), some (.int (nI x)), some (.int (-9)), none]) dX9_lifeRead_63 rfl ?_
          refine bf_iload r.1 dX9_lifeRead_65 rfl ?_
          refine bf_if_lt r.1 (tgt := 74) dX9_lifeRead_67 (by decide) (fun c702 => ?_) (fun c702 => ?_)
          · refine bf_iconst r.1 (v := nI 0) dX9_lifeRead_74 rfl ?_
            refine bf_istore r.1 (L2 := [some (.ref 37), some (.int (nI fr)), some (.int (nI n)), some (.int (nI x)), some (.int (-9)), some (.int (nI 0))]) dX9_lifeRead_75 rfl ?_
            refine bf_iload r.1 dX9_lifeRead_77 rfl ?_
            refine nz_eq r (tgt := 108) dX9_lifeRead_79 (by decide) (by decide) (fun c703 => ?_) (fun c703 => ?_)
            · refine bf_iload r.1 dX9_lifeRead_108 rfl ?_
              refine nz_eq r (tgt := 123) dX9_lifeRead_110 (by decide) (by decide) (fun c704 => ?_) (fun c704 => ?_)
              · refine bf_bipush r.1 (v := -9) dX9_lifeRead_123 rfl ?_
                exact re_i r dX9_lifeRead_125 rfl rfl ⟨(fL8 (fL8 (fL8 (fL9 (fL8 fL0))))), Or.inr ⟨2, tf_h hh2 (fun q => by omega), rfl, bf_us⟩⟩
              · exact absurd rfl c704
            · exact absurd rfl c703
          · exact absurd (by decide) c702
    · rw [if_neg hFx, if_neg hFx]
      show J 44 [some (.ref 37), some (.int (nI fr)), some (.int (nI n)), none, none, none] [.int (-9)] (bf_MD (bf_u (bf_u (bf_u (bf_u D 37 8 (nI 0)) 37 9 (nI 0)) 37 8 (nI 1)) 37 8 (nI 1)))
      have hh1 : hltR c n 1 := ⟨st1, fun q => by obtain ⟨x, h1, h2⟩ := go_1i.mp q.2; exact hFx ((isF_iff (by decide) (by decide)).mpr ⟨x, Nat.zero_le _, h1, (cEx_i (by omega)).mpr ⟨q.1, h2⟩⟩)⟩
      refine bf_istore_n r.1 (L2 := [some (.ref 37), some (.int (nI fr)), some (.int (nI n)), some (.int (-9)), none, none]) dX9_lifeRead_44 rfl ?_
      refine bf_aload_n r.1 dX9_lifeRead_45 rfl ?_
      refine bf_iload_n r.1 dX9_lifeRead_46 rfl ?_
      refine bf_iload_n r.1 dX9_lifeRead_47 rfl ?_
      refine bf_iload_n r.1 dX9_lifeRead_48 rfl ?_
      refine bf_iload_n r.1 dX9_lifeRead_49 rfl ?_
      refine bf_if_ne r.1 (tgt := 57) dX9_lifeRead_50 (by decide) (fun c705 => ?_) (fun c705 => ?_)
      · refine bf_iconst r.1 (v := nI 0) dX9_lifeRead_57 rfl ?_
        refine bf_bipush r.1 (v := nI 9) dX9_lifeRead_58 rfl ?_
        refine cl_v r (y2 := mX9_figure) dX9_lifeRead_60 li_X9_91 mv_X9_figure rfl (by decide) [.int (nI fr), .int (nI n), .int (-9), .int (nI 0), .int (nI 9)] [] rfl (Nat.le_of_ble_eq_true rfl) rfl (c_X9_figureN (by omega) (c := c) (fr := fr) (n := n) (t := 1) hn hf (fun t h => (bf_un (Or.inl (by decide))).trans ((fun t h => (bf_un (Or.inl (by decide))).trans ((fun t h => (bf_un (Or.inl (by decide))).trans ((fun t h => (bf_un (Or.inl (by decide))).trans (hcc t h)) t h)) t h)) t h)) bf_us (by omega) (lo := 0) (hi := 9) (by decide) (by decide) (by decide)) ?_
        show J 63 [some (.ref 37), some (.int (nI fr)), some (.int (nI n)), some (.int (-9)), none, none] [.int (-9)] (bf_MD (bf_u (bf_u (bf_u (bf_u (bf_u D 37 8 (nI 0)) 37 9 (nI 0)) 37 8 (nI 1)) 37 8 (nI 1)) 37 8 (nI 1)))
        refine bf_istore r.1 (L2 := [some (.ref 37), some (.int (nI fr)), some (.int (nI n)), some (.int (-9)), some (.int (-9)), none]) dX9_lifeRead_63 rfl ?_
        refine bf_iload r.1 dX9_lifeRead_65 rfl ?_
        refine bf_if_lt r.1 (tgt := 74) dX9_lifeRead_67 (by decide) (fun c706 => ?_) (fun c706 => ?_)
        · refine bf_iconst r.1 (v := nI 0) dX9_lifeRead_74 rfl ?_
          refine bf_istore r.1 (L2 := [some (.ref 37), some (.int (nI fr)), some (.int (nI n)), some (.int (-9)), some (.int (-9)), some (.int (nI 0))]) dX9_lifeRead_75 rfl ?_
          refine bf_iload r.1 dX9_lifeRead_77 rfl ?_
          refine nz_eq r (tgt := 108) dX9_lifeRead_79 (by decide) (by decide) (fun c707 => ?_) (fun c707 => ?_)
          · refine bf_iload r.1 dX9_lifeRead_108 rfl ?_
            refine nz_eq r (tgt := 123) dX9_lifeRead_110 (by decide) (by decide) (fun c708 => ?_) (fun c708 => ?_)
            · refine bf_bipush r.1 (v := -9) dX9_lifeRead_123 rfl ?_
              exact re_i r dX9_lifeRead_125 rfl rfl ⟨(fL8 (fL8 (fL8 (fL9 (fL8 fL0))))), Or.inr ⟨1, tf_h hh1 (fun q => by omega), rfl, bf_us⟩⟩
            · exact absurd rfl c708
          · exact absurd rfl c707
        · exact absurd (by decide) c706
      · exact absurd c705 (by decide)
  · refine bf_bipush r.1 (v := -9) dX9_lifeRead_21 rfl ?_
    exact re_i r dX9_lifeRead_23 rfl rfl ⟨(fL9 (fL8 fL0)), Or.inr ⟨0, tf_h ⟨⟨Nat.zero_le _, fun u hu => absurd hu (Nat.not_lt_zero _)⟩, fun q => c655 ((cEx_i (by decide)).mpr ⟨q.1, go_0i.mp q.2⟩)⟩ (fun q => by omega), rfl, ((bf_un (by decide)).trans bf_us)⟩⟩
