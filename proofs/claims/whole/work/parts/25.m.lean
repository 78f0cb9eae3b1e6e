/-! the search for the order -/
def bf_gp (g : Nat → Nat → Nat) (pre : List Nat) (k : Nat) : Nat := if pre.length = 0 then 0 else g (pre.getD (pre.length - 1) 0) k
def xK (g : Nat → Nat → Nat) (E : List Nat → Nat → Nat → Nat × List Nat → Nat × List Nat) (pre : List Nat) (us tg : Nat) : Nat → Nat × List Nat → Nat × List Nat
  | 0, st => st
  | k + 1, st => if us / 2 ^ k &&& 1 = 0 then E (pre ++ [k]) (us ||| 1 * 2 ^ k) (tg + bf_gp g pre k) (xK g E pre us tg k st) else xK g E pre us tg k st
def xE (g : Nat → Nat → Nat) (n : Nat) : Nat → List Nat → Nat → Nat → Nat × List Nat → Nat × List Nat
  | 0, pre, _, tg, st => if st.1 ≤ tg then st else (tg, pre)
  | f + 1, pre, us, tg, st => if st.1 ≤ tg then st else xK g (xE g n f) pre us tg n st
def bf_bst (D : bf_D) (n : Nat) (b : List Nat) : Prop := b.length = n → ∀ j, j < n → D 28 j = nI (b.getD j 0)
/-- the search's cells -/
def bf_xI (D0 D : bf_D) (n : Nat) (pre : List Nat) (st : Nat × List Nat) : Prop := D 24 5 = nI st.1 ∧ bf_bst D n st.2 ∧ (∀ j, j < pre.length → D 27 j = D0 27 j) ∧ D 24 4 = D0 24 4 ∧ ∀ a t, a ≠ 24 → a ≠ 27 → a ≠ 28 → D a t = D0 a t
theorem xE_le {g : Nat → Nat → Nat} {n : Nat} (hg : ∀ a b, a < n → b < n → g a b ≤ 1000) (hn : n ≤ 6) : ∀ (f : Nat) (pre : List Nat) (us tg : Nat) (st : Nat × List Nat), f + pre.length = n → (∀ x ∈ pre, x < n) → tg ≤ 1000 * pre.length → st.1 ≤ 10000 → (xE g n f pre us tg st).1 ≤ 10000 := by
  intro f
  induction f with
  | zero =>
    intro pre us tg st hf hp ht hs
    simp only [xE]
    split
    · exact hs
    · show tg ≤ 10000; omega
  | succ f ih =>
    intro pre us tg st hf hp ht hs
    simp only [xE]
    split
    · exact hs
    · have key : ∀ k, k ≤ n → (xK g (xE g n f) pre us tg k st).1 ≤ 10000 := by
        intro k
        induction k with
        | zero => intro _; exact hs
        | succ k ihk =>
          intro hk
          simp only [xK]
          split
          · refine ih _ _ _ _ (by rw [List.length_append]; show f + (pre.length + 1) = n; omega) (fun x hx => ?_) ?_ (ihk (by omega))
            · rcases List.mem_append.mp hx with h | h
              · exact hp x h
              · rw [List.mem_singleton.mp h]; omega
            · have h9 : bf_gp g pre k ≤ 1000 := by
                unfold bf_gp
                split
                · omega
                · rename_i h0
                  refine hg _ _ (hp _ ?_) (by omega)
                  rw [List.getD_eq_getElem?_getD, List.getElem?_eq_getElem (show pre.length - 1 < pre.length by omega)]
                  exact List.getElem_mem _
              rw [List.length_append]
              show _ ≤ 1000 * (pre.length + 1)
              omega
          · exact ihk (by omega)
      exact key n (Nat.le_refl _)
theorem xK_le {g : Nat → Nat → Nat} {n : Nat} (hg : ∀ a b, a < n → b < n → g a b ≤ 1000) (hn : n ≤ 6) {f : Nat} {pre : List Nat} {us tg : Nat} {st : Nat × List Nat} (hf : f + 1 + pre.length = n) (hp : ∀ x ∈ pre, x < n) (ht : tg ≤ 1000 * pre.length) (hs : st.1 ≤ 10000) : ∀ k, k ≤ n → (xK g (xE g n f) pre us tg k st).1 ≤ 10000 := by
  intro k
  induction k with
  | zero => intro _; exact hs
  | succ k ihk =>
    intro hk
    simp only [xK]
    split
    · refine xE_le hg hn f _ _ _ _ (by rw [List.length_append]; show f + (pre.length + 1) = n; omega) (fun x hx => ?_) ?_ (ihk (by omega))
      · rcases List.mem_append.mp hx with h | h
        · exact hp x h
        · rw [List.mem_singleton.mp h]; omega
      · have h9 : bf_gp g pre k ≤ 1000 := by
          unfold bf_gp
          split
          · omega
          · rename_i h0
            refine hg _ _ (hp _ ?_) (by omega)
            rw [List.getD_eq_getElem?_getD, List.getElem?_eq_getElem (show pre.length - 1 < pre.length by omega)]
            exact List.getElem_mem _
        rw [List.length_append]
        show _ ≤ 1000 * (pre.length + 1)
        omega
    · exact ihk (by omega)
theorem bf_last_lt {n : Nat} {pre : List Nat} (hp : ∀ x ∈ pre, x < n) (h0 : 0 < pre.length) : pre.getD (pre.length - 1) 0 < n := by
  refine hp _ ?_
  rw [List.getD_eq_getElem?_getD, List.getElem?_eq_getElem (show pre.length - 1 < pre.length by omega)]
  exact List.getElem_mem _
theorem bf_mem_app {n : Nat} {pre : List Nat} {k : Nat} (hp : ∀ x ∈ pre, x < n) (hk : k < n) : ∀ x ∈ pre ++ [k], x < n := by
  intro x hx
  rcases List.mem_append.mp hx with h | h
  · exact hp x h
  · rw [List.mem_singleton.mp h]; exact hk
theorem bf_gp_le {g : Nat → Nat → Nat} {n : Nat} {pre : List Nat} {k : Nat} (hg : ∀ a b, a < n → b < n → g a b ≤ 1000) (hp : ∀ x ∈ pre, x < n) (hk : k < n) : bf_gp g pre k ≤ 1000 := by
  unfold bf_gp
  split
  · omega
  · exact hg _ _ (bf_last_lt hp (by omega)) hk
theorem bf_getD_l {pre : List Nat} {k j : Nat} (h : j < pre.length) : (pre ++ [k]).getD j 0 = pre.getD j 0 := by
  rw [List.getD_eq_getElem?_getD, List.getD_eq_getElem?_getD, List.getElem?_append_left h]
theorem bf_getD_r {pre : List Nat} {k : Nat} : (pre ++ [k]).getD pre.length 0 = k := by
  rw [List.getD_eq_getElem?_getD, List.getElem?_append_right (Nat.le_refl _), Nat.sub_self]; rfl
theorem bf_pre_row {D2 : bf_D} {pre : List Nat} {k : Nat} (hR3 : ∀ j, j < pre.length → (bf_u D2 27 pre.length (nI k)) 27 j = nI (pre.getD j 0)) : ∀ j, j < (pre ++ [k]).length → bf_u D2 27 pre.length (nI k) 27 j = nI ((pre ++ [k]).getD j 0) := by
  intro j hj
  rw [List.length_append] at hj
  have h9 : j < pre.length + 1 := hj
  by_cases e1 : j = pre.length
  · subst e1; rw [bf_getD_r]; exact bf_us
  · rw [bf_getD_l (by omega)]; exact hR3 j (by omega)
theorem e_X1_extend {g : Nat → Nat → Nat} {n : Nat} (hn : n ≤ 6) (hg : ∀ a b, a < n → b < n → g a b ≤ 1000) : ∀ (f : Nat) {e : Nat} (hd : f + 1 ≤ e) {D : bf_D} {pre : List Nat} {us tg : Nat} {st : Nat × List Nat} (hf : f + pre.length = n) (hp : ∀ x ∈ pre, x < n) (hus : us < 64) (htg : tg ≤ 1000 * pre.length) (hst : st.1 ≤ 10000) (h4 : D 24 4 = nI n) (h5 : D 24 5 = nI st.1) (hG : ∀ a, a < n → ∀ b, b < n → D 26 (a * 6 + b) = nI (g a b)) (hR : ∀ j, j < pre.length → D 27 j = nI (pre.getD j 0)) (hB : bf_bst D n st.2), bf_Ce e mX1_extend [.ref 24, .int (nI pre.length), .int (nI us), .int (nI tg)] D (fun r D' => r = none ∧ bf_xI D D' n pre (xE g n f pre us tg st)) := by
  intro f
  induction f with
  | zero =>
    intro e0 hd D pre us tg st hf hp hus htg hst h4 h5 hG hR hB
    refine bf_Ce_of _ hd mo_X1_extend (Nat.le_of_ble_eq_true rfl) (fun e he J r => ?_)
    show J 0 [some (.ref 24), some (.int (nI pre.length)), some (.int (nI us)), some (.int (nI tg)), none, none] [] (bf_MD D)
    refine bf_iload_n r.1 dX1_extend_0 rfl ?_
    refine bf_aload_n r.1 dX1_extend_1 rfl ?_
    refine ig_int r (v := nI st.1) dX1_extend_2 fl_X1_49 rfl (by decide) rfl h5 ?_
    refine nc_lt r (tgt := 9) dX1_extend_5 (by decide) (by omega) (by omega) (fun c146 => ?_) (fun c146 => ?_)
    · refine bf_iload_n r.1 dX1_extend_9 rfl ?_
      refine bf_aload_n r.1 dX1_extend_10 rfl ?_
      refine ig_int r (v := nI n) dX1_extend_11 fl_X1_30 rfl (by decide) rfl h4 ?_
      refine nc_lt r (tgt := 40) dX1_extend_14 (by decide) (by omega) (by omega) (fun c147 => ?_) (fun c147 => ?_)
      · exact absurd c147 (by omega)
      · refine bf_aload_n r.1 dX1_extend_17 rfl ?_
        refine bf_iload_n r.1 dX1_extend_18 rfl ?_
        refine ip_int r dX1_extend_19 fp_X1_49 rfl (by decide) rfl ?_
        refine bf_aload_n r.1 dX1_extend_22 rfl ?_
        refine ig_ref r (b := 27) dX1_extend_23 fl_X1_18 rfl (by decide) rfl ?_
        refine bf_iconst r.1 (v := nI 0) dX1_extend_26 rfl ?_
        refine bf_aload_n r.1 dX1_extend_27 rfl ?_
        refine ig_ref r (b := 28) dX1_extend_28 fl_X1_21 rfl (by decide) rfl ?_
        refine bf_iconst r.1 (v := nI 0) dX1_extend_31 rfl ?_
        refine bf_aload_n r.1 dX1_extend_32 rfl ?_
        refine ig_int r (v := nI n) dX1_extend_33 fl_X1_30 rfl (by decide) rfl ((bf_un (by omega)).trans h4) ?_
        refine cl_cpy r (n0 := 6) (n1 := 6) dX1_extend_36 lw_X1_56 rfl rfl (by decide) (by decide) (by omega) (by omega) (Nat.le_of_ble_eq_true rfl) ?_
        exact re_v r dX1_extend_39 rfl ⟨rfl, by simp only [xE]; rw [if_neg (Nat.not_le.mpr c146)]; exact ⟨(if_neg (by decide)).trans bf_us, fun hl j hj => (by unfold bf_cpD; rw [if_pos rfl]; unfold va_cpy; rw [if_pos (by omega)]; rw [Nat.sub_zero, Nat.zero_add, bf_un (by omega)]; exact hR j (by omega)), fun j hj => (if_neg (by decide)).trans (bf_un (by omega)), (if_neg (by decide)).trans (bf_un (by omega)), fun a t h1 h2 h3 => (if_neg h3).trans (bf_un (by omega))⟩⟩
    · exact re_v r dX1_extend_8 rfl ⟨rfl, by simp only [xE]; rw [if_pos c146]; exact ⟨h5, hB, fun _ _ => rfl, rfl, fun _ _ _ _ _ => rfl⟩⟩
  | succ f ih =>
    intro e0 hd D pre us tg st hf hp hus htg hst h4 h5 hG hR hB
    refine bf_Ce_of _ hd mo_X1_extend (Nat.le_of_ble_eq_true rfl) (fun e he J r => ?_)
    show J 0 [some (.ref 24), some (.int (nI pre.length)), some (.int (nI us)), some (.int (nI tg)), none, none] [] (bf_MD D)
    refine bf_iload_n r.1 dX1_extend_0 rfl ?_
    refine bf_aload_n r.1 dX1_extend_1 rfl ?_
    refine ig_int r (v := nI st.1) dX1_extend_2 fl_X1_49 rfl (by decide) rfl h5 ?_
    refine nc_lt r (tgt := 9) dX1_extend_5 (by decide) (by omega) (by omega) (fun c148 => ?_) (fun c148 => ?_)
    · refine bf_iload_n r.1 dX1_extend_9 rfl ?_
      refine bf_aload_n r.1 dX1_extend_10 rfl ?_
      refine ig_int r (v := nI n) dX1_extend_11 fl_X1_30 rfl (by decide) rfl h4 ?_
      refine nc_lt r (tgt := 40) dX1_extend_14 (by decide) (by omega) (by omega) (fun c149 => ?_) (fun c149 => ?_)
      · refine bf_iconst r.1 (v := nI 0) dX1_extend_40 rfl ?_
        refine bf_istore r.1 (L2 := [some (.ref 24), some (.int (nI pre.length)), some (.int (nI us)), some (.int (nI tg)), some (.int (nI 0)), none]) dX1_extend_41 rfl ?_
        have lo : ∀ k : Nat, k ≤ n → ∀ D2 : bf_D, bf_xI D D2 n pre (xK g (xE g n f) pre us tg k st) → J 43 [some (.ref 24), some (.int (nI pre.length)), some (.int (nI us)), some (.int (nI tg)), some (.int (nI k)), none] [] (bf_MD D2) := by
          refine bf_down (fun k hle ih2 => ?_)
          intro D2 hI
          obtain ⟨i1, i2, i3, i4, i5⟩ := id hI
          have hxl := xK_le hg hn hf hp htg hst k hle (us := us)
          refine bf_iload r.1 dX1_extend_43 rfl ?_
          refine bf_aload_n r.1 dX1_extend_45 rfl ?_
          refine ig_int r (v := nI n) dX1_extend_46 fl_X1_30 rfl (by decide) rfl (i4.trans h4) ?_
          refine nc_ge r (tgt := 121) dX1_extend_49 (by decide) (by omega) (by omega) (fun c150 => ?_) (fun c150 => ?_)
          · have ek : n = k := by omega
            subst ek
            exact re_v r dX1_extend_121 rfl ⟨rfl, by simp only [xE]; rw [if_neg (Nat.not_le.mpr c148)]; exact hI⟩
          · refine bf_iload_n r.1 dX1_extend_52 rfl ?_
            refine bf_iload r.1 dX1_extend_53 rfl ?_
            refine na_shr r dX1_extend_55 (by omega) (by omega) ?_
            refine bf_iconst r.1 (v := nI 1) dX1_extend_56 rfl ?_
            refine na_and r dX1_extend_57  ?_
            refine nz_ne r (tgt := 115) dX1_extend_58 (by decide) (bf_and1_lt _) (fun c151 => ?_) (fun c151 => ?_)
            · refine na_inc r (v := k + 1) (L2 := [some (.ref 24), some (.int (nI pre.length)), some (.int (nI us)), some (.int (nI tg)), some (.int (nI (k + 1))), none]) dX1_extend_115 rfl (nI_add _ 1) rfl ?_
              refine bf_goto r.1 (tgt := 43) dX1_extend_118 (by decide) ?_
              refine ih2 (by omega) D2 ?_
              simp only [xK]
              rw [if_neg c151]
              exact hI
            · refine bf_aload_n r.1 dX1_extend_61 rfl ?_
              refine ig_ref r (b := 27) dX1_extend_62 fl_X1_18 rfl (by decide) rfl ?_
              refine bf_iload_n r.1 dX1_extend_65 rfl ?_
              refine bf_iload r.1 dX1_extend_66 rfl ?_
              refine ia_st r (n := 6) dX1_extend_68 rfl (by decide) (by omega) ?_
              have hR3 : ∀ j, j < pre.length → (bf_u D2 27 pre.length (nI k)) 27 j = nI (pre.getD j 0) := fun j hj => (bf_un (by omega)).trans ((i3 j hj).trans (hR j hj))
              refine bf_iload_n r.1 dX1_extend_69 rfl ?_
              refine nz_ne r (tgt := 77) dX1_extend_70 (by decide) (by omega) (fun c152 => ?_) (fun c152 => ?_)
              · refine bf_aload_n r.1 dX1_extend_77 rfl ?_
                refine ig_ref r (b := 26) dX1_extend_78 fl_X1_15 rfl (by decide) rfl ?_
                refine bf_aload_n r.1 dX1_extend_81 rfl ?_
                refine ig_ref r (b := 27) dX1_extend_82 fl_X1_18 rfl (by decide) rfl ?_
                refine bf_iload_n r.1 dX1_extend_85 rfl ?_
                refine bf_iconst r.1 (v := nI 1) dX1_extend_86 rfl ?_
                refine na_sub r dX1_extend_87 (by omega) ?_
                refine ia_ld r (n := 6) (v := nI (pre.getD (pre.length - 1) 0)) dX1_extend_88 rfl (by decide) (by omega) (hR3 _ (by omega)) ?_
                refine bf_bipush r.1 (v := nI 6) dX1_extend_89 rfl ?_
                refine na_mul r dX1_extend_91  ?_
                refine bf_iload r.1 dX1_extend_92 rfl ?_
                refine na_add r dX1_extend_94  ?_
                refine ia_ld r (n := 36) (v := nI (g (pre.getD (pre.length - 1) 0) k)) dX1_extend_95 rfl (by decide) (by have := bf_last_lt hp (show 0 < pre.length by omega); omega) ((bf_un (by omega)).trans ((i5 26 _ (by decide) (by decide) (by decide)).trans (hG _ (bf_last_lt hp (by omega)) k (by omega)))) ?_
                refine eq_i (v := nI (bf_gp g pre k)) (by unfold bf_gp; rw [if_neg c152]) ?_
                refine bf_istore r.1 (L2 := [some (.ref 24), some (.int (nI pre.length)), some (.int (nI us)), some (.int (nI tg)), some (.int (nI k)), some (.int (nI (bf_gp g pre k)))]) dX1_extend_96 rfl ?_
                refine bf_aload_n r.1 dX1_extend_98 rfl ?_
                refine bf_iload_n r.1 dX1_extend_99 rfl ?_
                refine bf_iconst r.1 (v := nI 1) dX1_extend_100 rfl ?_
                refine na_add r dX1_extend_101  ?_
                refine bf_iload_n r.1 dX1_extend_102 rfl ?_
                refine bf_iconst r.1 (v := nI 1) dX1_extend_103 rfl ?_
                refine bf_iload r.1 dX1_extend_104 rfl ?_
                refine na_shl r dX1_extend_106 (by omega) (bf_sh1 (by omega)) ?_
                refine na_or r dX1_extend_107  ?_
                refine bf_iload_n r.1 dX1_extend_108 rfl ?_
                refine bf_iload r.1 dX1_extend_109 rfl ?_
                refine na_add r dX1_extend_111  ?_
                have hgp : bf_gp g pre k ≤ 1000 := bf_gp_le hg hp (by omega)
                have hE := ih (e := e) (by omega) (D := bf_u D2 27 pre.length (nI k)) (pre := pre ++ [k]) (us := us ||| 1 * 2 ^ k) (tg := tg + bf_gp g pre k) (st := xK g (xE g n f) pre us tg k st) (by rw [List.length_append]; show f + (pre.length + 1) = n; omega) (bf_mem_app hp (by omega)) (Nat.or_lt_two_pow (n := 6) hus (bf_p2 (by omega))) (by rw [List.length_append]; show _ ≤ 1000 * (pre.length + 1); omega) hxl ((bf_un (by omega)).trans (i4.trans h4)) ((bf_un (by omega)).trans i1) (fun a ha b hb => (bf_un (by omega)).trans ((i5 26 _ (by decide) (by decide) (by decide)).trans (hG a ha b hb))) (bf_pre_row hR3) (fun hl j hj => (bf_un (by omega)).trans (i2 hl j hj))
                rw [List.length_append] at hE
                refine ce_s r (y2 := mX1_extend) dX1_extend_112 li_X1_52 mv_X1_extend [.ref 24, .int (nI (pre.length + 1)), .int (nI (us ||| (1 * 2 ^ k))), .int (nI (tg + (bf_gp g pre k)))] [] rfl (Nat.le_of_ble_eq_true rfl) rfl hE (fun res D153 hq153 => ?_)
                obtain ⟨rfl, j1153, j2153, j3153, j4153, j5153⟩ := hq153
                show J 115 [some (.ref 24), some (.int (nI pre.length)), some (.int (nI us)), some (.int (nI tg)), some (.int (nI k)), some (.int (nI (bf_gp g pre k)))] [] (bf_MD D153)
                refine na_inc r (v := k + 1) (L2 := [some (.ref 24), some (.int (nI pre.length)), some (.int (nI us)), some (.int (nI tg)), some (.int (nI (k + 1))), some (.int (nI (bf_gp g pre k)))]) dX1_extend_115 rfl (nI_add _ 1) rfl ?_
                refine bf_goto r.1 (tgt := 43) dX1_extend_118 (by decide) ?_
                refine bf_fgt r.1 (i := 5) (L2 := [some (.ref 24), some (.int (nI pre.length)), some (.int (nI us)), some (.int (nI tg)), some (.int (nI (k + 1))), none]) rfl ?_
                refine ih2 (by omega) D153 ?_
                simp only [xK]
                rw [if_pos c151]
                exact ⟨j1153, j2153, fun j hj => (j3153 j (by rw [List.length_append]; show j < pre.length + 1; omega)).trans ((bf_un (by omega)).trans (i3 j hj)), j4153.trans ((bf_un (by omega)).trans i4), fun a t h1 h2 h3 => (j5153 a t h1 h2 h3).trans ((bf_un (by omega)).trans (i5 a t h1 h2 h3))⟩
              · refine bf_iconst r.1 (v := nI 0) dX1_extend_73 rfl ?_
                refine bf_goto r.1 (tgt := 96) dX1_extend_74 (by decide) ?_
                refine eq_i (v := nI (bf_gp g pre k)) (by unfold bf_gp; rw [if_pos c152]) ?_
                refine bf_istore r.1 (L2 := [some (.ref 24), some (.int (nI pre.length)), some (.int (nI us)), some (.int (nI tg)), some (.int (nI k)), some (.int (nI (bf_gp g pre k)))]) dX1_extend_96 rfl ?_
                refine bf_aload_n r.1 dX1_extend_98 rfl ?_
                refine bf_iload_n r.1 dX1_extend_99 rfl ?_
                refine bf_iconst r.1 (v := nI 1) dX1_extend_100 rfl ?_
                refine na_add r dX1_extend_101  ?_
                refine bf_iload_n r.1 dX1_extend_102 rfl ?_
                refine bf_iconst r.1 (v := nI 1) dX1_extend_103 rfl ?_
                refine bf_iload r.1 dX1_extend_104 rfl ?_
                refine na_shl r dX1_extend_106 (by omega) (bf_sh1 (by omega)) ?_
                refine na_or r dX1_extend_107  ?_
                refine bf_iload_n r.1 dX1_extend_108 rfl ?_
                refine bf_iload r.1 dX1_extend_109 rfl ?_
                refine na_add r dX1_extend_111  ?_
                have hgp : bf_gp g pre k ≤ 1000 := bf_gp_le hg hp (by omega)
                have hE := ih (e := e) (by omega) (D := bf_u D2 27 pre.length (nI k)) (pre := pre ++ [k]) (us := us ||| 1 * 2 ^ k) (tg := tg + bf_gp g pre k) (st := xK g (xE g n f) pre us tg k st) (by rw [List.length_append]; show f + (pre.length + 1) = n; omega) (bf_mem_app hp (by omega)) (Nat.or_lt_two_pow (n := 6) hus (bf_p2 (by omega))) (by rw [List.length_append]; show _ ≤ 1000 * (pre.length + 1); omega) hxl ((bf_un (by omega)).trans (i4.trans h4)) ((bf_un (by omega)).trans i1) (fun a ha b hb => (bf_un (by omega)).trans ((i5 26 _ (by decide) (by decide) (by decide)).trans (hG a ha b hb))) (bf_pre_row hR3) (fun hl j hj => (bf_un (by omega)).trans (i2 hl j hj))
                rw [List.length_append] at hE
                refine ce_s r (y2 := mX1_extend) dX1_extend_112 li_X1_52 mv_X1_extend [.ref 24, .int (nI (pre.length + 1)), .int (nI (us ||| (1 * 2 ^ k))), .int (nI (tg + (bf_gp g pre k)))] [] rfl (Nat.le_of_ble_eq_true rfl) rfl hE (fun res D154 hq154 => ?_)
                obtain ⟨rfl, j1154, j2154, j3154, j4154, j5154⟩ := hq154
                show J 115 [some (.ref 24), some (.int (nI pre.length)), some (.int (nI us)), some (.int (nI tg)), some (.int (nI k)), some (.int (nI (bf_gp g pre k)))] [] (bf_MD D154)
                refine na_inc r (v := k + 1) (L2 := [some (.ref 24), some (.int (nI pre.length)), some (.int (nI us)), some (.int (nI tg)), some (.int (nI (k + 1))), some (.int (nI (bf_gp g pre k)))]) dX1_extend_115 rfl (nI_add _ 1) rfl ?_
                refine bf_goto r.1 (tgt := 43) dX1_extend_118 (by decide) ?_
                refine bf_fgt r.1 (i := 5) (L2 := [some (.ref 24), some (.int (nI pre.length)), some (.int (nI us)), some (.int (nI tg)), some (.int (nI (k + 1))), none]) rfl ?_
                refine ih2 (by omega) D154 ?_
                simp only [xK]
                rw [if_pos c151]
                exact ⟨j1154, j2154, fun j hj => (j3154 j (by rw [List.length_append]; show j < pre.length + 1; omega)).trans ((bf_un (by omega)).trans (i3 j hj)), j4154.trans ((bf_un (by omega)).trans i4), fun a t h1 h2 h3 => (j5154 a t h1 h2 h3).trans ((bf_un (by omega)).trans (i5 a t h1 h2 h3))⟩
        exact lo 0 (Nat.zero_le _) D ⟨h5, hB, fun _ _ => rfl, rfl, fun _ _ _ _ _ => rfl⟩
      · exact absurd c149 (by omega)
    · exact re_v r dX1_extend_8 rfl ⟨rfl, by simp only [xE]; rw [if_pos c148]; exact ⟨h5, hB, fun _ _ => rfl, rfl, fun _ _ _ _ _ => rfl⟩⟩
def xS (g : Nat → Nat → Nat) (n : Nat) : Nat × List Nat := xE g n n [] 0 0 (169, [])
theorem e_X1_search {d : Nat} (hd : 8 ≤ d) {g : Nat → Nat → Nat} {n : Nat} (hn : n ≤ 6) (hg : ∀ a b, a < n → b < n → g a b ≤ 1000) {D : bf_D} (h4 : D 24 4 = nI n) (hG : ∀ a, a < n → ∀ b, b < n → D 26 (a * 6 + b) = nI (g a b)) : bf_Ce d mX1_search [.ref 24] D (fun r D' => r = none ∧ D' 24 5 = nI (xS g n).1 ∧ bf_bst D' n (xS g n).2 ∧ D' 24 4 = nI n ∧ bf_fr 24 29 D D') := by
  refine bf_Ce_of 7 hd mo_X1_search (Nat.le_of_ble_eq_true rfl) (fun e he J r => ?_)
  show J 0 [some (.ref 24)] [] (bf_MD D)
  refine bf_aload_n r.1 dX1_search_0 rfl ?_
  refine bf_sipush r.1 (v := nI 169) dX1_search_1 rfl ?_
  refine ip_int r dX1_search_4 fp_X1_49 rfl (by decide) rfl ?_
  refine bf_aload_n r.1 dX1_search_7 rfl ?_
  refine bf_iconst r.1 (v := nI 0) dX1_search_8 rfl ?_
  refine bf_iconst r.1 (v := nI 0) dX1_search_9 rfl ?_
  refine bf_iconst r.1 (v := nI 0) dX1_search_10 rfl ?_
  refine ce_s r (y2 := mX1_extend) dX1_search_11 li_X1_52 mv_X1_extend [.ref 24, .int (nI 0), .int (nI 0), .int (nI 0)] [] rfl (Nat.le_of_ble_eq_true rfl) rfl (e_X1_extend hn hg n (by omega) (D := bf_u D 24 5 (nI 169)) (pre := []) (us := 0) (tg := 0) (st := (169, [])) rfl (fun x h => absurd h List.not_mem_nil) (by decide) (Nat.le_refl _) (by decide) ((bf_un (by omega)).trans h4) bf_us (fun a ha b hb => (bf_un (by omega)).trans (hG a ha b hb)) (fun j h => absurd h (Nat.not_lt_zero _)) (fun hl j hj => absurd hj (by have h9 : 0 = n := hl; omega))) (fun res D155 hq155 => ?_)
  obtain ⟨rfl, j1, j2, j3, j4, j5⟩ := hq155
  show J 14 [some (.ref 24)] [] (bf_MD D155)
  exact re_v r dX1_search_14 rfl ⟨rfl, j1, j2, j4.trans ((bf_un (by omega)).trans h4), fun a t ha => (j5 a t (by omega) (by omega) (by omega)).trans (bf_un (by omega))⟩
theorem c_X1_fewest {d : Nat} (hd : 1 ≤ d) {D : bf_D} {x : Nat} (h5 : D 24 5 = nI x) : bf_Cf d mX1_fewest [.ref 24] D (some (.int (nI x))) D := by
  refine bf_Cf_of 0 hd mo_X1_fewest (Nat.le_of_ble_eq_true rfl) (fun e he J r => ?_)
  show J 0 [some (.ref 24)] [] (bf_MD D)
  refine bf_aload_n r.1 dX1_fewest_0 rfl ?_
  refine ig_int r (v := nI x) dX1_fewest_1 fl_X1_49 rfl (by decide) rfl h5 ?_
  exact rt_i r dX1_fewest_4 rfl rfl rfl rfl
theorem c_X1_placeOfN {d : Nat} (hd : 2 ≤ d) {D : bf_D} {n x : Nat} (hn : n ≤ 6) (h4 : D 24 4 = nI n) (hx : x < n) {v : Nat} (hv : D 28 x = nI v) : bf_Cf d mX1_placeOf [.ref 24, .int (nI x)] D (some (.int (nI v))) D := by
  refine bf_Cf_of 1 hd mo_X1_placeOf (Nat.le_of_ble_eq_true rfl) (fun e he J r => ?_)
  show J 0 [some (.ref 24), some (.int (nI x))] [] (bf_MD D)
  refine bf_iload_n r.1 dX1_placeOf_0 rfl ?_
  refine bf_aload_n r.1 dX1_placeOf_1 rfl ?_
  refine ig_int r (v := nI n) dX1_placeOf_2 fl_X1_30 rfl (by decide) rfl h4 ?_
  refine cl_s r (y2 := mX8_isWithin) dX1_placeOf_5 li_X1_62 mv_X8_isWithin [.int (nI x), .int (nI n)] [] rfl (Nat.le_of_ble_eq_true rfl) rfl (c_X8_isWithinN (by omega) D (by omega) (by omega)) ?_
  show J 8 [some (.ref 24), some (.int (nI x))] [.int (if x < n then 1 else 0)] (bf_MD D)
  refine nb_eq r (tgt := 20) dX1_placeOf_8 (by decide) (fun c156 => ?_) (fun c156 => ?_)
  · exact absurd hx c156
  · refine bf_aload_n r.1 dX1_placeOf_11 rfl ?_
    refine ig_ref r (b := 28) dX1_placeOf_12 fl_X1_21 rfl (by decide) rfl ?_
    refine bf_iload_n r.1 dX1_placeOf_15 rfl ?_
    refine ia_ld r (n := 6) (v := nI v) dX1_placeOf_16 rfl (by decide) (by omega) hv ?_
    refine bf_goto r.1 (tgt := 22) dX1_placeOf_17 (by decide) ?_
    exact rt_i r dX1_placeOf_22 rfl rfl rfl rfl
theorem c_X1_placeOfO {d : Nat} (hd : 2 ≤ d) {D : bf_D} {n x : Nat} (hn : n ≤ 6) (h4 : D 24 4 = nI n) (hx : n ≤ x) (hx2 : x < 100) : bf_Cf d mX1_placeOf [.ref 24, .int (nI x)] D (some (.int (-9))) D := by
  refine bf_Cf_of 1 hd mo_X1_placeOf (Nat.le_of_ble_eq_true rfl) (fun e he J r => ?_)
  show J 0 [some (.ref 24), some (.int (nI x))] [] (bf_MD D)
  refine bf_iload_n r.1 dX1_placeOf_0 rfl ?_
  refine bf_aload_n r.1 dX1_placeOf_1 rfl ?_
  refine ig_int r (v := nI n) dX1_placeOf_2 fl_X1_30 rfl (by decide) rfl h4 ?_
  refine cl_s r (y2 := mX8_isWithin) dX1_placeOf_5 li_X1_62 mv_X8_isWithin [.int (nI x), .int (nI n)] [] rfl (Nat.le_of_ble_eq_true rfl) rfl (c_X8_isWithinN (by omega) D (by omega) (by omega)) ?_
  show J 8 [some (.ref 24), some (.int (nI x))] [.int (if x < n then 1 else 0)] (bf_MD D)
  refine nb_eq r (tgt := 20) dX1_placeOf_8 (by decide) (fun c157 => ?_) (fun c157 => ?_)
  · refine bf_bipush r.1 (v := -9) dX1_placeOf_20 rfl ?_
    exact rt_i r dX1_placeOf_22 rfl rfl rfl rfl
  · exact absurd c157 (by omega)
