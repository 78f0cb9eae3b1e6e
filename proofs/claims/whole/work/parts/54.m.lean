/-! the law's start: both objects are made, then the loop -/
theorem bf_C.cg {E : bf_E} {h h' : bf_Hp} {a : Nat} {H : Heap} (hc : bf_C E h a H) (hq : ∀ j, j < (bf_kd a).2 → h' a j = h a j) : bf_C E h' a H := by
  unfold bf_C at hc ⊢
  split at hc
  · rename_i h1
    rw [if_pos h1]
    exact hc.to (fun j hj => by rw [hq j hj])
  · rename_i h1
    rw [if_neg h1, hc]
    have e : (fun j : Fin (bf_kd a).2 => bf_cv (bf_ad E) (h a j.val)) = fun j : Fin (bf_kd a).2 => bf_cv (bf_ad E) (h' a j.val) := funext fun j => by rw [hq j.val j.isLt]
    unfold arrV
    rw [e]
theorem bf_HR.cg {E : bf_E} {h h' : bf_Hp} {H : Heap} (hh : bf_HR E (57, h) H) (hq : ∀ b, b < 57 → ∀ j, j < (bf_kd b).2 → h' b j = h b j) : bf_HR E (57, h') H :=
  ⟨hh.1, hh.2.1, fun a ha => (hh.2.2 a ha).cg (hq a ha)⟩
def law_cg (J : bf_J) : Prop := ∀ (pc : Nat) (L : bf_L) (S : List Value) (h h' : bf_Hp), (∀ b, b < 57 → ∀ j, j < (bf_kd b).2 → h' b j = h b j) → J pc L S (57, h') → J pc L S (57, h)
theorem law_start {e : Nat} (he : 20 ≤ e) {J : bf_J} (r : bf_All (bf_Cl e) 57 PL mL J) {xs : Nat → Int32} {Ln : Nat} (hs : scR xs Ln J) (hL : Ln ≤ 448) (hc : law_cg J) (h0 : bf_Hp) : J 0 (bf_ini 4 [.ref 102]) [] (0, h0) := by
  show J 0 [some (.ref 102), none, none, none] [] (0, h0)
  refine r.2.1.2.2.2.2.1 0 [some (.ref 102), none, none, none] [] (0, h0) 7 7 7 (fun j => defaultValue (tyX8 j)) dL_law_0 nw_L_7 rfl (show 0 < 57 by decide) df_X8 (fun j => dv_ok _) ?_
  show J 3 [some (.ref 102), none, none, none] [.ref 0] (1, bf_fill h0 0 (fun j => defaultValue (tyX8 j)))
  refine bf_dup r.1 dL_law_3 rfl ?_
  refine r.2.1.2.2.1 4 [some (.ref 102), none, none, none] [.ref 0] [.ref 0, .ref 0] (1, bf_fill h0 0 (fun j => defaultValue (tyX8 j))) 9 mX8_init 0 0 [] 37 (bf_Pi 0 37 (bf_fill h0 0 (fun j => defaultValue (tyX8 j)))) dL_law_4 li_L_9 mv_X8_init rfl (by decide) rfl (c_X8_init (by omega) (fun j => by simp [bf_fill])) (by decide) (fun r1 G1 hp _ => ?_)
  obtain ⟨rfl, h1, rfl, -, fin1⟩ := hp
  show J 7 [some (.ref 102), none, none, none] [.ref 0] (37, h1)
  refine bf_astore_n r.1 dL_law_7 rfl ?_
  show J 8 [some (.ref 102), some (.ref 0), none, none] [] (37, h1)
  refine r.2.1.2.2.2.2.1 8 [some (.ref 102), some (.ref 0), none, none] [] (37, h1) 10 8 28 (fun j => defaultValue (tyX9 j)) dL_law_8 nw_L_10 rfl (show 37 < 57 by decide) df_X9 (fun j => dv_ok _) ?_
  show J 11 [some (.ref 102), some (.ref 0), none, none] [.ref 37] (38, bf_fill h1 37 (fun j => defaultValue (tyX9 j)))
  refine bf_dup r.1 dL_law_11 rfl ?_
  refine r.2.1.2.2.1 12 [some (.ref 102), some (.ref 0), none, none] [.ref 37] [.ref 37, .ref 37] (38, bf_fill h1 37 (fun j => defaultValue (tyX9 j))) 12 mX9_init 0 37 [] 57 (bf_Pi 37 57 (bf_fill h1 37 (fun j => defaultValue (tyX9 j)))) dL_law_12 li_L_12 mv_X9_init rfl (by decide) rfl (c_X9_init (by omega) (fun j => by simp [bf_fill])) (by decide) (fun r2 G2 hp _ => ?_)
  obtain ⟨rfl, h2, rfl, fr2, fin2⟩ := hp
  show J 15 [some (.ref 102), some (.ref 0), none, none] [.ref 37] (57, h2)
  refine bf_astore_n r.1 dL_law_15 rfl ?_
  refine bf_iconst r.1 (v := nI 0) dL_law_16 rfl ?_
  refine bf_istore_n r.1 dL_law_17 rfl ?_
  refine hc 18 [some (.ref 102), some (.ref 0), some (.ref 37), some (.int (nI 0))] [] h2 (bf_mk D0) (fun b hb j hj => ?_) (law_loop he r hs hL Ln 0 st0 D0 (by omega) (by omega) v_st0 c_st0 m_st0)
  by_cases h37 : b < 37
  · rw [fr2 b h37 j]
    have e37 : b ≠ 37 := by omega
    simp only [bf_fill, e37, if_false]
    exact (fin1 b (Nat.zero_le _) h37 j hj).symm
  · exact (fin2 b (by omega) hb j hj).symm
