/-! constructors: over any heap, cell by cell -/
def D0 : bf_D := fun a j => if a = 5 then nI (bf_lk j) else if a = 53 then -1 else if (a = 29 ∨ a = 31 ∨ a = 33 ∨ a = 35) ∧ j = 1 then -1 else 0
theorem ci_of {d : Nat} {y : bf_M} {vs : List Value} {G : bf_G} {n' n : Nat} {Post : bf_P} (k : Nat) (hd : k + 1 ≤ d) (ho : bf_mo y n) (hG : G.1 ≤ n') (hn : n' ≤ 57) (hl : (bf_sl vs).length ≤ y.2.2.1) (h : ∀ (e : Nat), k ≤ e → ∀ J : bf_J, bf_All (bf_Cl e) n' Post y J → J 0 (bf_ini y.2.2.1 vs) [] G) : bf_Cl d y vs G n' Post := by
  obtain ⟨e, rfl⟩ : ∃ e, d = e + 1 := ⟨d - 1, by omega⟩
  exact ⟨⟨ho.1, ho.2.2.1⟩, hG, hn, hl, h e (by omega)⟩
theorem dv_ok (ty : FieldType) : bf_cv (fun k => k) (defaultValue ty) = defaultValue ty ∧ ∀ k, defaultValue ty ≠ .ref k := by
  cases ty <;> exact ⟨rfl, fun k h => by cases h⟩
section
variable {h h0 h' : bf_Hp} {a b i j n lo a0 : Nat} {v w : Value} {f : Nat → Value}
theorem up_s : bf_up h a j v a j = v := by simp [bf_up]
theorem up_o (hq : b ≠ a ∨ i ≠ j) (e : h b i = w) : bf_up h a j v b i = w := by
  rw [← e]
  unfold bf_up
  by_cases h1 : b = a
  · rw [if_pos h1, if_neg (by omega)]
  · rw [if_neg h1]
theorem fl_s (e : f i = w) : bf_fill h a f a i = w := by simp [bf_fill, e]
theorem fl_o (hq : b ≠ a) (e : h b i = w) : bf_fill h a f b i = w := by simp [bf_fill, hq, e]
def FR (a0 : Nat) (h0 h : bf_Hp) : Prop := ∀ b, b < a0 → ∀ j, h b j = h0 b j
theorem FR_0 : FR a0 h0 h0 := fun _ _ _ => rfl
theorem FR_up (hq : a0 ≤ a) (e : FR a0 h0 h) : FR a0 h0 (bf_up h a j v) := fun b hb i => up_o (Or.inl (by omega)) (e b hb i)
theorem FR_fl (hq : a0 ≤ a) (e : FR a0 h0 h) : FR a0 h0 (bf_fill h a f) := fun b hb i => fl_o (by omega) (e b hb i)
theorem FR_cl (hq : a0 ≤ n) (e : FR a0 h0 h) (e2 : FR n h h') : FR a0 h0 h' := fun b hb i => (e2 b (by omega) i).trans (e b hb i)
def FIN (lo n : Nat) (h : bf_Hp) : Prop := ∀ b, lo ≤ b → b < n → ∀ j, j < (bf_kd b).2 → h b j = bf_mk D0 b j
theorem FIN_0 : FIN lo lo h := fun b h1 h2 => absurd h2 (by omega)
theorem FIN_up (hq : a < lo) (e : FIN lo n h) : FIN lo n (bf_up h a j v) := fun b h1 h2 i hi => up_o (Or.inl (by omega)) (e b h1 h2 i hi)
theorem FIN_fl (e : FIN lo n h) : FIN lo n (bf_fill h n f) := fun b h1 h2 i hi => fl_o (by omega) (e b h1 h2 i hi)
theorem FIN_cl {n1 : Nat} (e : FIN lo n h) (e2 : FR n h h') (e3 : FIN n n1 h') : FIN lo n1 h' := fun b h1 h2 i hi => by
  by_cases q : b < n
  · exact (e2 b q i).trans (e b h1 q i hi)
  · exact e3 b (by omega) h2 i hi
def ZR (a : Nat) (h : bf_Hp) : Prop := ∀ j, h a j = .int 0
theorem ZR_s : ZR a (bf_fill h a (fun _ => .int 0)) := fun j => fl_s rfl
theorem ZR_up (hq : a ≠ b) (e : ZR a h) : ZR a (bf_up h b j v) := fun i => up_o (Or.inl hq) (e i)
theorem ZR_fl (hq : a ≠ b) (e : ZR a h) : ZR a (bf_fill h b f) := fun i => fl_o hq (e i)
theorem ZR_m {n : Nat} (hk : bf_kd a = (9, n)) (ha : a < 57) (hz : ∀ j, D0 a j = 0) (e : ZR a h) : ∀ j, j < (bf_kd a).2 → h a j = bf_mk D0 a j := fun j _ => by rw [e j, bf_mk0 (bf_rt9 hk ha j), hz j]
end
theorem eq_v {J : bf_J} {pc : Nat} {L : bf_L} {S : List Value} {G : bf_G} {v w : Value} (h : v = w) (k : J pc L (w :: S) G) : J pc L (v :: S) G := by rw [h]; exact k
def bf_Pi (a0 n1 : Nat) (h0 : bf_Hp) : bf_P := fun r G => r = none ∧ ∃ h, G = (n1, h) ∧ FR a0 h0 h ∧ FIN a0 n1 h
theorem df_X0 : bf_dfl 0 (fun j => defaultValue (tyX0 j)) := ⟨(RX0, TX0, 1), tyX0, ⟨rfl, bf_in0, tyX0_ok, nmX0⟩, fun _ _ => rfl⟩
theorem df_X1 : bf_dfl 1 (fun j => defaultValue (tyX1 j)) := ⟨(RX1, TX1, 6), tyX1, ⟨rfl, bf_in1, tyX1_ok, nmX1⟩, fun _ _ => rfl⟩
theorem df_X2 : bf_dfl 2 (fun j => defaultValue (tyX2 j)) := ⟨(RX2, TX2, 5), tyX2, ⟨rfl, bf_in2, tyX2_ok, nmX2⟩, fun _ _ => rfl⟩
theorem df_X3 : bf_dfl 3 (fun j => defaultValue (tyX3 j)) := ⟨(RX3, TX3, 6), tyX3, ⟨rfl, bf_in3, tyX3_ok, nmX3⟩, fun _ _ => rfl⟩
theorem df_X4 : bf_dfl 4 (fun j => defaultValue (tyX4 j)) := ⟨(RX4, TX4, 4), tyX4, ⟨rfl, bf_in4, tyX4_ok, nmX4⟩, fun _ _ => rfl⟩
theorem df_X5 : bf_dfl 5 (fun j => defaultValue (tyX5 j)) := ⟨(RX5, TX5, 3), tyX5, ⟨rfl, bf_in5, tyX5_ok, nmX5⟩, fun _ _ => rfl⟩
theorem df_X6 : bf_dfl 6 (fun j => defaultValue (tyX6 j)) := ⟨(RX6, TX6, 2), tyX6, ⟨rfl, bf_in6, tyX6_ok, nmX6⟩, fun _ _ => rfl⟩
theorem df_X8 : bf_dfl 7 (fun j => defaultValue (tyX8 j)) := ⟨(RX8, TX8, 7), tyX8, ⟨rfl, bf_in7, tyX8_ok, nmX8⟩, fun _ _ => rfl⟩
theorem df_X9 : bf_dfl 8 (fun j => defaultValue (tyX9 j)) := ⟨(RX9, TX9, 28), tyX9, ⟨rfl, bf_in8, tyX9_ok, nmX9⟩, fun _ _ => rfl⟩
theorem FR_w {a b : Nat} {h h' : bf_Hp} (hq : a ≤ b) (e : FR b h h') : FR a h h' := fun c hc => e c (by omega)
def xc8 (s a b : Int32) : Int32 := s ^^^ (((((s >>> (a &&& 31)) ^^^ (s >>> (b &&& 31))) &&& nI 1) <<< (a &&& 31)) ||| ((((s >>> (a &&& 31)) ^^^ (s >>> (b &&& 31))) &&& nI 1) <<< (b &&& 31)))
def mir8 (s : Int32) : Int32 := xc8 (xc8 s (nI 1) (nI 5)) (nI 2) (nI 4)
def trn8 (s : Int32) : Int32 := xc8 (xc8 (xc8 s (nI 0) (nI 3)) (nI 1) (nI 2)) (nI 4) (nI 5)
def bf_Pr (v : Int32) (G0 : bf_G) : bf_P := fun r G => r = some (.int v) ∧ G = G0
theorem c_X0_exchanged {d : Nat} (hd : 1 ≤ d) {G : bf_G} (hG : G.1 ≤ 57) (s a b : Int32) : bf_Cl d mX0_exchanged [.int s, .int a, .int b] G G.1 (bf_Pr (xc8 s a b) G) := by
  refine ci_of 0 hd mo_X0_exchanged (Nat.le_refl _) hG (Nat.le_of_ble_eq_true rfl) (fun e he J r => ?_)
  show J 0 [some (.int (s)), some (.int (a)), some (.int (b)), none] [] G
  refine bf_iload_n r.1 dX0_exchanged_0 rfl ?_
  refine bf_iload_n r.1 dX0_exchanged_1 rfl ?_
  refine bf_ishr r.1 dX0_exchanged_2 ?_
  refine bf_iload_n r.1 dX0_exchanged_3 rfl ?_
  refine bf_iload_n r.1 dX0_exchanged_4 rfl ?_
  refine bf_ishr r.1 dX0_exchanged_5 ?_
  refine bf_ixor r.1 dX0_exchanged_6 ?_
  refine bf_iconst r.1 (v := nI 1) dX0_exchanged_7 rfl ?_
  refine bf_iand r.1 dX0_exchanged_8 ?_
  refine bf_istore_n r.1 (L2 := [some (.int (s)), some (.int (a)), some (.int (b)), some (.int (((s >>> (a &&& 31)) ^^^ (s >>> (b &&& 31))) &&& (nI 1)))]) dX0_exchanged_9 rfl ?_
  refine bf_iload_n r.1 dX0_exchanged_10 rfl ?_
  refine bf_iload_n r.1 dX0_exchanged_11 rfl ?_
  refine bf_iload_n r.1 dX0_exchanged_12 rfl ?_
  refine bf_ishl r.1 dX0_exchanged_13 ?_
  refine bf_iload_n r.1 dX0_exchanged_14 rfl ?_
  refine bf_iload_n r.1 dX0_exchanged_15 rfl ?_
  refine bf_ishl r.1 dX0_exchanged_16 ?_
  refine bf_ior r.1 dX0_exchanged_17 ?_
  refine bf_ixor r.1 dX0_exchanged_18 ?_
  exact r.2.2.2.1 19 _ G _ .int dX0_exchanged_19 rfl rfl rfl ⟨rfl, rfl⟩
theorem c_X0_leftRight {d : Nat} (hd : 2 ≤ d) {G : bf_G} (hG : G.1 ≤ 57) (s : Int32) : bf_Cl d mX0_leftRight [.int s] G G.1 (bf_Pr (mir8 s) G) := by
  refine ci_of 1 hd mo_X0_leftRight (Nat.le_refl _) hG (Nat.le_of_ble_eq_true rfl) (fun e he J r => ?_)
  show J 0 [some (.int (s))] [] G
  refine bf_iload_n r.1 dX0_leftRight_0 rfl ?_
  refine bf_iconst r.1 (v := nI 1) dX0_leftRight_1 rfl ?_
  refine bf_iconst r.1 (v := nI 5) dX0_leftRight_2 rfl ?_
  refine r.2.1.2.1 3 [some (.int (s))] [] _ (G.1, G.2) 29 mX0_exchanged 3 [.int (s), .int (nI 1), .int (nI 5)] G.1 _ dX0_leftRight_3 li_X0_29 mv_X0_exchanged rfl (Nat.le_of_ble_eq_true rfl) rfl (c_X0_exchanged (by omega) hG s (nI 1) (nI 5)) (Nat.le_refl _) (fun res G783 hq783 hg783 => ?_)
  obtain ⟨rfl, hE783⟩ := hq783
  rw [hE783]
  show J 6 [some (.int (s))] [.int (xc8 s (nI 1) (nI 5))] (G.1, G.2)
  refine bf_iconst r.1 (v := nI 2) dX0_leftRight_6 rfl ?_
  refine bf_iconst r.1 (v := nI 4) dX0_leftRight_7 rfl ?_
  refine r.2.1.2.1 8 [some (.int (s))] [] _ (G.1, G.2) 29 mX0_exchanged 3 [.int (xc8 s (nI 1) (nI 5)), .int (nI 2), .int (nI 4)] G.1 _ dX0_leftRight_8 li_X0_29 mv_X0_exchanged rfl (Nat.le_of_ble_eq_true rfl) rfl (c_X0_exchanged (by omega) hG (xc8 s (nI 1) (nI 5)) (nI 2) (nI 4)) (Nat.le_refl _) (fun res G784 hq784 hg784 => ?_)
  obtain ⟨rfl, hE784⟩ := hq784
  rw [hE784]
  show J 11 [some (.int (s))] [.int (xc8 (xc8 s (nI 1) (nI 5)) (nI 2) (nI 4))] (G.1, G.2)
  exact r.2.2.2.1 11 _ G _ .int dX0_leftRight_11 rfl rfl rfl ⟨rfl, rfl⟩
theorem c_X0_topBottom {d : Nat} (hd : 2 ≤ d) {G : bf_G} (hG : G.1 ≤ 57) (s : Int32) : bf_Cl d mX0_topBottom [.int s] G G.1 (bf_Pr (trn8 s) G) := by
  refine ci_of 1 hd mo_X0_topBottom (Nat.le_refl _) hG (Nat.le_of_ble_eq_true rfl) (fun e he J r => ?_)
  show J 0 [some (.int (s))] [] G
  refine bf_iload_n r.1 dX0_topBottom_0 rfl ?_
  refine bf_iconst r.1 (v := nI 0) dX0_topBottom_1 rfl ?_
  refine bf_iconst r.1 (v := nI 3) dX0_topBottom_2 rfl ?_
  refine r.2.1.2.1 3 [some (.int (s))] [] _ (G.1, G.2) 29 mX0_exchanged 3 [.int (s), .int (nI 0), .int (nI 3)] G.1 _ dX0_topBottom_3 li_X0_29 mv_X0_exchanged rfl (Nat.le_of_ble_eq_true rfl) rfl (c_X0_exchanged (by omega) hG s (nI 0) (nI 3)) (Nat.le_refl _) (fun res G785 hq785 hg785 => ?_)
  obtain ⟨rfl, hE785⟩ := hq785
  rw [hE785]
  show J 6 [some (.int (s))] [.int (xc8 s (nI 0) (nI 3))] (G.1, G.2)
  refine bf_iconst r.1 (v := nI 1) dX0_topBottom_6 rfl ?_
  refine bf_iconst r.1 (v := nI 2) dX0_topBottom_7 rfl ?_
  refine r.2.1.2.1 8 [some (.int (s))] [] _ (G.1, G.2) 29 mX0_exchanged 3 [.int (xc8 s (nI 0) (nI 3)), .int (nI 1), .int (nI 2)] G.1 _ dX0_topBottom_8 li_X0_29 mv_X0_exchanged rfl (Nat.le_of_ble_eq_true rfl) rfl (c_X0_exchanged (by omega) hG (xc8 s (nI 0) (nI 3)) (nI 1) (nI 2)) (Nat.le_refl _) (fun res G786 hq786 hg786 => ?_)
  obtain ⟨rfl, hE786⟩ := hq786
  rw [hE786]
  show J 11 [some (.int (s))] [.int (xc8 (xc8 s (nI 0) (nI 3)) (nI 1) (nI 2))] (G.1, G.2)
  refine bf_iconst r.1 (v := nI 4) dX0_topBottom_11 rfl ?_
  refine bf_iconst r.1 (v := nI 5) dX0_topBottom_12 rfl ?_
  refine r.2.1.2.1 13 [some (.int (s))] [] _ (G.1, G.2) 29 mX0_exchanged 3 [.int (xc8 (xc8 s (nI 0) (nI 3)) (nI 1) (nI 2)), .int (nI 4), .int (nI 5)] G.1 _ dX0_topBottom_13 li_X0_29 mv_X0_exchanged rfl (Nat.le_of_ble_eq_true rfl) rfl (c_X0_exchanged (by omega) hG (xc8 (xc8 s (nI 0) (nI 3)) (nI 1) (nI 2)) (nI 4) (nI 5)) (Nat.le_refl _) (fun res G787 hq787 hg787 => ?_)
  obtain ⟨rfl, hE787⟩ := hq787
  rw [hE787]
  show J 16 [some (.int (s))] [.int (xc8 (xc8 (xc8 s (nI 0) (nI 3)) (nI 1) (nI 2)) (nI 4) (nI 5))] (G.1, G.2)
  exact r.2.2.2.1 16 _ G _ .int dX0_topBottom_16 rfl rfl rfl ⟨rfl, rfl⟩
theorem c_X0_init {d : Nat} (hd : 3 ≤ d) {h0 : bf_Hp} (hz : ∀ j, h0 4 j = defaultValue (tyX0 j)) : bf_Cl d mX0_init [.ref 4] (5, h0) 6 (bf_Pi 4 6 h0) := by
  refine ci_of 2 hd mo_X0_init (show 5 ≤ 6 by decide) (by decide) (Nat.le_of_ble_eq_true rfl) (fun e he J r => ?_)
  show J 0 [some (.ref 4), none, none] [] (5, h0)
  refine bf_aload_n r.1 dX0_init_0 rfl ?_
  refine r.2.1.2.2.2.1 1 [some (.ref 4), none, none] [] (5, h0) 3 4 dX0_init_1 lw_X0_3 (Nat.le_of_ble_eq_true rfl) ?_
  show J 4 [some (.ref 4), none, none] [] (5, h0)
  refine bf_aload_n r.1 dX0_init_4 rfl ?_
  refine bf_bipush r.1 (v := nI 30) dX0_init_5 rfl ?_
  refine r.2.1.2.2.2.2.2.1 7 [some (.ref 4), none, none] [.ref 4] (5, h0) 30 (nI 30) dX0_init_7 rfl (by decide) rfl (show 5 < 6 by decide) ?_
  show J 9 [some (.ref 4), none, none] [.ref 5, .ref 4] (6, bf_fill (h0) 5 (fun _ => .int 0))
  refine r.2.2.1 9 [some (.ref 4), none, none] [] (6, bf_fill (h0) 5 (fun _ => .int 0)) 9 0 0 4 5 dX0_init_9 ff_X0_9 rfl rfl (show 4 < 6 by decide) ?_
  show J 12 [some (.ref 4), none, none] [] (6, bf_up (bf_fill (h0) 5 (fun _ => .int 0)) 4 0 (.ref 5))
  refine bf_iconst r.1 (v := nI 0) dX0_init_12 rfl ?_
  refine bf_istore_n r.1 (L2 := [some (.ref 4), some (.int (nI 0)), none]) dX0_init_13 rfl ?_
  refine bf_iload_n r.1 dX0_init_14 rfl ?_
  refine bf_bipush r.1 (v := nI 10) dX0_init_15 rfl ?_
  refine bf_icmp_ge r.1 (tgt := 69) dX0_init_17 (by decide) (fun c788 => ?_) (fun c788 => ?_)
  · exact absurd c788 (by decide)
  refine bf_gsF r.1 dX0_init_20 gs_X0_15 ?_
  refine bf_iload_n r.1 dX0_init_23 rfl ?_
  refine bf_ldF r.1 dX0_init_24 (vp_in_nI (by decide) (by decide)) ?_
  refine eq_i (v := nI 63) (by decide) ?_
  refine r.2.1.2.1 25 [some (.ref 4), some (.int (nI 0)), none] [] _ (6, bf_up (bf_fill (h0) 5 (fun _ => .int 0)) 4 0 (.ref 5)) 18 mX0_leftRight 1 [.int (nI 63)] 6 _ dX0_init_25 li_X0_18 mv_X0_leftRight rfl (Nat.le_of_ble_eq_true rfl) rfl (c_X0_leftRight (by omega) (G := (6, bf_up (bf_fill (h0) 5 (fun _ => .int 0)) 4 0 (.ref 5))) (show 6 ≤ 57 by decide) (nI 63)) (show 6 ≤ 6 by decide) (fun res G789 hq789 hg789 => ?_)
  obtain ⟨rfl, hE789⟩ := hq789
  rw [hE789]
  show J 28 [some (.ref 4), some (.int (nI 0)), none] [.int (mir8 (nI 63))] (6, bf_up (bf_fill (h0) 5 (fun _ => .int 0)) 4 0 (.ref 5))
  refine eq_i (v := nI 63) (by decide) ?_
  refine bf_istore_n r.1 (L2 := [some (.ref 4), some (.int (nI 0)), some (.int (nI 63))]) dX0_init_28 rfl ?_
  refine bf_aload_n r.1 dX0_init_29 rfl ?_
  refine bf_get r.1 dX0_init_30 fl_X0_9 rfl (show 4 < 6 by decide) ?_
  refine eq_v (w := .ref 5) (show (bf_up (bf_fill (h0) 5 (fun _ => .int 0)) 4 0 (.ref 5)) 4 0 = .ref 5 from up_s) ?_
  refine bf_iload_n r.1 dX0_init_33 rfl ?_
  refine bf_gsF r.1 dX0_init_34 gs_X0_15 ?_
  refine bf_iload_n r.1 dX0_init_37 rfl ?_
  refine bf_ldF r.1 dX0_init_38 (vp_in_nI (by decide) (by decide)) ?_
  refine eq_i (v := nI 63) (by decide) ?_
  refine bf_iast r.1 (n := 30) dX0_init_39 rfl (show 5 < 6 by decide) (vp_in_nI (by decide) (by decide)) ?_
  show J 40 [some (.ref 4), some (.int (nI 0)), some (.int (nI 63))] [] (6, bf_up (bf_up (bf_fill (h0) 5 (fun _ => .int 0)) 4 0 (.ref 5)) 5 0 (.int (nI 63)))
  refine bf_aload_n r.1 dX0_init_40 rfl ?_
  refine bf_get r.1 dX0_init_41 fl_X0_9 rfl (show 4 < 6 by decide) ?_
  refine eq_v (w := .ref 5) (show (bf_up (bf_up (bf_fill (h0) 5 (fun _ => .int 0)) 4 0 (.ref 5)) 5 0 (.int (nI 63))) 4 0 = .ref 5 from (up_o (by decide) up_s)) ?_
  refine bf_bipush r.1 (v := nI 10) dX0_init_44 rfl ?_
  refine bf_iload_n r.1 dX0_init_46 rfl ?_
  refine bf_iadd r.1 dX0_init_47 ?_
  refine eq_i (v := nI 10) (by decide) ?_
  refine bf_iload_n r.1 dX0_init_48 rfl ?_
  refine bf_iast r.1 (n := 30) dX0_init_49 rfl (show 5 < 6 by decide) (vp_in_nI (by decide) (by decide)) ?_
  show J 50 [some (.ref 4), some (.int (nI 0)), some (.int (nI 63))] [] (6, bf_up (bf_up (bf_up (bf_fill (h0) 5 (fun _ => .int 0)) 4 0 (.ref 5)) 5 0 (.int (nI 63))) 5 10 (.int (nI 63)))
  refine bf_aload_n r.1 dX0_init_50 rfl ?_
  refine bf_get r.1 dX0_init_51 fl_X0_9 rfl (show 4 < 6 by decide) ?_
  refine eq_v (w := .ref 5) (show (bf_up (bf_up (bf_up (bf_fill (h0) 5 (fun _ => .int 0)) 4 0 (.ref 5)) 5 0 (.int (nI 63))) 5 10 (.int (nI 63))) 4 0 = .ref 5 from (up_o (by decide) (up_o (by decide) up_s))) ?_
  refine bf_bipush r.1 (v := nI 20) dX0_init_54 rfl ?_
  refine bf_iload_n r.1 dX0_init_56 rfl ?_
  refine bf_iadd r.1 dX0_init_57 ?_
  refine eq_i (v := nI 20) (by decide) ?_
  refine bf_iload_n r.1 dX0_init_58 rfl ?_
  refine r.2.1.2.1 59 [some (.ref 4), some (.int (nI 0)), some (.int (nI 63))] [.int (nI 20), .ref 5] _ (6, bf_up (bf_up (bf_up (bf_fill (h0) 5 (fun _ => .int 0)) 4 0 (.ref 5)) 5 0 (.int (nI 63))) 5 10 (.int (nI 63))) 22 mX0_topBottom 1 [.int (nI 63)] 6 _ dX0_init_59 li_X0_22 mv_X0_topBottom rfl (Nat.le_of_ble_eq_true rfl) rfl (c_X0_topBottom (by omega) (G := (6, bf_up (bf_up (bf_up (bf_fill (h0) 5 (fun _ => .int 0)) 4 0 (.ref 5)) 5 0 (.int (nI 63))) 5 10 (.int (nI 63)))) (show 6 ≤ 57 by decide) (nI 63)) (show 6 ≤ 6 by decide) (fun res G790 hq790 hg790 => ?_)
  obtain ⟨rfl, hE790⟩ := hq790
  rw [hE790]
  show J 62 [some (.ref 4), some (.int (nI 0)), some (.int (nI 63))] [.int (trn8 (nI 63)), .int (nI 20), .ref 5] (6, bf_up (bf_up (bf_up (bf_fill (h0) 5 (fun _ => .int 0)) 4 0 (.ref 5)) 5 0 (.int (nI 63))) 5 10 (.int (nI 63)))
  refine eq_i (v := nI 63) (by decide) ?_
  refine bf_iast r.1 (n := 30) dX0_init_62 rfl (show 5 < 6 by decide) (vp_in_nI (by decide) (by decide)) ?_
  show J 63 [some (.ref 4), some (.int (nI 0)), some (.int (nI 63))] [] (6, bf_up (bf_up (bf_up (bf_up (bf_fill (h0) 5 (fun _ => .int 0)) 4 0 (.ref 5)) 5 0 (.int (nI 63))) 5 10 (.int (nI 63))) 5 20 (.int (nI 63)))
  refine bf_iinc r.1 (v := nI 1) (L2 := [some (.ref 4), some (.int (nI 1)), some (.int (nI 63))]) dX0_init_63 rfl (by decide) rfl ?_
  refine bf_goto r.1 (tgt := 14) dX0_init_66 (by decide) ?_
  refine bf_iload_n r.1 dX0_init_14 rfl ?_
  refine bf_bipush r.1 (v := nI 10) dX0_init_15 rfl ?_
  refine bf_icmp_ge r.1 (tgt := 69) dX0_init_17 (by decide) (fun c791 => ?_) (fun c791 => ?_)
  · exact absurd c791 (by decide)
  refine bf_gsF r.1 dX0_init_20 gs_X0_15 ?_
  refine bf_iload_n r.1 dX0_init_23 rfl ?_
  refine bf_ldF r.1 dX0_init_24 (vp_in_nI (by decide) (by decide)) ?_
  refine eq_i (v := nI 6) (by decide) ?_
  refine r.2.1.2.1 25 [some (.ref 4), some (.int (nI 1)), some (.int (nI 63))] [] _ (6, bf_up (bf_up (bf_up (bf_up (bf_fill (h0) 5 (fun _ => .int 0)) 4 0 (.ref 5)) 5 0 (.int (nI 63))) 5 10 (.int (nI 63))) 5 20 (.int (nI 63))) 18 mX0_leftRight 1 [.int (nI 6)] 6 _ dX0_init_25 li_X0_18 mv_X0_leftRight rfl (Nat.le_of_ble_eq_true rfl) rfl (c_X0_leftRight (by omega) (G := (6, bf_up (bf_up (bf_up (bf_up (bf_fill (h0) 5 (fun _ => .int 0)) 4 0 (.ref 5)) 5 0 (.int (nI 63))) 5 10 (.int (nI 63))) 5 20 (.int (nI 63)))) (show 6 ≤ 57 by decide) (nI 6)) (show 6 ≤ 6 by decide) (fun res G792 hq792 hg792 => ?_)
  obtain ⟨rfl, hE792⟩ := hq792
  rw [hE792]
  show J 28 [some (.ref 4), some (.int (nI 1)), some (.int (nI 63))] [.int (mir8 (nI 6))] (6, bf_up (bf_up (bf_up (bf_up (bf_fill (h0) 5 (fun _ => .int 0)) 4 0 (.ref 5)) 5 0 (.int (nI 63))) 5 10 (.int (nI 63))) 5 20 (.int (nI 63)))
  refine eq_i (v := nI 48) (by decide) ?_
  refine bf_istore_n r.1 (L2 := [some (.ref 4), some (.int (nI 1)), some (.int (nI 48))]) dX0_init_28 rfl ?_
  refine bf_aload_n r.1 dX0_init_29 rfl ?_
  refine bf_get r.1 dX0_init_30 fl_X0_9 rfl (show 4 < 6 by decide) ?_
  refine eq_v (w := .ref 5) (show (bf_up (bf_up (bf_up (bf_up (bf_fill (h0) 5 (fun _ => .int 0)) 4 0 (.ref 5)) 5 0 (.int (nI 63))) 5 10 (.int (nI 63))) 5 20 (.int (nI 63))) 4 0 = .ref 5 from (up_o (by decide) (up_o (by decide) (up_o (by decide) up_s)))) ?_
  refine bf_iload_n r.1 dX0_init_33 rfl ?_
  refine bf_gsF r.1 dX0_init_34 gs_X0_15 ?_
  refine bf_iload_n r.1 dX0_init_37 rfl ?_
  refine bf_ldF r.1 dX0_init_38 (vp_in_nI (by decide) (by decide)) ?_
  refine eq_i (v := nI 6) (by decide) ?_
  refine bf_iast r.1 (n := 30) dX0_init_39 rfl (show 5 < 6 by decide) (vp_in_nI (by decide) (by decide)) ?_
  show J 40 [some (.ref 4), some (.int (nI 1)), some (.int (nI 48))] [] (6, bf_up (bf_up (bf_up (bf_up (bf_up (bf_fill (h0) 5 (fun _ => .int 0)) 4 0 (.ref 5)) 5 0 (.int (nI 63))) 5 10 (.int (nI 63))) 5 20 (.int (nI 63))) 5 1 (.int (nI 6)))
  refine bf_aload_n r.1 dX0_init_40 rfl ?_
  refine bf_get r.1 dX0_init_41 fl_X0_9 rfl (show 4 < 6 by decide) ?_
  refine eq_v (w := .ref 5) (show (bf_up (bf_up (bf_up (bf_up (bf_up (bf_fill (h0) 5 (fun _ => .int 0)) 4 0 (.ref 5)) 5 0 (.int (nI 63))) 5 10 (.int (nI 63))) 5 20 (.int (nI 63))) 5 1 (.int (nI 6))) 4 0 = .ref 5 from (up_o (by decide) (up_o (by decide) (up_o (by decide) (up_o (by decide) up_s))))) ?_
  refine bf_bipush r.1 (v := nI 10) dX0_init_44 rfl ?_
  refine bf_iload_n r.1 dX0_init_46 rfl ?_
  refine bf_iadd r.1 dX0_init_47 ?_
  refine eq_i (v := nI 11) (by decide) ?_
  refine bf_iload_n r.1 dX0_init_48 rfl ?_
  refine bf_iast r.1 (n := 30) dX0_init_49 rfl (show 5 < 6 by decide) (vp_in_nI (by decide) (by decide)) ?_
  show J 50 [some (.ref 4), some (.int (nI 1)), some (.int (nI 48))] [] (6, bf_up (bf_up (bf_up (bf_up (bf_up (bf_up (bf_fill (h0) 5 (fun _ => .int 0)) 4 0 (.ref 5)) 5 0 (.int (nI 63))) 5 10 (.int (nI 63))) 5 20 (.int (nI 63))) 5 1 (.int (nI 6))) 5 11 (.int (nI 48)))
  refine bf_aload_n r.1 dX0_init_50 rfl ?_
  refine bf_get r.1 dX0_init_51 fl_X0_9 rfl (show 4 < 6 by decide) ?_
  refine eq_v (w := .ref 5) (show (bf_up (bf_up (bf_up (bf_up (bf_up (bf_up (bf_fill (h0) 5 (fun _ => .int 0)) 4 0 (.ref 5)) 5 0 (.int (nI 63))) 5 10 (.int (nI 63))) 5 20 (.int (nI 63))) 5 1 (.int (nI 6))) 5 11 (.int (nI 48))) 4 0 = .ref 5 from (up_o (by decide) (up_o (by decide) (up_o (by decide) (up_o (by decide) (up_o (by decide) up_s)))))) ?_
  refine bf_bipush r.1 (v := nI 20) dX0_init_54 rfl ?_
  refine bf_iload_n r.1 dX0_init_56 rfl ?_
  refine bf_iadd r.1 dX0_init_57 ?_
  refine eq_i (v := nI 21) (by decide) ?_
  refine bf_iload_n r.1 dX0_init_58 rfl ?_
  refine r.2.1.2.1 59 [some (.ref 4), some (.int (nI 1)), some (.int (nI 48))] [.int (nI 21), .ref 5] _ (6, bf_up (bf_up (bf_up (bf_up (bf_up (bf_up (bf_fill (h0) 5 (fun _ => .int 0)) 4 0 (.ref 5)) 5 0 (.int (nI 63))) 5 10 (.int (nI 63))) 5 20 (.int (nI 63))) 5 1 (.int (nI 6))) 5 11 (.int (nI 48))) 22 mX0_topBottom 1 [.int (nI 48)] 6 _ dX0_init_59 li_X0_22 mv_X0_topBottom rfl (Nat.le_of_ble_eq_true rfl) rfl (c_X0_topBottom (by omega) (G := (6, bf_up (bf_up (bf_up (bf_up (bf_up (bf_up (bf_fill (h0) 5 (fun _ => .int 0)) 4 0 (.ref 5)) 5 0 (.int (nI 63))) 5 10 (.int (nI 63))) 5 20 (.int (nI 63))) 5 1 (.int (nI 6))) 5 11 (.int (nI 48)))) (show 6 ≤ 57 by decide) (nI 48)) (show 6 ≤ 6 by decide) (fun res G793 hq793 hg793 => ?_)
  obtain ⟨rfl, hE793⟩ := hq793
  rw [hE793]
  show J 62 [some (.ref 4), some (.int (nI 1)), some (.int (nI 48))] [.int (trn8 (nI 48)), .int (nI 21), .ref 5] (6, bf_up (bf_up (bf_up (bf_up (bf_up (bf_up (bf_fill (h0) 5 (fun _ => .int 0)) 4 0 (.ref 5)) 5 0 (.int (nI 63))) 5 10 (.int (nI 63))) 5 20 (.int (nI 63))) 5 1 (.int (nI 6))) 5 11 (.int (nI 48)))
  refine eq_i (v := nI 48) (by decide) ?_
  refine bf_iast r.1 (n := 30) dX0_init_62 rfl (show 5 < 6 by decide) (vp_in_nI (by decide) (by decide)) ?_
  show J 63 [some (.ref 4), some (.int (nI 1)), some (.int (nI 48))] [] (6, bf_up (bf_up (bf_up (bf_up (bf_up (bf_up (bf_up (bf_fill (h0) 5 (fun _ => .int 0)) 4 0 (.ref 5)) 5 0 (.int (nI 63))) 5 10 (.int (nI 63))) 5 20 (.int (nI 63))) 5 1 (.int (nI 6))) 5 11 (.int (nI 48))) 5 21 (.int (nI 48)))
  refine bf_iinc r.1 (v := nI 2) (L2 := [some (.ref 4), some (.int (nI 2)), some (.int (nI 48))]) dX0_init_63 rfl (by decide) rfl ?_
  refine bf_goto r.1 (tgt := 14) dX0_init_66 (by decide) ?_
  refine bf_iload_n r.1 dX0_init_14 rfl ?_
  refine bf_bipush r.1 (v := nI 10) dX0_init_15 rfl ?_
  refine bf_icmp_ge r.1 (tgt := 69) dX0_init_17 (by decide) (fun c794 => ?_) (fun c794 => ?_)
  · exact absurd c794 (by decide)
  refine bf_gsF r.1 dX0_init_20 gs_X0_15 ?_
  refine bf_iload_n r.1 dX0_init_23 rfl ?_
  refine bf_ldF r.1 dX0_init_24 (vp_in_nI (by decide) (by decide)) ?_
  refine eq_i (v := nI 91) (by decide) ?_
  refine r.2.1.2.1 25 [some (.ref 4), some (.int (nI 2)), some (.int (nI 48))] [] _ (6, bf_up (bf_up (bf_up (bf_up (bf_up (bf_up (bf_up (bf_fill (h0) 5 (fun _ => .int 0)) 4 0 (.ref 5)) 5 0 (.int (nI 63))) 5 10 (.int (nI 63))) 5 20 (.int (nI 63))) 5 1 (.int (nI 6))) 5 11 (.int (nI 48))) 5 21 (.int (nI 48))) 18 mX0_leftRight 1 [.int (nI 91)] 6 _ dX0_init_25 li_X0_18 mv_X0_leftRight rfl (Nat.le_of_ble_eq_true rfl) rfl (c_X0_leftRight (by omega) (G := (6, bf_up (bf_up (bf_up (bf_up (bf_up (bf_up (bf_up (bf_fill (h0) 5 (fun _ => .int 0)) 4 0 (.ref 5)) 5 0 (.int (nI 63))) 5 10 (.int (nI 63))) 5 20 (.int (nI 63))) 5 1 (.int (nI 6))) 5 11 (.int (nI 48))) 5 21 (.int (nI 48)))) (show 6 ≤ 57 by decide) (nI 91)) (show 6 ≤ 6 by decide) (fun res G795 hq795 hg795 => ?_)
  obtain ⟨rfl, hE795⟩ := hq795
  rw [hE795]
  show J 28 [some (.ref 4), some (.int (nI 2)), some (.int (nI 48))] [.int (mir8 (nI 91))] (6, bf_up (bf_up (bf_up (bf_up (bf_up (bf_up (bf_up (bf_fill (h0) 5 (fun _ => .int 0)) 4 0 (.ref 5)) 5 0 (.int (nI 63))) 5 10 (.int (nI 63))) 5 20 (.int (nI 63))) 5 1 (.int (nI 6))) 5 11 (.int (nI 48))) 5 21 (.int (nI 48)))
  refine eq_i (v := nI 109) (by decide) ?_
  refine bf_istore_n r.1 (L2 := [some (.ref 4), some (.int (nI 2)), some (.int (nI 109))]) dX0_init_28 rfl ?_
  refine bf_aload_n r.1 dX0_init_29 rfl ?_
  refine bf_get r.1 dX0_init_30 fl_X0_9 rfl (show 4 < 6 by decide) ?_
  refine eq_v (w := .ref 5) (show (bf_up (bf_up (bf_up (bf_up (bf_up (bf_up (bf_up (bf_fill (h0) 5 (fun _ => .int 0)) 4 0 (.ref 5)) 5 0 (.int (nI 63))) 5 10 (.int (nI 63))) 5 20 (.int (nI 63))) 5 1 (.int (nI 6))) 5 11 (.int (nI 48))) 5 21 (.int (nI 48))) 4 0 = .ref 5 from (up_o (by decide) (up_o (by decide) (up_o (by decide) (up_o (by decide) (up_o (by decide) (up_o (by decide) up_s))))))) ?_
  refine bf_iload_n r.1 dX0_init_33 rfl ?_
  refine bf_gsF r.1 dX0_init_34 gs_X0_15 ?_
  refine bf_iload_n r.1 dX0_init_37 rfl ?_
  refine bf_ldF r.1 dX0_init_38 (vp_in_nI (by decide) (by decide)) ?_
  refine eq_i (v := nI 91) (by decide) ?_
  refine bf_iast r.1 (n := 30) dX0_init_39 rfl (show 5 < 6 by decide) (vp_in_nI (by decide) (by decide)) ?_
  show J 40 [some (.ref 4), some (.int (nI 2)), some (.int (nI 109))] [] (6, bf_up (bf_up (bf_up (bf_up (bf_up (bf_up (bf_up (bf_up (bf_fill (h0) 5 (fun _ => .int 0)) 4 0 (.ref 5)) 5 0 (.int (nI 63))) 5 10 (.int (nI 63))) 5 20 (.int (nI 63))) 5 1 (.int (nI 6))) 5 11 (.int (nI 48))) 5 21 (.int (nI 48))) 5 2 (.int (nI 91)))
  refine bf_aload_n r.1 dX0_init_40 rfl ?_
  refine bf_get r.1 dX0_init_41 fl_X0_9 rfl (show 4 < 6 by decide) ?_
  refine eq_v (w := .ref 5) (show (bf_up (bf_up (bf_up (bf_up (bf_up (bf_up (bf_up (bf_up (bf_fill (h0) 5 (fun _ => .int 0)) 4 0 (.ref 5)) 5 0 (.int (nI 63))) 5 10 (.int (nI 63))) 5 20 (.int (nI 63))) 5 1 (.int (nI 6))) 5 11 (.int (nI 48))) 5 21 (.int (nI 48))) 5 2 (.int (nI 91))) 4 0 = .ref 5 from (up_o (by decide) (up_o (by decide) (up_o (by decide) (up_o (by decide) (up_o (by decide) (up_o (by decide) (up_o (by decide) up_s)))))))) ?_
  refine bf_bipush r.1 (v := nI 10) dX0_init_44 rfl ?_
  refine bf_iload_n r.1 dX0_init_46 rfl ?_
  refine bf_iadd r.1 dX0_init_47 ?_
  refine eq_i (v := nI 12) (by decide) ?_
  refine bf_iload_n r.1 dX0_init_48 rfl ?_
  refine bf_iast r.1 (n := 30) dX0_init_49 rfl (show 5 < 6 by decide) (vp_in_nI (by decide) (by decide)) ?_
  show J 50 [some (.ref 4), some (.int (nI 2)), some (.int (nI 109))] [] (6, bf_up (bf_up (bf_up (bf_up (bf_up (bf_up (bf_up (bf_up (bf_up (bf_fill (h0) 5 (fun _ => .int 0)) 4 0 (.ref 5)) 5 0 (.int (nI 63))) 5 10 (.int (nI 63))) 5 20 (.int (nI 63))) 5 1 (.int (nI 6))) 5 11 (.int (nI 48))) 5 21 (.int (nI 48))) 5 2 (.int (nI 91))) 5 12 (.int (nI 109)))
  refine bf_aload_n r.1 dX0_init_50 rfl ?_
  refine bf_get r.1 dX0_init_51 fl_X0_9 rfl (show 4 < 6 by decide) ?_
  refine eq_v (w := .ref 5) (show (bf_up (bf_up (bf_up (bf_up (bf_up (bf_up (bf_up (bf_up (bf_up (bf_fill (h0) 5 (fun _ => .int 0)) 4 0 (.ref 5)) 5 0 (.int (nI 63))) 5 10 (.int (nI 63))) 5 20 (.int (nI 63))) 5 1 (.int (nI 6))) 5 11 (.int (nI 48))) 5 21 (.int (nI 48))) 5 2 (.int (nI 91))) 5 12 (.int (nI 109))) 4 0 = .ref 5 from (up_o (by decide) (up_o (by decide) (up_o (by decide) (up_o (by decide) (up_o (by decide) (up_o (by decide) (up_o (by decide) (up_o (by decide) up_s))))))))) ?_
  refine bf_bipush r.1 (v := nI 20) dX0_init_54 rfl ?_
  refine bf_iload_n r.1 dX0_init_56 rfl ?_
  refine bf_iadd r.1 dX0_init_57 ?_
  refine eq_i (v := nI 22) (by decide) ?_
  refine bf_iload_n r.1 dX0_init_58 rfl ?_
  refine r.2.1.2.1 59 [some (.ref 4), some (.int (nI 2)), some (.int (nI 109))] [.int (nI 22), .ref 5] _ (6, bf_up (bf_up (bf_up (bf_up (bf_up (bf_up (bf_up (bf_up (bf_up (bf_fill (h0) 5 (fun _ => .int 0)) 4 0 (.ref 5)) 5 0 (.int (nI 63))) 5 10 (.int (nI 63))) 5 20 (.int (nI 63))) 5 1 (.int (nI 6))) 5 11 (.int (nI 48))) 5 21 (.int (nI 48))) 5 2 (.int (nI 91))) 5 12 (.int (nI 109))) 22 mX0_topBottom 1 [.int (nI 109)] 6 _ dX0_init_59 li_X0_22 mv_X0_topBottom rfl (Nat.le_of_ble_eq_true rfl) rfl (c_X0_topBottom (by omega) (G := (6, bf_up (bf_up (bf_up (bf_up (bf_up (bf_up (bf_up (bf_up (bf_up (bf_fill (h0) 5 (fun _ => .int 0)) 4 0 (.ref 5)) 5 0 (.int (nI 63))) 5 10 (.int (nI 63))) 5 20 (.int (nI 63))) 5 1 (.int (nI 6))) 5 11 (.int (nI 48))) 5 21 (.int (nI 48))) 5 2 (.int (nI 91))) 5 12 (.int (nI 109)))) (show 6 ≤ 57 by decide) (nI 109)) (show 6 ≤ 6 by decide) (fun res G796 hq796 hg796 => ?_)
  obtain ⟨rfl, hE796⟩ := hq796
  rw [hE796]
  show J 62 [some (.ref 4), some (.int (nI 2)), some (.int (nI 109))] [.int (trn8 (nI 109)), .int (nI 22), .ref 5] (6, bf_up (bf_up (bf_up (bf_up (bf_up (bf_up (bf_up (bf_up (bf_up (bf_fill (h0) 5 (fun _ => .int 0)) 4 0 (.ref 5)) 5 0 (.int (nI 63))) 5 10 (.int (nI 63))) 5 20 (.int (nI 63))) 5 1 (.int (nI 6))) 5 11 (.int (nI 48))) 5 21 (.int (nI 48))) 5 2 (.int (nI 91))) 5 12 (.int (nI 109)))
  refine eq_i (v := nI 91) (by decide) ?_
  refine bf_iast r.1 (n := 30) dX0_init_62 rfl (show 5 < 6 by decide) (vp_in_nI (by decide) (by decide)) ?_
  show J 63 [some (.ref 4), some (.int (nI 2)), some (.int (nI 109))] [] (6, bf_up (bf_up (bf_up (bf_up (bf_up (bf_up (bf_up (bf_up (bf_up (bf_up (bf_fill (h0) 5 (fun _ => .int 0)) 4 0 (.ref 5)) 5 0 (.int (nI 63))) 5 10 (.int (nI 63))) 5 20 (.int (nI 63))) 5 1 (.int (nI 6))) 5 11 (.int (nI 48))) 5 21 (.int (nI 48))) 5 2 (.int (nI 91))) 5 12 (.int (nI 109))) 5 22 (.int (nI 91)))
  refine bf_iinc r.1 (v := nI 3) (L2 := [some (.ref 4), some (.int (nI 3)), some (.int (nI 109))]) dX0_init_63 rfl (by decide) rfl ?_
  refine bf_goto r.1 (tgt := 14) dX0_init_66 (by decide) ?_
  refine bf_iload_n r.1 dX0_init_14 rfl ?_
  refine bf_bipush r.1 (v := nI 10) dX0_init_15 rfl ?_
  refine bf_icmp_ge r.1 (tgt := 69) dX0_init_17 (by decide) (fun c797 => ?_) (fun c797 => ?_)
  · exact absurd c797 (by decide)
  refine bf_gsF r.1 dX0_init_20 gs_X0_15 ?_
  refine bf_iload_n r.1 dX0_init_23 rfl ?_
  refine bf_ldF r.1 dX0_init_24 (vp_in_nI (by decide) (by decide)) ?_
  refine eq_i (v := nI 79) (by decide) ?_
  refine r.2.1.2.1 25 [some (.ref 4), some (.int (nI 3)), some (.int (nI 109))] [] _ (6, bf_up (bf_up (bf_up (bf_up (bf_up (bf_up (bf_up (bf_up (bf_up (bf_up (bf_fill (h0) 5 (fun _ => .int 0)) 4 0 (.ref 5)) 5 0 (.int (nI 63))) 5 10 (.int (nI 63))) 5 20 (.int (nI 63))) 5 1 (.int (nI 6))) 5 11 (.int (nI 48))) 5 21 (.int (nI 48))) 5 2 (.int (nI 91))) 5 12 (.int (nI 109))) 5 22 (.int (nI 91))) 18 mX0_leftRight 1 [.int (nI 79)] 6 _ dX0_init_25 li_X0_18 mv_X0_leftRight rfl (Nat.le_of_ble_eq_true rfl) rfl (c_X0_leftRight (by omega) (G := (6, bf_up (bf_up (bf_up (bf_up (bf_up (bf_up (bf_up (bf_up (bf_up (bf_up (bf_fill (h0) 5 (fun _ => .int 0)) 4 0 (.ref 5)) 5 0 (.int (nI 63))) 5 10 (.int (nI 63))) 5 20 (.int (nI 63))) 5 1 (.int (nI 6))) 5 11 (.int (nI 48))) 5 21 (.int (nI 48))) 5 2 (.int (nI 91))) 5 12 (.int (nI 109))) 5 22 (.int (nI 91)))) (show 6 ≤ 57 by decide) (nI 79)) (show 6 ≤ 6 by decide) (fun res G798 hq798 hg798 => ?_)
  obtain ⟨rfl, hE798⟩ := hq798
  rw [hE798]
  show J 28 [some (.ref 4), some (.int (nI 3)), some (.int (nI 109))] [.int (mir8 (nI 79))] (6, bf_up (bf_up (bf_up (bf_up (bf_up (bf_up (bf_up (bf_up (bf_up (bf_up (bf_fill (h0) 5 (fun _ => .int 0)) 4 0 (.ref 5)) 5 0 (.int (nI 63))) 5 10 (.int (nI 63))) 5 20 (.int (nI 63))) 5 1 (.int (nI 6))) 5 11 (.int (nI 48))) 5 21 (.int (nI 48))) 5 2 (.int (nI 91))) 5 12 (.int (nI 109))) 5 22 (.int (nI 91)))
  refine eq_i (v := nI 121) (by decide) ?_
  refine bf_istore_n r.1 (L2 := [some (.ref 4), some (.int (nI 3)), some (.int (nI 121))]) dX0_init_28 rfl ?_
  refine bf_aload_n r.1 dX0_init_29 rfl ?_
  refine bf_get r.1 dX0_init_30 fl_X0_9 rfl (show 4 < 6 by decide) ?_
  refine eq_v (w := .ref 5) (show (bf_up (bf_up (bf_up (bf_up (bf_up (bf_up (bf_up (bf_up (bf_up (bf_up (bf_fill (h0) 5 (fun _ => .int 0)) 4 0 (.ref 5)) 5 0 (.int (nI 63))) 5 10 (.int (nI 63))) 5 20 (.int (nI 63))) 5 1 (.int (nI 6))) 5 11 (.int (nI 48))) 5 21 (.int (nI 48))) 5 2 (.int (nI 91))) 5 12 (.int (nI 109))) 5 22 (.int (nI 91))) 4 0 = .ref 5 from (up_o (by decide) (up_o (by decide) (up_o (by decide) (up_o (by decide) (up_o (by decide) (up_o (by decide) (up_o (by decide) (up_o (by decide) (up_o (by decide) up_s)))))))))) ?_
  refine bf_iload_n r.1 dX0_init_33 rfl ?_
  refine bf_gsF r.1 dX0_init_34 gs_X0_15 ?_
  refine bf_iload_n r.1 dX0_init_37 rfl ?_
  refine bf_ldF r.1 dX0_init_38 (vp_in_nI (by decide) (by decide)) ?_
  refine eq_i (v := nI 79) (by decide) ?_
  refine bf_iast r.1 (n := 30) dX0_init_39 rfl (show 5 < 6 by decide) (vp_in_nI (by decide) (by decide)) ?_
  show J 40 [some (.ref 4), some (.int (nI 3)), some (.int (nI 121))] [] (6, bf_up (bf_up (bf_up (bf_up (bf_up (bf_up (bf_up (bf_up (bf_up (bf_up (bf_up (bf_fill (h0) 5 (fun _ => .int 0)) 4 0 (.ref 5)) 5 0 (.int (nI 63))) 5 10 (.int (nI 63))) 5 20 (.int (nI 63))) 5 1 (.int (nI 6))) 5 11 (.int (nI 48))) 5 21 (.int (nI 48))) 5 2 (.int (nI 91))) 5 12 (.int (nI 109))) 5 22 (.int (nI 91))) 5 3 (.int (nI 79)))
  refine bf_aload_n r.1 dX0_init_40 rfl ?_
  refine bf_get r.1 dX0_init_41 fl_X0_9 rfl (show 4 < 6 by decide) ?_
  refine eq_v (w := .ref 5) (show (bf_up (bf_up (bf_up (bf_up (bf_up (bf_up (bf_up (bf_up (bf_up (bf_up (bf_up (bf_fill (h0) 5 (fun _ => .int 0)) 4 0 (.ref 5)) 5 0 (.int (nI 63))) 5 10 (.int (nI 63))) 5 20 (.int (nI 63))) 5 1 (.int (nI 6))) 5 11 (.int (nI 48))) 5 21 (.int (nI 48))) 5 2 (.int (nI 91))) 5 12 (.int (nI 109))) 5 22 (.int (nI 91))) 5 3 (.int (nI 79))) 4 0 = .ref 5 from (up_o (by decide) (up_o (by decide) (up_o (by decide) (up_o (by decide) (up_o (by decide) (up_o (by decide) (up_o (by decide) (up_o (by decide) (up_o (by decide) (up_o (by decide) up_s))))))))))) ?_
  refine bf_bipush r.1 (v := nI 10) dX0_init_44 rfl ?_
  refine bf_iload_n r.1 dX0_init_46 rfl ?_
  refine bf_iadd r.1 dX0_init_47 ?_
  refine eq_i (v := nI 13) (by decide) ?_
  refine bf_iload_n r.1 dX0_init_48 rfl ?_
  refine bf_iast r.1 (n := 30) dX0_init_49 rfl (show 5 < 6 by decide) (vp_in_nI (by decide) (by decide)) ?_
  show J 50 [some (.ref 4), some (.int (nI 3)), some (.int (nI 121))] [] (6, bf_up (bf_up (bf_up (bf_up (bf_up (bf_up (bf_up (bf_up (bf_up (bf_up (bf_up (bf_up (bf_fill (h0) 5 (fun _ => .int 0)) 4 0 (.ref 5)) 5 0 (.int (nI 63))) 5 10 (.int (nI 63))) 5 20 (.int (nI 63))) 5 1 (.int (nI 6))) 5 11 (.int (nI 48))) 5 21 (.int (nI 48))) 5 2 (.int (nI 91))) 5 12 (.int (nI 109))) 5 22 (.int (nI 91))) 5 3 (.int (nI 79))) 5 13 (.int (nI 121)))
  refine bf_aload_n r.1 dX0_init_50 rfl ?_
  refine bf_get r.1 dX0_init_51 fl_X0_9 rfl (show 4 < 6 by decide) ?_
  refine eq_v (w := .ref 5) (show (bf_up (bf_up (bf_up (bf_up (bf_up (bf_up (bf_up (bf_up (bf_up (bf_up (bf_up (bf_up (bf_fill (h0) 5 (fun _ => .int 0)) 4 0 (.ref 5)) 5 0 (.int (nI 63))) 5 10 (.int (nI 63))) 5 20 (.int (nI 63))) 5 1 (.int (nI 6))) 5 11 (.int (nI 48))) 5 21 (.int (nI 48))) 5 2 (.int (nI 91))) 5 12 (.int (nI 109))) 5 22 (.int (nI 91))) 5 3 (.int (nI 79))) 5 13 (.int (nI 121))) 4 0 = .ref 5 from (up_o (by decide) (up_o (by decide) (up_o (by decide) (up_o (by decide) (up_o (by decide) (up_o (by decide) (up_o (by decide) (up_o (by decide) (up_o (by decide) (up_o (by decide) (up_o (by decide) up_s)))))))))))) ?_
  refine bf_bipush r.1 (v := nI 20) dX0_init_54 rfl ?_
  refine bf_iload_n r.1 dX0_init_56 rfl ?_
  refine bf_iadd r.1 dX0_init_57 ?_
  refine eq_i (v := nI 23) (by decide) ?_
  refine bf_iload_n r.1 dX0_init_58 rfl ?_
  refine r.2.1.2.1 59 [some (.ref 4), some (.int (nI 3)), some (.int (nI 121))] [.int (nI 23), .ref 5] _ (6, bf_up (bf_up (bf_up (bf_up (bf_up (bf_up (bf_up (bf_up (bf_up (bf_up (bf_up (bf_up (bf_fill (h0) 5 (fun _ => .int 0)) 4 0 (.ref 5)) 5 0 (.int (nI 63))) 5 10 (.int (nI 63))) 5 20 (.int (nI 63))) 5 1 (.int (nI 6))) 5 11 (.int (nI 48))) 5 21 (.int (nI 48))) 5 2 (.int (nI 91))) 5 12 (.int (nI 109))) 5 22 (.int (nI 91))) 5 3 (.int (nI 79))) 5 13 (.int (nI 121))) 22 mX0_topBottom 1 [.int (nI 121)] 6 _ dX0_init_59 li_X0_22 mv_X0_topBottom rfl (Nat.le_of_ble_eq_true rfl) rfl (c_X0_topBottom (by omega) (G := (6, bf_up (bf_up (bf_up (bf_up (bf_up (bf_up (bf_up (bf_up (bf_up (bf_up (bf_up (bf_up (bf_fill (h0) 5 (fun _ => .int 0)) 4 0 (.ref 5)) 5 0 (.int (nI 63))) 5 10 (.int (nI 63))) 5 20 (.int (nI 63))) 5 1 (.int (nI 6))) 5 11 (.int (nI 48))) 5 21 (.int (nI 48))) 5 2 (.int (nI 91))) 5 12 (.int (nI 109))) 5 22 (.int (nI 91))) 5 3 (.int (nI 79))) 5 13 (.int (nI 121)))) (show 6 ≤ 57 by decide) (nI 121)) (show 6 ≤ 6 by decide) (fun res G799 hq799 hg799 => ?_)
  obtain ⟨rfl, hE799⟩ := hq799
  rw [hE799]
  show J 62 [some (.ref 4), some (.int (nI 3)), some (.int (nI 121))] [.int (trn8 (nI 121)), .int (nI 23), .ref 5] (6, bf_up (bf_up (bf_up (bf_up (bf_up (bf_up (bf_up (bf_up (bf_up (bf_up (bf_up (bf_up (bf_fill (h0) 5 (fun _ => .int 0)) 4 0 (.ref 5)) 5 0 (.int (nI 63))) 5 10 (.int (nI 63))) 5 20 (.int (nI 63))) 5 1 (.int (nI 6))) 5 11 (.int (nI 48))) 5 21 (.int (nI 48))) 5 2 (.int (nI 91))) 5 12 (.int (nI 109))) 5 22 (.int (nI 91))) 5 3 (.int (nI 79))) 5 13 (.int (nI 121)))
  refine eq_i (v := nI 121) (by decide) ?_
  refine bf_iast r.1 (n := 30) dX0_init_62 rfl (show 5 < 6 by decide) (vp_in_nI (by decide) (by decide)) ?_
  show J 63 [some (.ref 4), some (.int (nI 3)), some (.int (nI 121))] [] (6, bf_up (bf_up (bf_up (bf_up (bf_up (bf_up (bf_up (bf_up (bf_up (bf_up (bf_up (bf_up (bf_up (bf_fill (h0) 5 (fun _ => .int 0)) 4 0 (.ref 5)) 5 0 (.int (nI 63))) 5 10 (.int (nI 63))) 5 20 (.int (nI 63))) 5 1 (.int (nI 6))) 5 11 (.int (nI 48))) 5 21 (.int (nI 48))) 5 2 (.int (nI 91))) 5 12 (.int (nI 109))) 5 22 (.int (nI 91))) 5 3 (.int (nI 79))) 5 13 (.int (nI 121))) 5 23 (.int (nI 121)))
  refine bf_iinc r.1 (v := nI 4) (L2 := [some (.ref 4), some (.int (nI 4)), some (.int (nI 121))]) dX0_init_63 rfl (by decide) rfl ?_
  refine bf_goto r.1 (tgt := 14) dX0_init_66 (by decide) ?_
  refine bf_iload_n r.1 dX0_init_14 rfl ?_
  refine bf_bipush r.1 (v := nI 10) dX0_init_15 rfl ?_
  refine bf_icmp_ge r.1 (tgt := 69) dX0_init_17 (by decide) (fun c800 => ?_) (fun c800 => ?_)
  · exact absurd c800 (by decide)
  refine bf_gsF r.1 dX0_init_20 gs_X0_15 ?_
  refine bf_iload_n r.1 dX0_init_23 rfl ?_
  refine bf_ldF r.1 dX0_init_24 (vp_in_nI (by decide) (by decide)) ?_
  refine eq_i (v := nI 102) (by decide) ?_
  refine r.2.1.2.1 25 [some (.ref 4), some (.int (nI 4)), some (.int (nI 121))] [] _ (6, bf_up (bf_up (bf_up (bf_up (bf_up (bf_up (bf_up (bf_up (bf_up (bf_up (bf_up (bf_up (bf_up (bf_fill (h0) 5 (fun _ => .int 0)) 4 0 (.ref 5)) 5 0 (.int (nI 63))) 5 10 (.int (nI 63))) 5 20 (.int (nI 63))) 5 1 (.int (nI 6))) 5 11 (.int (nI 48))) 5 21 (.int (nI 48))) 5 2 (.int (nI 91))) 5 12 (.int (nI 109))) 5 22 (.int (nI 91))) 5 3 (.int (nI 79))) 5 13 (.int (nI 121))) 5 23 (.int (nI 121))) 18 mX0_leftRight 1 [.int (nI 102)] 6 _ dX0_init_25 li_X0_18 mv_X0_leftRight rfl (Nat.le_of_ble_eq_true rfl) rfl (c_X0_leftRight (by omega) (G := (6, bf_up (bf_up (bf_up (bf_up (bf_up (bf_up (bf_up (bf_up (bf_up (bf_up (bf_up (bf_up (bf_up (bf_fill (h0) 5 (fun _ => .int 0)) 4 0 (.ref 5)) 5 0 (.int (nI 63))) 5 10 (.int (nI 63))) 5 20 (.int (nI 63))) 5 1 (.int (nI 6))) 5 11 (.int (nI 48))) 5 21 (.int (nI 48))) 5 2 (.int (nI 91))) 5 12 (.int (nI 109))) 5 22 (.int (nI 91))) 5 3 (.int (nI 79))) 5 13 (.int (nI 121))) 5 23 (.int (nI 121)))) (show 6 ≤ 57 by decide) (nI 102)) (show 6 ≤ 6 by decide) (fun res G801 hq801 hg801 => ?_)
  obtain ⟨rfl, hE801⟩ := hq801
  rw [hE801]
  show J 28 [some (.ref 4), some (.int (nI 4)), some (.int (nI 121))] [.int (mir8 (nI 102))] (6, bf_up (bf_up (bf_up (bf_up (bf_up (bf_up (bf_up (bf_up (bf_up (bf_up (bf_up (bf_up (bf_up (bf_fill (h0) 5 (fun _ => .int 0)) 4 0 (.ref 5)) 5 0 (.int (nI 63))) 5 10 (.int (nI 63))) 5 20 (.int (nI 63))) 5 1 (.int (nI 6))) 5 11 (.int (nI 48))) 5 21 (.int (nI 48))) 5 2 (.int (nI 91))) 5 12 (.int (nI 109))) 5 22 (.int (nI 91))) 5 3 (.int (nI 79))) 5 13 (.int (nI 121))) 5 23 (.int (nI 121)))
  refine eq_i (v := nI 114) (by decide) ?_
  refine bf_istore_n r.1 (L2 := [some (.ref 4), some (.int (nI 4)), some (.int (nI 114))]) dX0_init_28 rfl ?_
  refine bf_aload_n r.1 dX0_init_29 rfl ?_
  refine bf_get r.1 dX0_init_30 fl_X0_9 rfl (show 4 < 6 by decide) ?_
  refine eq_v (w := .ref 5) (show (bf_up (bf_up (bf_up (bf_up (bf_up (bf_up (bf_up (bf_up (bf_up (bf_up (bf_up (bf_up (bf_up (bf_fill (h0) 5 (fun _ => .int 0)) 4 0 (.ref 5)) 5 0 (.int (nI 63))) 5 10 (.int (nI 63))) 5 20 (.int (nI 63))) 5 1 (.int (nI 6))) 5 11 (.int (nI 48))) 5 21 (.int (nI 48))) 5 2 (.int (nI 91))) 5 12 (.int (nI 109))) 5 22 (.int (nI 91))) 5 3 (.int (nI 79))) 5 13 (.int (nI 121))) 5 23 (.int (nI 121))) 4 0 = .ref 5 from (up_o (by decide) (up_o (by decide) (up_o (by decide) (up_o (by decide) (up_o (by decide) (up_o (by decide) (up_o (by decide) (up_o (by decide) (up_o (by decide) (up_o (by decide) (up_o (by decide) (up_o (by decide) up_s))))))))))))) ?_
  refine bf_iload_n r.1 dX0_init_33 rfl ?_
  refine bf_gsF r.1 dX0_init_34 gs_X0_15 ?_
  refine bf_iload_n r.1 dX0_init_37 rfl ?_
  refine bf_ldF r.1 dX0_init_38 (vp_in_nI (by decide) (by decide)) ?_
  refine eq_i (v := nI 102) (by decide) ?_
  refine bf_iast r.1 (n := 30) dX0_init_39 rfl (show 5 < 6 by decide) (vp_in_nI (by decide) (by decide)) ?_
  show J 40 [some (.ref 4), some (.int (nI 4)), some (.int (nI 114))] [] (6, bf_up (bf_up (bf_up (bf_up (bf_up (bf_up (bf_up (bf_up (bf_up (bf_up (bf_up (bf_up (bf_up (bf_up (bf_fill (h0) 5 (fun _ => .int 0)) 4 0 (.ref 5)) 5 0 (.int (nI 63))) 5 10 (.int (nI 63))) 5 20 (.int (nI 63))) 5 1 (.int (nI 6))) 5 11 (.int (nI 48))) 5 21 (.int (nI 48))) 5 2 (.int (nI 91))) 5 12 (.int (nI 109))) 5 22 (.int (nI 91))) 5 3 (.int (nI 79))) 5 13 (.int (nI 121))) 5 23 (.int (nI 121))) 5 4 (.int (nI 102)))
  refine bf_aload_n r.1 dX0_init_40 rfl ?_
  refine bf_get r.1 dX0_init_41 fl_X0_9 rfl (show 4 < 6 by decide) ?_
  refine eq_v (w := .ref 5) (show (bf_up (bf_up (bf_up (bf_up (bf_up (bf_up (bf_up (bf_up (bf_up (bf_up (bf_up (bf_up (bf_up (bf_up (bf_fill (h0) 5 (fun _ => .int 0)) 4 0 (.ref 5)) 5 0 (.int (nI 63))) 5 10 (.int (nI 63))) 5 20 (.int (nI 63))) 5 1 (.int (nI 6))) 5 11 (.int (nI 48))) 5 21 (.int (nI 48))) 5 2 (.int (nI 91))) 5 12 (.int (nI 109))) 5 22 (.int (nI 91))) 5 3 (.int (nI 79))) 5 13 (.int (nI 121))) 5 23 (.int (nI 121))) 5 4 (.int (nI 102))) 4 0 = .ref 5 from (up_o (by decide) (up_o (by decide) (up_o (by decide) (up_o (by decide) (up_o (by decide) (up_o (by decide) (up_o (by decide) (up_o (by decide) (up_o (by decide) (up_o (by decide) (up_o (by decide) (up_o (by decide) (up_o (by decide) up_s)))))))))))))) ?_
  refine bf_bipush r.1 (v := nI 10) dX0_init_44 rfl ?_
  refine bf_iload_n r.1 dX0_init_46 rfl ?_
  refine bf_iadd r.1 dX0_init_47 ?_
  refine eq_i (v := nI 14) (by decide) ?_
  refine bf_iload_n r.1 dX0_init_48 rfl ?_
  refine bf_iast r.1 (n := 30) dX0_init_49 rfl (show 5 < 6 by decide) (vp_in_nI (by decide) (by decide)) ?_
  show J 50 [some (.ref 4), some (.int (nI 4)), some (.int (nI 114))] [] (6, bf_up (bf_up (bf_up (bf_up (bf_up (bf_up (bf_up (bf_up (bf_up (bf_up (bf_up (bf_up (bf_up (bf_up (bf_up (bf_fill (h0) 5 (fun _ => .int 0)) 4 0 (.ref 5)) 5 0 (.int (nI 63))) 5 10 (.int (nI 63))) 5 20 (.int (nI 63))) 5 1 (.int (nI 6))) 5 11 (.int (nI 48))) 5 21 (.int (nI 48))) 5 2 (.int (nI 91))) 5 12 (.int (nI 109))) 5 22 (.int (nI 91))) 5 3 (.int (nI 79))) 5 13 (.int (nI 121))) 5 23 (.int (nI 121))) 5 4 (.int (nI 102))) 5 14 (.int (nI 114)))
  refine bf_aload_n r.1 dX0_init_50 rfl ?_
  refine bf_get r.1 dX0_init_51 fl_X0_9 rfl (show 4 < 6 by decide) ?_
  refine eq_v (w := .ref 5) (show (bf_up (bf_up (bf_up (bf_up (bf_up (bf_up (bf_up (bf_up (bf_up (bf_up (bf_up (bf_up (bf_up (bf_up (bf_up (bf_fill (h0) 5 (fun _ => .int 0)) 4 0 (.ref 5)) 5 0 (.int (nI 63))) 5 10 (.int (nI 63))) 5 20 (.int (nI 63))) 5 1 (.int (nI 6))) 5 11 (.int (nI 48))) 5 21 (.int (nI 48))) 5 2 (.int (nI 91))) 5 12 (.int (nI 109))) 5 22 (.int (nI 91))) 5 3 (.int (nI 79))) 5 13 (.int (nI 121))) 5 23 (.int (nI 121))) 5 4 (.int (nI 102))) 5 14 (.int (nI 114))) 4 0 = .ref 5 from (up_o (by decide) (up_o (by decide) (up_o (by decide) (up_o (by decide) (up_o (by decide) (up_o (by decide) (up_o (by decide) (up_o (by decide) (up_o (by decide) (up_o (by decide) (up_o (by decide) (up_o (by decide) (up_o (by decide) (up_o (by decide) up_s))))))))))))))) ?_
  refine bf_bipush r.1 (v := nI 20) dX0_init_54 rfl ?_
  refine bf_iload_n r.1 dX0_init_56 rfl ?_
  refine bf_iadd r.1 dX0_init_57 ?_
  refine eq_i (v := nI 24) (by decide) ?_
  refine bf_iload_n r.1 dX0_init_58 rfl ?_
  refine r.2.1.2.1 59 [some (.ref 4), some (.int (nI 4)), some (.int (nI 114))] [.int (nI 24), .ref 5] _ (6, bf_up (bf_up (bf_up (bf_up (bf_up (bf_up (bf_up (bf_up (bf_up (bf_up (bf_up (bf_up (bf_up (bf_up (bf_up (bf_fill (h0) 5 (fun _ => .int 0)) 4 0 (.ref 5)) 5 0 (.int (nI 63))) 5 10 (.int (nI 63))) 5 20 (.int (nI 63))) 5 1 (.int (nI 6))) 5 11 (.int (nI 48))) 5 21 (.int (nI 48))) 5 2 (.int (nI 91))) 5 12 (.int (nI 109))) 5 22 (.int (nI 91))) 5 3 (.int (nI 79))) 5 13 (.int (nI 121))) 5 23 (.int (nI 121))) 5 4 (.int (nI 102))) 5 14 (.int (nI 114))) 22 mX0_topBottom 1 [.int (nI 114)] 6 _ dX0_init_59 li_X0_22 mv_X0_topBottom rfl (Nat.le_of_ble_eq_true rfl) rfl (c_X0_topBottom (by omega) (G := (6, bf_up (bf_up (bf_up (bf_up (bf_up (bf_up (bf_up (bf_up (bf_up (bf_up (bf_up (bf_up (bf_up (bf_up (bf_up (bf_fill (h0) 5 (fun _ => .int 0)) 4 0 (.ref 5)) 5 0 (.int (nI 63))) 5 10 (.int (nI 63))) 5 20 (.int (nI 63))) 5 1 (.int (nI 6))) 5 11 (.int (nI 48))) 5 21 (.int (nI 48))) 5 2 (.int (nI 91))) 5 12 (.int (nI 109))) 5 22 (.int (nI 91))) 5 3 (.int (nI 79))) 5 13 (.int (nI 121))) 5 23 (.int (nI 121))) 5 4 (.int (nI 102))) 5 14 (.int (nI 114)))) (show 6 ≤ 57 by decide) (nI 114)) (show 6 ≤ 6 by decide) (fun res G802 hq802 hg802 => ?_)
  obtain ⟨rfl, hE802⟩ := hq802
  rw [hE802]
  show J 62 [some (.ref 4), some (.int (nI 4)), some (.int (nI 114))] [.int (trn8 (nI 114)), .int (nI 24), .ref 5] (6, bf_up (bf_up (bf_up (bf_up (bf_up (bf_up (bf_up (bf_up (bf_up (bf_up (bf_up (bf_up (bf_up (bf_up (bf_up (bf_fill (h0) 5 (fun _ => .int 0)) 4 0 (.ref 5)) 5 0 (.int (nI 63))) 5 10 (.int (nI 63))) 5 20 (.int (nI 63))) 5 1 (.int (nI 6))) 5 11 (.int (nI 48))) 5 21 (.int (nI 48))) 5 2 (.int (nI 91))) 5 12 (.int (nI 109))) 5 22 (.int (nI 91))) 5 3 (.int (nI 79))) 5 13 (.int (nI 121))) 5 23 (.int (nI 121))) 5 4 (.int (nI 102))) 5 14 (.int (nI 114)))
  refine eq_i (v := nI 116) (by decide) ?_
  refine bf_iast r.1 (n := 30) dX0_init_62 rfl (show 5 < 6 by decide) (vp_in_nI (by decide) (by decide)) ?_
  show J 63 [some (.ref 4), some (.int (nI 4)), some (.int (nI 114))] [] (6, bf_up (bf_up (bf_up (bf_up (bf_up (bf_up (bf_up (bf_up (bf_up (bf_up (bf_up (bf_up (bf_up (bf_up (bf_up (bf_up (bf_fill (h0) 5 (fun _ => .int 0)) 4 0 (.ref 5)) 5 0 (.int (nI 63))) 5 10 (.int (nI 63))) 5 20 (.int (nI 63))) 5 1 (.int (nI 6))) 5 11 (.int (nI 48))) 5 21 (.int (nI 48))) 5 2 (.int (nI 91))) 5 12 (.int (nI 109))) 5 22 (.int (nI 91))) 5 3 (.int (nI 79))) 5 13 (.int (nI 121))) 5 23 (.int (nI 121))) 5 4 (.int (nI 102))) 5 14 (.int (nI 114))) 5 24 (.int (nI 116)))
  refine bf_iinc r.1 (v := nI 5) (L2 := [some (.ref 4), some (.int (nI 5)), some (.int (nI 114))]) dX0_init_63 rfl (by decide) rfl ?_
  refine bf_goto r.1 (tgt := 14) dX0_init_66 (by decide) ?_
  refine bf_iload_n r.1 dX0_init_14 rfl ?_
  refine bf_bipush r.1 (v := nI 10) dX0_init_15 rfl ?_
  refine bf_icmp_ge r.1 (tgt := 69) dX0_init_17 (by decide) (fun c803 => ?_) (fun c803 => ?_)
  · exact absurd c803 (by decide)
  refine bf_gsF r.1 dX0_init_20 gs_X0_15 ?_
  refine bf_iload_n r.1 dX0_init_23 rfl ?_
  refine bf_ldF r.1 dX0_init_24 (vp_in_nI (by decide) (by decide)) ?_
  refine eq_i (v := nI 109) (by decide) ?_
  refine r.2.1.2.1 25 [some (.ref 4), some (.int (nI 5)), some (.int (nI 114))] [] _ (6, bf_up (bf_up (bf_up (bf_up (bf_up (bf_up (bf_up (bf_up (bf_up (bf_up (bf_up (bf_up (bf_up (bf_up (bf_up (bf_up (bf_fill (h0) 5 (fun _ => .int 0)) 4 0 (.ref 5)) 5 0 (.int (nI 63))) 5 10 (.int (nI 63))) 5 20 (.int (nI 63))) 5 1 (.int (nI 6))) 5 11 (.int (nI 48))) 5 21 (.int (nI 48))) 5 2 (.int (nI 91))) 5 12 (.int (nI 109))) 5 22 (.int (nI 91))) 5 3 (.int (nI 79))) 5 13 (.int (nI 121))) 5 23 (.int (nI 121))) 5 4 (.int (nI 102))) 5 14 (.int (nI 114))) 5 24 (.int (nI 116))) 18 mX0_leftRight 1 [.int (nI 109)] 6 _ dX0_init_25 li_X0_18 mv_X0_leftRight rfl (Nat.le_of_ble_eq_true rfl) rfl (c_X0_leftRight (by omega) (G := (6, bf_up (bf_up (bf_up (bf_up (bf_up (bf_up (bf_up (bf_up (bf_up (bf_up (bf_up (bf_up (bf_up (bf_up (bf_up (bf_up (bf_fill (h0) 5 (fun _ => .int 0)) 4 0 (.ref 5)) 5 0 (.int (nI 63))) 5 10 (.int (nI 63))) 5 20 (.int (nI 63))) 5 1 (.int (nI 6))) 5 11 (.int (nI 48))) 5 21 (.int (nI 48))) 5 2 (.int (nI 91))) 5 12 (.int (nI 109))) 5 22 (.int (nI 91))) 5 3 (.int (nI 79))) 5 13 (.int (nI 121))) 5 23 (.int (nI 121))) 5 4 (.int (nI 102))) 5 14 (.int (nI 114))) 5 24 (.int (nI 116)))) (show 6 ≤ 57 by decide) (nI 109)) (show 6 ≤ 6 by decide) (fun res G804 hq804 hg804 => ?_)
  obtain ⟨rfl, hE804⟩ := hq804
  rw [hE804]
  show J 28 [some (.ref 4), some (.int (nI 5)), some (.int (nI 114))] [.int (mir8 (nI 109))] (6, bf_up (bf_up (bf_up (bf_up (bf_up (bf_up (bf_up (bf_up (bf_up (bf_up (bf_up (bf_up (bf_up (bf_up (bf_up (bf_up (bf_fill (h0) 5 (fun _ => .int 0)) 4 0 (.ref 5)) 5 0 (.int (nI 63))) 5 10 (.int (nI 63))) 5 20 (.int (nI 63))) 5 1 (.int (nI 6))) 5 11 (.int (nI 48))) 5 21 (.int (nI 48))) 5 2 (.int (nI 91))) 5 12 (.int (nI 109))) 5 22 (.int (nI 91))) 5 3 (.int (nI 79))) 5 13 (.int (nI 121))) 5 23 (.int (nI 121))) 5 4 (.int (nI 102))) 5 14 (.int (nI 114))) 5 24 (.int (nI 116)))
  refine eq_i (v := nI 91) (by decide) ?_
  refine bf_istore_n r.1 (L2 := [some (.ref 4), some (.int (nI 5)), some (.int (nI 91))]) dX0_init_28 rfl ?_
  refine bf_aload_n r.1 dX0_init_29 rfl ?_
  refine bf_get r.1 dX0_init_30 fl_X0_9 rfl (show 4 < 6 by decide) ?_
  refine eq_v (w := .ref 5) (show (bf_up (bf_up (bf_up (bf_up (bf_up (bf_up (bf_up (bf_up (bf_up (bf_up (bf_up (bf_up (bf_up (bf_up (bf_up (bf_up (bf_fill (h0) 5 (fun _ => .int 0)) 4 0 (.ref 5)) 5 0 (.int (nI 63))) 5 10 (.int (nI 63))) 5 20 (.int (nI 63))) 5 1 (.int (nI 6))) 5 11 (.int (nI 48))) 5 21 (.int (nI 48))) 5 2 (.int (nI 91))) 5 12 (.int (nI 109))) 5 22 (.int (nI 91))) 5 3 (.int (nI 79))) 5 13 (.int (nI 121))) 5 23 (.int (nI 121))) 5 4 (.int (nI 102))) 5 14 (.int (nI 114))) 5 24 (.int (nI 116))) 4 0 = .ref 5 from (up_o (by decide) (up_o (by decide) (up_o (by decide) (up_o (by decide) (up_o (by decide) (up_o (by decide) (up_o (by decide) (up_o (by decide) (up_o (by decide) (up_o (by decide) (up_o (by decide) (up_o (by decide) (up_o (by decide) (up_o (by decide) (up_o (by decide) up_s)))))))))))))))) ?_
  refine bf_iload_n r.1 dX0_init_33 rfl ?_
  refine bf_gsF r.1 dX0_init_34 gs_X0_15 ?_
  refine bf_iload_n r.1 dX0_init_37 rfl ?_
  refine bf_ldF r.1 dX0_init_38 (vp_in_nI (by decide) (by decide)) ?_
  refine eq_i (v := nI 109) (by decide) ?_
  refine bf_iast r.1 (n := 30) dX0_init_39 rfl (show 5 < 6 by decide) (vp_in_nI (by decide) (by decide)) ?_
  show J 40 [some (.ref 4), some (.int (nI 5)), some (.int (nI 91))] [] (6, bf_up (bf_up (bf_up (bf_up (bf_up (bf_up (bf_up (bf_up (bf_up (bf_up (bf_up (bf_up (bf_up (bf_up (bf_up (bf_up (bf_up (bf_fill (h0) 5 (fun _ => .int 0)) 4 0 (.ref 5)) 5 0 (.int (nI 63))) 5 10 (.int (nI 63))) 5 20 (.int (nI 63))) 5 1 (.int (nI 6))) 5 11 (.int (nI 48))) 5 21 (.int (nI 48))) 5 2 (.int (nI 91))) 5 12 (.int (nI 109))) 5 22 (.int (nI 91))) 5 3 (.int (nI 79))) 5 13 (.int (nI 121))) 5 23 (.int (nI 121))) 5 4 (.int (nI 102))) 5 14 (.int (nI 114))) 5 24 (.int (nI 116))) 5 5 (.int (nI 109)))
  refine bf_aload_n r.1 dX0_init_40 rfl ?_
  refine bf_get r.1 dX0_init_41 fl_X0_9 rfl (show 4 < 6 by decide) ?_
  refine eq_v (w := .ref 5) (show (bf_up (bf_up (bf_up (bf_up (bf_up (bf_up (bf_up (bf_up (bf_up (bf_up (bf_up (bf_up (bf_up (bf_up (bf_up (bf_up (bf_up (bf_fill (h0) 5 (fun _ => .int 0)) 4 0 (.ref 5)) 5 0 (.int (nI 63))) 5 10 (.int (nI 63))) 5 20 (.int (nI 63))) 5 1 (.int (nI 6))) 5 11 (.int (nI 48))) 5 21 (.int (nI 48))) 5 2 (.int (nI 91))) 5 12 (.int (nI 109))) 5 22 (.int (nI 91))) 5 3 (.int (nI 79))) 5 13 (.int (nI 121))) 5 23 (.int (nI 121))) 5 4 (.int (nI 102))) 5 14 (.int (nI 114))) 5 24 (.int (nI 116))) 5 5 (.int (nI 109))) 4 0 = .ref 5 from (up_o (by decide) (up_o (by decide) (up_o (by decide) (up_o (by decide) (up_o (by decide) (up_o (by decide) (up_o (by decide) (up_o (by decide) (up_o (by decide) (up_o (by decide) (up_o (by decide) (up_o (by decide) (up_o (by decide) (up_o (by decide) (up_o (by decide) (up_o (by decide) up_s))))))))))))))))) ?_
  refine bf_bipush r.1 (v := nI 10) dX0_init_44 rfl ?_
  refine bf_iload_n r.1 dX0_init_46 rfl ?_
  refine bf_iadd r.1 dX0_init_47 ?_
  refine eq_i (v := nI 15) (by decide) ?_
  refine bf_iload_n r.1 dX0_init_48 rfl ?_
  refine bf_iast r.1 (n := 30) dX0_init_49 rfl (show 5 < 6 by decide) (vp_in_nI (by decide) (by decide)) ?_
  show J 50 [some (.ref 4), some (.int (nI 5)), some (.int (nI 91))] [] (6, bf_up (bf_up (bf_up (bf_up (bf_up (bf_up (bf_up (bf_up (bf_up (bf_up (bf_up (bf_up (bf_up (bf_up (bf_up (bf_up (bf_up (bf_up (bf_fill (h0) 5 (fun _ => .int 0)) 4 0 (.ref 5)) 5 0 (.int (nI 63))) 5 10 (.int (nI 63))) 5 20 (.int (nI 63))) 5 1 (.int (nI 6))) 5 11 (.int (nI 48))) 5 21 (.int (nI 48))) 5 2 (.int (nI 91))) 5 12 (.int (nI 109))) 5 22 (.int (nI 91))) 5 3 (.int (nI 79))) 5 13 (.int (nI 121))) 5 23 (.int (nI 121))) 5 4 (.int (nI 102))) 5 14 (.int (nI 114))) 5 24 (.int (nI 116))) 5 5 (.int (nI 109))) 5 15 (.int (nI 91)))
  refine bf_aload_n r.1 dX0_init_50 rfl ?_
  refine bf_get r.1 dX0_init_51 fl_X0_9 rfl (show 4 < 6 by decide) ?_
  refine eq_v (w := .ref 5) (show (bf_up (bf_up (bf_up (bf_up (bf_up (bf_up (bf_up (bf_up (bf_up (bf_up (bf_up (bf_up (bf_up (bf_up (bf_up (bf_up (bf_up (bf_up (bf_fill (h0) 5 (fun _ => .int 0)) 4 0 (.ref 5)) 5 0 (.int (nI 63))) 5 10 (.int (nI 63))) 5 20 (.int (nI 63))) 5 1 (.int (nI 6))) 5 11 (.int (nI 48))) 5 21 (.int (nI 48))) 5 2 (.int (nI 91))) 5 12 (.int (nI 109))) 5 22 (.int (nI 91))) 5 3 (.int (nI 79))) 5 13 (.int (nI 121))) 5 23 (.int (nI 121))) 5 4 (.int (nI 102))) 5 14 (.int (nI 114))) 5 24 (.int (nI 116))) 5 5 (.int (nI 109))) 5 15 (.int (nI 91))) 4 0 = .ref 5 from (up_o (by decide) (up_o (by decide) (up_o (by decide) (up_o (by decide) (up_o (by decide) (up_o (by decide) (up_o (by decide) (up_o (by decide) (up_o (by decide) (up_o (by decide) (up_o (by decide) (up_o (by decide) (up_o (by decide) (up_o (by decide) (up_o (by decide) (up_o (by decide) (up_o (by decide) up_s)))))))))))))))))) ?_
  refine bf_bipush r.1 (v := nI 20) dX0_init_54 rfl ?_
  refine bf_iload_n r.1 dX0_init_56 rfl ?_
  refine bf_iadd r.1 dX0_init_57 ?_
  refine eq_i (v := nI 25) (by decide) ?_
  refine bf_iload_n r.1 dX0_init_58 rfl ?_
  refine r.2.1.2.1 59 [some (.ref 4), some (.int (nI 5)), some (.int (nI 91))] [.int (nI 25), .ref 5] _ (6, bf_up (bf_up (bf_up (bf_up (bf_up (bf_up (bf_up (bf_up (bf_up (bf_up (bf_up (bf_up (bf_up (bf_up (bf_up (bf_up (bf_up (bf_up (bf_fill (h0) 5 (fun _ => .int 0)) 4 0 (.ref 5)) 5 0 (.int (nI 63))) 5 10 (.int (nI 63))) 5 20 (.int (nI 63))) 5 1 (.int (nI 6))) 5 11 (.int (nI 48))) 5 21 (.int (nI 48))) 5 2 (.int (nI 91))) 5 12 (.int (nI 109))) 5 22 (.int (nI 91))) 5 3 (.int (nI 79))) 5 13 (.int (nI 121))) 5 23 (.int (nI 121))) 5 4 (.int (nI 102))) 5 14 (.int (nI 114))) 5 24 (.int (nI 116))) 5 5 (.int (nI 109))) 5 15 (.int (nI 91))) 22 mX0_topBottom 1 [.int (nI 91)] 6 _ dX0_init_59 li_X0_22 mv_X0_topBottom rfl (Nat.le_of_ble_eq_true rfl) rfl (c_X0_topBottom (by omega) (G := (6, bf_up (bf_up (bf_up (bf_up (bf_up (bf_up (bf_up (bf_up (bf_up (bf_up (bf_up (bf_up (bf_up (bf_up (bf_up (bf_up (bf_up (bf_up (bf_fill (h0) 5 (fun _ => .int 0)) 4 0 (.ref 5)) 5 0 (.int (nI 63))) 5 10 (.int (nI 63))) 5 20 (.int (nI 63))) 5 1 (.int (nI 6))) 5 11 (.int (nI 48))) 5 21 (.int (nI 48))) 5 2 (.int (nI 91))) 5 12 (.int (nI 109))) 5 22 (.int (nI 91))) 5 3 (.int (nI 79))) 5 13 (.int (nI 121))) 5 23 (.int (nI 121))) 5 4 (.int (nI 102))) 5 14 (.int (nI 114))) 5 24 (.int (nI 116))) 5 5 (.int (nI 109))) 5 15 (.int (nI 91)))) (show 6 ≤ 57 by decide) (nI 91)) (show 6 ≤ 6 by decide) (fun res G805 hq805 hg805 => ?_)
  obtain ⟨rfl, hE805⟩ := hq805
  rw [hE805]
  show J 62 [some (.ref 4), some (.int (nI 5)), some (.int (nI 91))] [.int (trn8 (nI 91)), .int (nI 25), .ref 5] (6, bf_up (bf_up (bf_up (bf_up (bf_up (bf_up (bf_up (bf_up (bf_up (bf_up (bf_up (bf_up (bf_up (bf_up (bf_up (bf_up (bf_up (bf_up (bf_fill (h0) 5 (fun _ => .int 0)) 4 0 (.ref 5)) 5 0 (.int (nI 63))) 5 10 (.int (nI 63))) 5 20 (.int (nI 63))) 5 1 (.int (nI 6))) 5 11 (.int (nI 48))) 5 21 (.int (nI 48))) 5 2 (.int (nI 91))) 5 12 (.int (nI 109))) 5 22 (.int (nI 91))) 5 3 (.int (nI 79))) 5 13 (.int (nI 121))) 5 23 (.int (nI 121))) 5 4 (.int (nI 102))) 5 14 (.int (nI 114))) 5 24 (.int (nI 116))) 5 5 (.int (nI 109))) 5 15 (.int (nI 91)))
  refine eq_i (v := nI 109) (by decide) ?_
  refine bf_iast r.1 (n := 30) dX0_init_62 rfl (show 5 < 6 by decide) (vp_in_nI (by decide) (by decide)) ?_
  show J 63 [some (.ref 4), some (.int (nI 5)), some (.int (nI 91))] [] (6, bf_up (bf_up (bf_up (bf_up (bf_up (bf_up (bf_up (bf_up (bf_up (bf_up (bf_up (bf_up (bf_up (bf_up (bf_up (bf_up (bf_up (bf_up (bf_up (bf_fill (h0) 5 (fun _ => .int 0)) 4 0 (.ref 5)) 5 0 (.int (nI 63))) 5 10 (.int (nI 63))) 5 20 (.int (nI 63))) 5 1 (.int (nI 6))) 5 11 (.int (nI 48))) 5 21 (.int (nI 48))) 5 2 (.int (nI 91))) 5 12 (.int (nI 109))) 5 22 (.int (nI 91))) 5 3 (.int (nI 79))) 5 13 (.int (nI 121))) 5 23 (.int (nI 121))) 5 4 (.int (nI 102))) 5 14 (.int (nI 114))) 5 24 (.int (nI 116))) 5 5 (.int (nI 109))) 5 15 (.int (nI 91))) 5 25 (.int (nI 109)))
  refine bf_iinc r.1 (v := nI 6) (L2 := [some (.ref 4), some (.int (nI 6)), some (.int (nI 91))]) dX0_init_63 rfl (by decide) rfl ?_
  refine bf_goto r.1 (tgt := 14) dX0_init_66 (by decide) ?_
  refine bf_iload_n r.1 dX0_init_14 rfl ?_
  refine bf_bipush r.1 (v := nI 10) dX0_init_15 rfl ?_
  refine bf_icmp_ge r.1 (tgt := 69) dX0_init_17 (by decide) (fun c806 => ?_) (fun c806 => ?_)
  · exact absurd c806 (by decide)
  refine bf_gsF r.1 dX0_init_20 gs_X0_15 ?_
  refine bf_iload_n r.1 dX0_init_23 rfl ?_
  refine bf_ldF r.1 dX0_init_24 (vp_in_nI (by decide) (by decide)) ?_
  refine eq_i (v := nI 125) (by decide) ?_
  refine r.2.1.2.1 25 [some (.ref 4), some (.int (nI 6)), some (.int (nI 91))] [] _ (6, bf_up (bf_up (bf_up (bf_up (bf_up (bf_up (bf_up (bf_up (bf_up (bf_up (bf_up (bf_up (bf_up (bf_up (bf_up (bf_up (bf_up (bf_up (bf_up (bf_fill (h0) 5 (fun _ => .int 0)) 4 0 (.ref 5)) 5 0 (.int (nI 63))) 5 10 (.int (nI 63))) 5 20 (.int (nI 63))) 5 1 (.int (nI 6))) 5 11 (.int (nI 48))) 5 21 (.int (nI 48))) 5 2 (.int (nI 91))) 5 12 (.int (nI 109))) 5 22 (.int (nI 91))) 5 3 (.int (nI 79))) 5 13 (.int (nI 121))) 5 23 (.int (nI 121))) 5 4 (.int (nI 102))) 5 14 (.int (nI 114))) 5 24 (.int (nI 116))) 5 5 (.int (nI 109))) 5 15 (.int (nI 91))) 5 25 (.int (nI 109))) 18 mX0_leftRight 1 [.int (nI 125)] 6 _ dX0_init_25 li_X0_18 mv_X0_leftRight rfl (Nat.le_of_ble_eq_true rfl) rfl (c_X0_leftRight (by omega) (G := (6, bf_up (bf_up (bf_up (bf_up (bf_up (bf_up (bf_up (bf_up (bf_up (bf_up (bf_up (bf_up (bf_up (bf_up (bf_up (bf_up (bf_up (bf_up (bf_up (bf_fill (h0) 5 (fun _ => .int 0)) 4 0 (.ref 5)) 5 0 (.int (nI 63))) 5 10 (.int (nI 63))) 5 20 (.int (nI 63))) 5 1 (.int (nI 6))) 5 11 (.int (nI 48))) 5 21 (.int (nI 48))) 5 2 (.int (nI 91))) 5 12 (.int (nI 109))) 5 22 (.int (nI 91))) 5 3 (.int (nI 79))) 5 13 (.int (nI 121))) 5 23 (.int (nI 121))) 5 4 (.int (nI 102))) 5 14 (.int (nI 114))) 5 24 (.int (nI 116))) 5 5 (.int (nI 109))) 5 15 (.int (nI 91))) 5 25 (.int (nI 109)))) (show 6 ≤ 57 by decide) (nI 125)) (show 6 ≤ 6 by decide) (fun res G807 hq807 hg807 => ?_)
  obtain ⟨rfl, hE807⟩ := hq807
  rw [hE807]
  show J 28 [some (.ref 4), some (.int (nI 6)), some (.int (nI 91))] [.int (mir8 (nI 125))] (6, bf_up (bf_up (bf_up (bf_up (bf_up (bf_up (bf_up (bf_up (bf_up (bf_up (bf_up (bf_up (bf_up (bf_up (bf_up (bf_up (bf_up (bf_up (bf_up (bf_fill (h0) 5 (fun _ => .int 0)) 4 0 (.ref 5)) 5 0 (.int (nI 63))) 5 10 (.int (nI 63))) 5 20 (.int (nI 63))) 5 1 (.int (nI 6))) 5 11 (.int (nI 48))) 5 21 (.int (nI 48))) 5 2 (.int (nI 91))) 5 12 (.int (nI 109))) 5 22 (.int (nI 91))) 5 3 (.int (nI 79))) 5 13 (.int (nI 121))) 5 23 (.int (nI 121))) 5 4 (.int (nI 102))) 5 14 (.int (nI 114))) 5 24 (.int (nI 116))) 5 5 (.int (nI 109))) 5 15 (.int (nI 91))) 5 25 (.int (nI 109)))
  refine eq_i (v := nI 95) (by decide) ?_
  refine bf_istore_n r.1 (L2 := [some (.ref 4), some (.int (nI 6)), some (.int (nI 95))]) dX0_init_28 rfl ?_
  refine bf_aload_n r.1 dX0_init_29 rfl ?_
  refine bf_get r.1 dX0_init_30 fl_X0_9 rfl (show 4 < 6 by decide) ?_
  refine eq_v (w := .ref 5) (show (bf_up (bf_up (bf_up (bf_up (bf_up (bf_up (bf_up (bf_up (bf_up (bf_up (bf_up (bf_up (bf_up (bf_up (bf_up (bf_up (bf_up (bf_up (bf_up (bf_fill (h0) 5 (fun _ => .int 0)) 4 0 (.ref 5)) 5 0 (.int (nI 63))) 5 10 (.int (nI 63))) 5 20 (.int (nI 63))) 5 1 (.int (nI 6))) 5 11 (.int (nI 48))) 5 21 (.int (nI 48))) 5 2 (.int (nI 91))) 5 12 (.int (nI 109))) 5 22 (.int (nI 91))) 5 3 (.int (nI 79))) 5 13 (.int (nI 121))) 5 23 (.int (nI 121))) 5 4 (.int (nI 102))) 5 14 (.int (nI 114))) 5 24 (.int (nI 116))) 5 5 (.int (nI 109))) 5 15 (.int (nI 91))) 5 25 (.int (nI 109))) 4 0 = .ref 5 from (up_o (by decide) (up_o (by decide) (up_o (by decide) (up_o (by decide) (up_o (by decide) (up_o (by decide) (up_o (by decide) (up_o (by decide) (up_o (by decide) (up_o (by decide) (up_o (by decide) (up_o (by decide) (up_o (by decide) (up_o (by decide) (up_o (by decide) (up_o (by decide) (up_o (by decide) (up_o (by decide) up_s))))))))))))))))))) ?_
  refine bf_iload_n r.1 dX0_init_33 rfl ?_
  refine bf_gsF r.1 dX0_init_34 gs_X0_15 ?_
  refine bf_iload_n r.1 dX0_init_37 rfl ?_
  refine bf_ldF r.1 dX0_init_38 (vp_in_nI (by decide) (by decide)) ?_
  refine eq_i (v := nI 125) (by decide) ?_
  refine bf_iast r.1 (n := 30) dX0_init_39 rfl (show 5 < 6 by decide) (vp_in_nI (by decide) (by decide)) ?_
  show J 40 [some (.ref 4), some (.int (nI 6)), some (.int (nI 95))] [] (6, bf_up (bf_up (bf_up (bf_up (bf_up (bf_up (bf_up (bf_up (bf_up (bf_up (bf_up (bf_up (bf_up (bf_up (bf_up (bf_up (bf_up (bf_up (bf_up (bf_up (bf_fill (h0) 5 (fun _ => .int 0)) 4 0 (.ref 5)) 5 0 (.int (nI 63))) 5 10 (.int (nI 63))) 5 20 (.int (nI 63))) 5 1 (.int (nI 6))) 5 11 (.int (nI 48))) 5 21 (.int (nI 48))) 5 2 (.int (nI 91))) 5 12 (.int (nI 109))) 5 22 (.int (nI 91))) 5 3 (.int (nI 79))) 5 13 (.int (nI 121))) 5 23 (.int (nI 121))) 5 4 (.int (nI 102))) 5 14 (.int (nI 114))) 5 24 (.int (nI 116))) 5 5 (.int (nI 109))) 5 15 (.int (nI 91))) 5 25 (.int (nI 109))) 5 6 (.int (nI 125)))
  refine bf_aload_n r.1 dX0_init_40 rfl ?_
  refine bf_get r.1 dX0_init_41 fl_X0_9 rfl (show 4 < 6 by decide) ?_
  refine eq_v (w := .ref 5) (show (bf_up (bf_up (bf_up (bf_up (bf_up (bf_up (bf_up (bf_up (bf_up (bf_up (bf_up (bf_up (bf_up (bf_up (bf_up (bf_up (bf_up (bf_up (bf_up (bf_up (bf_fill (h0) 5 (fun _ => .int 0)) 4 0 (.ref 5)) 5 0 (.int (nI 63))) 5 10 (.int (nI 63))) 5 20 (.int (nI 63))) 5 1 (.int (nI 6))) 5 11 (.int (nI 48))) 5 21 (.int (nI 48))) 5 2 (.int (nI 91))) 5 12 (.int (nI 109))) 5 22 (.int (nI 91))) 5 3 (.int (nI 79))) 5 13 (.int (nI 121))) 5 23 (.int (nI 121))) 5 4 (.int (nI 102))) 5 14 (.int (nI 114))) 5 24 (.int (nI 116))) 5 5 (.int (nI 109))) 5 15 (.int (nI 91))) 5 25 (.int (nI 109))) 5 6 (.int (nI 125))) 4 0 = .ref 5 from (up_o (by decide) (up_o (by decide) (up_o (by decide) (up_o (by decide) (up_o (by decide) (up_o (by decide) (up_o (by decide) (up_o (by decide) (up_o (by decide) (up_o (by decide) (up_o (by decide) (up_o (by decide) (up_o (by decide) (up_o (by decide) (up_o (by decide) (up_o (by decide) (up_o (by decide) (up_o (by decide) (up_o (by decide) up_s)))))))))))))))))))) ?_
  refine bf_bipush r.1 (v := nI 10) dX0_init_44 rfl ?_
  refine bf_iload_n r.1 dX0_init_46 rfl ?_
  refine bf_iadd r.1 dX0_init_47 ?_
  refine eq_i (v := nI 16) (by decide) ?_
  refine bf_iload_n r.1 dX0_init_48 rfl ?_
  refine bf_iast r.1 (n := 30) dX0_init_49 rfl (show 5 < 6 by decide) (vp_in_nI (by decide) (by decide)) ?_
  show J 50 [some (.ref 4), some (.int (nI 6)), some (.int (nI 95))] [] (6, bf_up (bf_up (bf_up (bf_up (bf_up (bf_up (bf_up (bf_up (bf_up (bf_up (bf_up (bf_up (bf_up (bf_up (bf_up (bf_up (bf_up (bf_up (bf_up (bf_up (bf_up (bf_fill (h0) 5 (fun _ => .int 0)) 4 0 (.ref 5)) 5 0 (.int (nI 63))) 5 10 (.int (nI 63))) 5 20 (.int (nI 63))) 5 1 (.int (nI 6))) 5 11 (.int (nI 48))) 5 21 (.int (nI 48))) 5 2 (.int (nI 91))) 5 12 (.int (nI 109))) 5 22 (.int (nI 91))) 5 3 (.int (nI 79))) 5 13 (.int (nI 121))) 5 23 (.int (nI 121))) 5 4 (.int (nI 102))) 5 14 (.int (nI 114))) 5 24 (.int (nI 116))) 5 5 (.int (nI 109))) 5 15 (.int (nI 91))) 5 25 (.int (nI 109))) 5 6 (.int (nI 125))) 5 16 (.int (nI 95)))
  refine bf_aload_n r.1 dX0_init_50 rfl ?_
  refine bf_get r.1 dX0_init_51 fl_X0_9 rfl (show 4 < 6 by decide) ?_
  refine eq_v (w := .ref 5) (show (bf_up (bf_up (bf_up (bf_up (bf_up (bf_up (bf_up (bf_up (bf_up (bf_up (bf_up (bf_up (bf_up (bf_up (bf_up (bf_up (bf_up (bf_up (bf_up (bf_up (bf_up (bf_fill (h0) 5 (fun _ => .int 0)) 4 0 (.ref 5)) 5 0 (.int (nI 63))) 5 10 (.int (nI 63))) 5 20 (.int (nI 63))) 5 1 (.int (nI 6))) 5 11 (.int (nI 48))) 5 21 (.int (nI 48))) 5 2 (.int (nI 91))) 5 12 (.int (nI 109))) 5 22 (.int (nI 91))) 5 3 (.int (nI 79))) 5 13 (.int (nI 121))) 5 23 (.int (nI 121))) 5 4 (.int (nI 102))) 5 14 (.int (nI 114))) 5 24 (.int (nI 116))) 5 5 (.int (nI 109))) 5 15 (.int (nI 91))) 5 25 (.int (nI 109))) 5 6 (.int (nI 125))) 5 16 (.int (nI 95))) 4 0 = .ref 5 from (up_o (by decide) (up_o (by decide) (up_o (by decide) (up_o (by decide) (up_o (by decide) (up_o (by decide) (up_o (by decide) (up_o (by decide) (up_o (by decide) (up_o (by decide) (up_o (by decide) (up_o (by decide) (up_o (by decide) (up_o (by decide) (up_o (by decide) (up_o (by decide) (up_o (by decide) (up_o (by decide) (up_o (by decide) (up_o (by decide) up_s))))))))))))))))))))) ?_
  refine bf_bipush r.1 (v := nI 20) dX0_init_54 rfl ?_
  refine bf_iload_n r.1 dX0_init_56 rfl ?_
  refine bf_iadd r.1 dX0_init_57 ?_
  refine eq_i (v := nI 26) (by decide) ?_
  refine bf_iload_n r.1 dX0_init_58 rfl ?_
  refine r.2.1.2.1 59 [some (.ref 4), some (.int (nI 6)), some (.int (nI 95))] [.int (nI 26), .ref 5] _ (6, bf_up (bf_up (bf_up (bf_up (bf_up (bf_up (bf_up (bf_up (bf_up (bf_up (bf_up (bf_up (bf_up (bf_up (bf_up (bf_up (bf_up (bf_up (bf_up (bf_up (bf_up (bf_fill (h0) 5 (fun _ => .int 0)) 4 0 (.ref 5)) 5 0 (.int (nI 63))) 5 10 (.int (nI 63))) 5 20 (.int (nI 63))) 5 1 (.int (nI 6))) 5 11 (.int (nI 48))) 5 21 (.int (nI 48))) 5 2 (.int (nI 91))) 5 12 (.int (nI 109))) 5 22 (.int (nI 91))) 5 3 (.int (nI 79))) 5 13 (.int (nI 121))) 5 23 (.int (nI 121))) 5 4 (.int (nI 102))) 5 14 (.int (nI 114))) 5 24 (.int (nI 116))) 5 5 (.int (nI 109))) 5 15 (.int (nI 91))) 5 25 (.int (nI 109))) 5 6 (.int (nI 125))) 5 16 (.int (nI 95))) 22 mX0_topBottom 1 [.int (nI 95)] 6 _ dX0_init_59 li_X0_22 mv_X0_topBottom rfl (Nat.le_of_ble_eq_true rfl) rfl (c_X0_topBottom (by omega) (G := (6, bf_up (bf_up (bf_up (bf_up (bf_up (bf_up (bf_up (bf_up (bf_up (bf_up (bf_up (bf_up (bf_up (bf_up (bf_up (bf_up (bf_up (bf_up (bf_up (bf_up (bf_up (bf_fill (h0) 5 (fun _ => .int 0)) 4 0 (.ref 5)) 5 0 (.int (nI 63))) 5 10 (.int (nI 63))) 5 20 (.int (nI 63))) 5 1 (.int (nI 6))) 5 11 (.int (nI 48))) 5 21 (.int (nI 48))) 5 2 (.int (nI 91))) 5 12 (.int (nI 109))) 5 22 (.int (nI 91))) 5 3 (.int (nI 79))) 5 13 (.int (nI 121))) 5 23 (.int (nI 121))) 5 4 (.int (nI 102))) 5 14 (.int (nI 114))) 5 24 (.int (nI 116))) 5 5 (.int (nI 109))) 5 15 (.int (nI 91))) 5 25 (.int (nI 109))) 5 6 (.int (nI 125))) 5 16 (.int (nI 95)))) (show 6 ≤ 57 by decide) (nI 95)) (show 6 ≤ 6 by decide) (fun res G808 hq808 hg808 => ?_)
  obtain ⟨rfl, hE808⟩ := hq808
  rw [hE808]
  show J 62 [some (.ref 4), some (.int (nI 6)), some (.int (nI 95))] [.int (trn8 (nI 95)), .int (nI 26), .ref 5] (6, bf_up (bf_up (bf_up (bf_up (bf_up (bf_up (bf_up (bf_up (bf_up (bf_up (bf_up (bf_up (bf_up (bf_up (bf_up (bf_up (bf_up (bf_up (bf_up (bf_up (bf_up (bf_fill (h0) 5 (fun _ => .int 0)) 4 0 (.ref 5)) 5 0 (.int (nI 63))) 5 10 (.int (nI 63))) 5 20 (.int (nI 63))) 5 1 (.int (nI 6))) 5 11 (.int (nI 48))) 5 21 (.int (nI 48))) 5 2 (.int (nI 91))) 5 12 (.int (nI 109))) 5 22 (.int (nI 91))) 5 3 (.int (nI 79))) 5 13 (.int (nI 121))) 5 23 (.int (nI 121))) 5 4 (.int (nI 102))) 5 14 (.int (nI 114))) 5 24 (.int (nI 116))) 5 5 (.int (nI 109))) 5 15 (.int (nI 91))) 5 25 (.int (nI 109))) 5 6 (.int (nI 125))) 5 16 (.int (nI 95)))
  refine eq_i (v := nI 111) (by decide) ?_
  refine bf_iast r.1 (n := 30) dX0_init_62 rfl (show 5 < 6 by decide) (vp_in_nI (by decide) (by decide)) ?_
  show J 63 [some (.ref 4), some (.int (nI 6)), some (.int (nI 95))] [] (6, bf_up (bf_up (bf_up (bf_up (bf_up (bf_up (bf_up (bf_up (bf_up (bf_up (bf_up (bf_up (bf_up (bf_up (bf_up (bf_up (bf_up (bf_up (bf_up (bf_up (bf_up (bf_up (bf_fill (h0) 5 (fun _ => .int 0)) 4 0 (.ref 5)) 5 0 (.int (nI 63))) 5 10 (.int (nI 63))) 5 20 (.int (nI 63))) 5 1 (.int (nI 6))) 5 11 (.int (nI 48))) 5 21 (.int (nI 48))) 5 2 (.int (nI 91))) 5 12 (.int (nI 109))) 5 22 (.int (nI 91))) 5 3 (.int (nI 79))) 5 13 (.int (nI 121))) 5 23 (.int (nI 121))) 5 4 (.int (nI 102))) 5 14 (.int (nI 114))) 5 24 (.int (nI 116))) 5 5 (.int (nI 109))) 5 15 (.int (nI 91))) 5 25 (.int (nI 109))) 5 6 (.int (nI 125))) 5 16 (.int (nI 95))) 5 26 (.int (nI 111)))
  refine bf_iinc r.1 (v := nI 7) (L2 := [some (.ref 4), some (.int (nI 7)), some (.int (nI 95))]) dX0_init_63 rfl (by decide) rfl ?_
  refine bf_goto r.1 (tgt := 14) dX0_init_66 (by decide) ?_
  refine bf_iload_n r.1 dX0_init_14 rfl ?_
  refine bf_bipush r.1 (v := nI 10) dX0_init_15 rfl ?_
  refine bf_icmp_ge r.1 (tgt := 69) dX0_init_17 (by decide) (fun c809 => ?_) (fun c809 => ?_)
  · exact absurd c809 (by decide)
  refine bf_gsF r.1 dX0_init_20 gs_X0_15 ?_
  refine bf_iload_n r.1 dX0_init_23 rfl ?_
  refine bf_ldF r.1 dX0_init_24 (vp_in_nI (by decide) (by decide)) ?_
  refine eq_i (v := nI 7) (by decide) ?_
  refine r.2.1.2.1 25 [some (.ref 4), some (.int (nI 7)), some (.int (nI 95))] [] _ (6, bf_up (bf_up (bf_up (bf_up (bf_up (bf_up (bf_up (bf_up (bf_up (bf_up (bf_up (bf_up (bf_up (bf_up (bf_up (bf_up (bf_up (bf_up (bf_up (bf_up (bf_up (bf_up (bf_fill (h0) 5 (fun _ => .int 0)) 4 0 (.ref 5)) 5 0 (.int (nI 63))) 5 10 (.int (nI 63))) 5 20 (.int (nI 63))) 5 1 (.int (nI 6))) 5 11 (.int (nI 48))) 5 21 (.int (nI 48))) 5 2 (.int (nI 91))) 5 12 (.int (nI 109))) 5 22 (.int (nI 91))) 5 3 (.int (nI 79))) 5 13 (.int (nI 121))) 5 23 (.int (nI 121))) 5 4 (.int (nI 102))) 5 14 (.int (nI 114))) 5 24 (.int (nI 116))) 5 5 (.int (nI 109))) 5 15 (.int (nI 91))) 5 25 (.int (nI 109))) 5 6 (.int (nI 125))) 5 16 (.int (nI 95))) 5 26 (.int (nI 111))) 18 mX0_leftRight 1 [.int (nI 7)] 6 _ dX0_init_25 li_X0_18 mv_X0_leftRight rfl (Nat.le_of_ble_eq_true rfl) rfl (c_X0_leftRight (by omega) (G := (6, bf_up (bf_up (bf_up (bf_up (bf_up (bf_up (bf_up (bf_up (bf_up (bf_up (bf_up (bf_up (bf_up (bf_up (bf_up (bf_up (bf_up (bf_up (bf_up (bf_up (bf_up (bf_up (bf_fill (h0) 5 (fun _ => .int 0)) 4 0 (.ref 5)) 5 0 (.int (nI 63))) 5 10 (.int (nI 63))) 5 20 (.int (nI 63))) 5 1 (.int (nI 6))) 5 11 (.int (nI 48))) 5 21 (.int (nI 48))) 5 2 (.int (nI 91))) 5 12 (.int (nI 109))) 5 22 (.int (nI 91))) 5 3 (.int (nI 79))) 5 13 (.int (nI 121))) 5 23 (.int (nI 121))) 5 4 (.int (nI 102))) 5 14 (.int (nI 114))) 5 24 (.int (nI 116))) 5 5 (.int (nI 109))) 5 15 (.int (nI 91))) 5 25 (.int (nI 109))) 5 6 (.int (nI 125))) 5 16 (.int (nI 95))) 5 26 (.int (nI 111)))) (show 6 ≤ 57 by decide) (nI 7)) (show 6 ≤ 6 by decide) (fun res G810 hq810 hg810 => ?_)
  obtain ⟨rfl, hE810⟩ := hq810
  rw [hE810]
  show J 28 [some (.ref 4), some (.int (nI 7)), some (.int (nI 95))] [.int (mir8 (nI 7))] (6, bf_up (bf_up (bf_up (bf_up (bf_up (bf_up (bf_up (bf_up (bf_up (bf_up (bf_up (bf_up (bf_up (bf_up (bf_up (bf_up (bf_up (bf_up (bf_up (bf_up (bf_up (bf_up (bf_fill (h0) 5 (fun _ => .int 0)) 4 0 (.ref 5)) 5 0 (.int (nI 63))) 5 10 (.int (nI 63))) 5 20 (.int (nI 63))) 5 1 (.int (nI 6))) 5 11 (.int (nI 48))) 5 21 (.int (nI 48))) 5 2 (.int (nI 91))) 5 12 (.int (nI 109))) 5 22 (.int (nI 91))) 5 3 (.int (nI 79))) 5 13 (.int (nI 121))) 5 23 (.int (nI 121))) 5 4 (.int (nI 102))) 5 14 (.int (nI 114))) 5 24 (.int (nI 116))) 5 5 (.int (nI 109))) 5 15 (.int (nI 91))) 5 25 (.int (nI 109))) 5 6 (.int (nI 125))) 5 16 (.int (nI 95))) 5 26 (.int (nI 111)))
  refine eq_i (v := nI 49) (by decide) ?_
  refine bf_istore_n r.1 (L2 := [some (.ref 4), some (.int (nI 7)), some (.int (nI 49))]) dX0_init_28 rfl ?_
  refine bf_aload_n r.1 dX0_init_29 rfl ?_
  refine bf_get r.1 dX0_init_30 fl_X0_9 rfl (show 4 < 6 by decide) ?_
  refine eq_v (w := .ref 5) (show (bf_up (bf_up (bf_up (bf_up (bf_up (bf_up (bf_up (bf_up (bf_up (bf_up (bf_up (bf_up (bf_up (bf_up (bf_up (bf_up (bf_up (bf_up (bf_up (bf_up (bf_up (bf_up (bf_fill (h0) 5 (fun _ => .int 0)) 4 0 (.ref 5)) 5 0 (.int (nI 63))) 5 10 (.int (nI 63))) 5 20 (.int (nI 63))) 5 1 (.int (nI 6))) 5 11 (.int (nI 48))) 5 21 (.int (nI 48))) 5 2 (.int (nI 91))) 5 12 (.int (nI 109))) 5 22 (.int (nI 91))) 5 3 (.int (nI 79))) 5 13 (.int (nI 121))) 5 23 (.int (nI 121))) 5 4 (.int (nI 102))) 5 14 (.int (nI 114))) 5 24 (.int (nI 116))) 5 5 (.int (nI 109))) 5 15 (.int (nI 91))) 5 25 (.int (nI 109))) 5 6 (.int (nI 125))) 5 16 (.int (nI 95))) 5 26 (.int (nI 111))) 4 0 = .ref 5 from (up_o (by decide) (up_o (by decide) (up_o (by decide) (up_o (by decide) (up_o (by decide) (up_o (by decide) (up_o (by decide) (up_o (by decide) (up_o (by decide) (up_o (by decide) (up_o (by decide) (up_o (by decide) (up_o (by decide) (up_o (by decide) (up_o (by decide) (up_o (by decide) (up_o (by decide) (up_o (by decide) (up_o (by decide) (up_o (by decide) (up_o (by decide) up_s)))))))))))))))))))))) ?_
  refine bf_iload_n r.1 dX0_init_33 rfl ?_
  refine bf_gsF r.1 dX0_init_34 gs_X0_15 ?_
  refine bf_iload_n r.1 dX0_init_37 rfl ?_
  refine bf_ldF r.1 dX0_init_38 (vp_in_nI (by decide) (by decide)) ?_
  refine eq_i (v := nI 7) (by decide) ?_
  refine bf_iast r.1 (n := 30) dX0_init_39 rfl (show 5 < 6 by decide) (vp_in_nI (by decide) (by decide)) ?_
  show J 40 [some (.ref 4), some (.int (nI 7)), some (.int (nI 49))] [] (6, bf_up (bf_up (bf_up (bf_up (bf_up (bf_up (bf_up (bf_up (bf_up (bf_up (bf_up (bf_up (bf_up (bf_up (bf_up (bf_up (bf_up (bf_up (bf_up (bf_up (bf_up (bf_up (bf_up (bf_fill (h0) 5 (fun _ => .int 0)) 4 0 (.ref 5)) 5 0 (.int (nI 63))) 5 10 (.int (nI 63))) 5 20 (.int (nI 63))) 5 1 (.int (nI 6))) 5 11 (.int (nI 48))) 5 21 (.int (nI 48))) 5 2 (.int (nI 91))) 5 12 (.int (nI 109))) 5 22 (.int (nI 91))) 5 3 (.int (nI 79))) 5 13 (.int (nI 121))) 5 23 (.int (nI 121))) 5 4 (.int (nI 102))) 5 14 (.int (nI 114))) 5 24 (.int (nI 116))) 5 5 (.int (nI 109))) 5 15 (.int (nI 91))) 5 25 (.int (nI 109))) 5 6 (.int (nI 125))) 5 16 (.int (nI 95))) 5 26 (.int (nI 111))) 5 7 (.int (nI 7)))
  refine bf_aload_n r.1 dX0_init_40 rfl ?_
  refine bf_get r.1 dX0_init_41 fl_X0_9 rfl (show 4 < 6 by decide) ?_
  refine eq_v (w := .ref 5) (show (bf_up (bf_up (bf_up (bf_up (bf_up (bf_up (bf_up (bf_up (bf_up (bf_up (bf_up (bf_up (bf_up (bf_up (bf_up (bf_up (bf_up (bf_up (bf_up (bf_up (bf_up (bf_up (bf_up (bf_fill (h0) 5 (fun _ => .int 0)) 4 0 (.ref 5)) 5 0 (.int (nI 63))) 5 10 (.int (nI 63))) 5 20 (.int (nI 63))) 5 1 (.int (nI 6))) 5 11 (.int (nI 48))) 5 21 (.int (nI 48))) 5 2 (.int (nI 91))) 5 12 (.int (nI 109))) 5 22 (.int (nI 91))) 5 3 (.int (nI 79))) 5 13 (.int (nI 121))) 5 23 (.int (nI 121))) 5 4 (.int (nI 102))) 5 14 (.int (nI 114))) 5 24 (.int (nI 116))) 5 5 (.int (nI 109))) 5 15 (.int (nI 91))) 5 25 (.int (nI 109))) 5 6 (.int (nI 125))) 5 16 (.int (nI 95))) 5 26 (.int (nI 111))) 5 7 (.int (nI 7))) 4 0 = .ref 5 from (up_o (by decide) (up_o (by decide) (up_o (by decide) (up_o (by decide) (up_o (by decide) (up_o (by decide) (up_o (by decide) (up_o (by decide) (up_o (by decide) (up_o (by decide) (up_o (by decide) (up_o (by decide) (up_o (by decide) (up_o (by decide) (up_o (by decide) (up_o (by decide) (up_o (by decide) (up_o (by decide) (up_o (by decide) (up_o (by decide) (up_o (by decide) (up_o (by decide) up_s))))))))))))))))))))))) ?_
  refine bf_bipush r.1 (v := nI 10) dX0_init_44 rfl ?_
  refine bf_iload_n r.1 dX0_init_46 rfl ?_
  refine bf_iadd r.1 dX0_init_47 ?_
  refine eq_i (v := nI 17) (by decide) ?_
  refine bf_iload_n r.1 dX0_init_48 rfl ?_
  refine bf_iast r.1 (n := 30) dX0_init_49 rfl (show 5 < 6 by decide) (vp_in_nI (by decide) (by decide)) ?_
  show J 50 [some (.ref 4), some (.int (nI 7)), some (.int (nI 49))] [] (6, bf_up (bf_up (bf_up (bf_up (bf_up (bf_up (bf_up (bf_up (bf_up (bf_up (bf_up (bf_up (bf_up (bf_up (bf_up (bf_up (bf_up (bf_up (bf_up (bf_up (bf_up (bf_up (bf_up (bf_up (bf_fill (h0) 5 (fun _ => .int 0)) 4 0 (.ref 5)) 5 0 (.int (nI 63))) 5 10 (.int (nI 63))) 5 20 (.int (nI 63))) 5 1 (.int (nI 6))) 5 11 (.int (nI 48))) 5 21 (.int (nI 48))) 5 2 (.int (nI 91))) 5 12 (.int (nI 109))) 5 22 (.int (nI 91))) 5 3 (.int (nI 79))) 5 13 (.int (nI 121))) 5 23 (.int (nI 121))) 5 4 (.int (nI 102))) 5 14 (.int (nI 114))) 5 24 (.int (nI 116))) 5 5 (.int (nI 109))) 5 15 (.int (nI 91))) 5 25 (.int (nI 109))) 5 6 (.int (nI 125))) 5 16 (.int (nI 95))) 5 26 (.int (nI 111))) 5 7 (.int (nI 7))) 5 17 (.int (nI 49)))
  refine bf_aload_n r.1 dX0_init_50 rfl ?_
  refine bf_get r.1 dX0_init_51 fl_X0_9 rfl (show 4 < 6 by decide) ?_
  refine eq_v (w := .ref 5) (show (bf_up (bf_up (bf_up (bf_up (bf_up (bf_up (bf_up (bf_up (bf_up (bf_up (bf_up (bf_up (bf_up (bf_up (bf_up (bf_up (bf_up (bf_up (bf_up (bf_up (bf_up (bf_up (bf_up (bf_up (bf_fill (h0) 5 (fun _ => .int 0)) 4 0 (.ref 5)) 5 0 (.int (nI 63))) 5 10 (.int (nI 63))) 5 20 (.int (nI 63))) 5 1 (.int (nI 6))) 5 11 (.int (nI 48))) 5 21 (.int (nI 48))) 5 2 (.int (nI 91))) 5 12 (.int (nI 109))) 5 22 (.int (nI 91))) 5 3 (.int (nI 79))) 5 13 (.int (nI 121))) 5 23 (.int (nI 121))) 5 4 (.int (nI 102))) 5 14 (.int (nI 114))) 5 24 (.int (nI 116))) 5 5 (.int (nI 109))) 5 15 (.int (nI 91))) 5 25 (.int (nI 109))) 5 6 (.int (nI 125))) 5 16 (.int (nI 95))) 5 26 (.int (nI 111))) 5 7 (.int (nI 7))) 5 17 (.int (nI 49))) 4 0 = .ref 5 from (up_o (by decide) (up_o (by decide) (up_o (by decide) (up_o (by decide) (up_o (by decide) (up_o (by decide) (up_o (by decide) (up_o (by decide) (up_o (by decide) (up_o (by decide) (up_o (by decide) (up_o (by decide) (up_o (by decide) (up_o (by decide) (up_o (by decide) (up_o (by decide) (up_o (by decide) (up_o (by decide) (up_o (by decide) (up_o (by decide) (up_o (by decide) (up_o (by decide) (up_o (by decide) up_s)))))))))))))))))))))))) ?_
  refine bf_bipush r.1 (v := nI 20) dX0_init_54 rfl ?_
  refine bf_iload_n r.1 dX0_init_56 rfl ?_
  refine bf_iadd r.1 dX0_init_57 ?_
  refine eq_i (v := nI 27) (by decide) ?_
  refine bf_iload_n r.1 dX0_init_58 rfl ?_
  refine r.2.1.2.1 59 [some (.ref 4), some (.int (nI 7)), some (.int (nI 49))] [.int (nI 27), .ref 5] _ (6, bf_up (bf_up (bf_up (bf_up (bf_up (bf_up (bf_up (bf_up (bf_up (bf_up (bf_up (bf_up (bf_up (bf_up (bf_up (bf_up (bf_up (bf_up (bf_up (bf_up (bf_up (bf_up (bf_up (bf_up (bf_fill (h0) 5 (fun _ => .int 0)) 4 0 (.ref 5)) 5 0 (.int (nI 63))) 5 10 (.int (nI 63))) 5 20 (.int (nI 63))) 5 1 (.int (nI 6))) 5 11 (.int (nI 48))) 5 21 (.int (nI 48))) 5 2 (.int (nI 91))) 5 12 (.int (nI 109))) 5 22 (.int (nI 91))) 5 3 (.int (nI 79))) 5 13 (.int (nI 121))) 5 23 (.int (nI 121))) 5 4 (.int (nI 102))) 5 14 (.int (nI 114))) 5 24 (.int (nI 116))) 5 5 (.int (nI 109))) 5 15 (.int (nI 91))) 5 25 (.int (nI 109))) 5 6 (.int (nI 125))) 5 16 (.int (nI 95))) 5 26 (.int (nI 111))) 5 7 (.int (nI 7))) 5 17 (.int (nI 49))) 22 mX0_topBottom 1 [.int (nI 49)] 6 _ dX0_init_59 li_X0_22 mv_X0_topBottom rfl (Nat.le_of_ble_eq_true rfl) rfl (c_X0_topBottom (by omega) (G := (6, bf_up (bf_up (bf_up (bf_up (bf_up (bf_up (bf_up (bf_up (bf_up (bf_up (bf_up (bf_up (bf_up (bf_up (bf_up (bf_up (bf_up (bf_up (bf_up (bf_up (bf_up (bf_up (bf_up (bf_up (bf_fill (h0) 5 (fun _ => .int 0)) 4 0 (.ref 5)) 5 0 (.int (nI 63))) 5 10 (.int (nI 63))) 5 20 (.int (nI 63))) 5 1 (.int (nI 6))) 5 11 (.int (nI 48))) 5 21 (.int (nI 48))) 5 2 (.int (nI 91))) 5 12 (.int (nI 109))) 5 22 (.int (nI 91))) 5 3 (.int (nI 79))) 5 13 (.int (nI 121))) 5 23 (.int (nI 121))) 5 4 (.int (nI 102))) 5 14 (.int (nI 114))) 5 24 (.int (nI 116))) 5 5 (.int (nI 109))) 5 15 (.int (nI 91))) 5 25 (.int (nI 109))) 5 6 (.int (nI 125))) 5 16 (.int (nI 95))) 5 26 (.int (nI 111))) 5 7 (.int (nI 7))) 5 17 (.int (nI 49)))) (show 6 ≤ 57 by decide) (nI 49)) (show 6 ≤ 6 by decide) (fun res G811 hq811 hg811 => ?_)
  obtain ⟨rfl, hE811⟩ := hq811
  rw [hE811]
  show J 62 [some (.ref 4), some (.int (nI 7)), some (.int (nI 49))] [.int (trn8 (nI 49)), .int (nI 27), .ref 5] (6, bf_up (bf_up (bf_up (bf_up (bf_up (bf_up (bf_up (bf_up (bf_up (bf_up (bf_up (bf_up (bf_up (bf_up (bf_up (bf_up (bf_up (bf_up (bf_up (bf_up (bf_up (bf_up (bf_up (bf_up (bf_fill (h0) 5 (fun _ => .int 0)) 4 0 (.ref 5)) 5 0 (.int (nI 63))) 5 10 (.int (nI 63))) 5 20 (.int (nI 63))) 5 1 (.int (nI 6))) 5 11 (.int (nI 48))) 5 21 (.int (nI 48))) 5 2 (.int (nI 91))) 5 12 (.int (nI 109))) 5 22 (.int (nI 91))) 5 3 (.int (nI 79))) 5 13 (.int (nI 121))) 5 23 (.int (nI 121))) 5 4 (.int (nI 102))) 5 14 (.int (nI 114))) 5 24 (.int (nI 116))) 5 5 (.int (nI 109))) 5 15 (.int (nI 91))) 5 25 (.int (nI 109))) 5 6 (.int (nI 125))) 5 16 (.int (nI 95))) 5 26 (.int (nI 111))) 5 7 (.int (nI 7))) 5 17 (.int (nI 49)))
  refine eq_i (v := nI 56) (by decide) ?_
  refine bf_iast r.1 (n := 30) dX0_init_62 rfl (show 5 < 6 by decide) (vp_in_nI (by decide) (by decide)) ?_
  show J 63 [some (.ref 4), some (.int (nI 7)), some (.int (nI 49))] [] (6, bf_up (bf_up (bf_up (bf_up (bf_up (bf_up (bf_up (bf_up (bf_up (bf_up (bf_up (bf_up (bf_up (bf_up (bf_up (bf_up (bf_up (bf_up (bf_up (bf_up (bf_up (bf_up (bf_up (bf_up (bf_up (bf_fill (h0) 5 (fun _ => .int 0)) 4 0 (.ref 5)) 5 0 (.int (nI 63))) 5 10 (.int (nI 63))) 5 20 (.int (nI 63))) 5 1 (.int (nI 6))) 5 11 (.int (nI 48))) 5 21 (.int (nI 48))) 5 2 (.int (nI 91))) 5 12 (.int (nI 109))) 5 22 (.int (nI 91))) 5 3 (.int (nI 79))) 5 13 (.int (nI 121))) 5 23 (.int (nI 121))) 5 4 (.int (nI 102))) 5 14 (.int (nI 114))) 5 24 (.int (nI 116))) 5 5 (.int (nI 109))) 5 15 (.int (nI 91))) 5 25 (.int (nI 109))) 5 6 (.int (nI 125))) 5 16 (.int (nI 95))) 5 26 (.int (nI 111))) 5 7 (.int (nI 7))) 5 17 (.int (nI 49))) 5 27 (.int (nI 56)))
  refine bf_iinc r.1 (v := nI 8) (L2 := [some (.ref 4), some (.int (nI 8)), some (.int (nI 49))]) dX0_init_63 rfl (by decide) rfl ?_
  refine bf_goto r.1 (tgt := 14) dX0_init_66 (by decide) ?_
  refine bf_iload_n r.1 dX0_init_14 rfl ?_
  refine bf_bipush r.1 (v := nI 10) dX0_init_15 rfl ?_
  refine bf_icmp_ge r.1 (tgt := 69) dX0_init_17 (by decide) (fun c812 => ?_) (fun c812 => ?_)
  · exact absurd c812 (by decide)
  refine bf_gsF r.1 dX0_init_20 gs_X0_15 ?_
  refine bf_iload_n r.1 dX0_init_23 rfl ?_
  refine bf_ldF r.1 dX0_init_24 (vp_in_nI (by decide) (by decide)) ?_
  refine eq_i (v := nI 127) (by decide) ?_
  refine r.2.1.2.1 25 [some (.ref 4), some (.int (nI 8)), some (.int (nI 49))] [] _ (6, bf_up (bf_up (bf_up (bf_up (bf_up (bf_up (bf_up (bf_up (bf_up (bf_up (bf_up (bf_up (bf_up (bf_up (bf_up (bf_up (bf_up (bf_up (bf_up (bf_up (bf_up (bf_up (bf_up (bf_up (bf_up (bf_fill (h0) 5 (fun _ => .int 0)) 4 0 (.ref 5)) 5 0 (.int (nI 63))) 5 10 (.int (nI 63))) 5 20 (.int (nI 63))) 5 1 (.int (nI 6))) 5 11 (.int (nI 48))) 5 21 (.int (nI 48))) 5 2 (.int (nI 91))) 5 12 (.int (nI 109))) 5 22 (.int (nI 91))) 5 3 (.int (nI 79))) 5 13 (.int (nI 121))) 5 23 (.int (nI 121))) 5 4 (.int (nI 102))) 5 14 (.int (nI 114))) 5 24 (.int (nI 116))) 5 5 (.int (nI 109))) 5 15 (.int (nI 91))) 5 25 (.int (nI 109))) 5 6 (.int (nI 125))) 5 16 (.int (nI 95))) 5 26 (.int (nI 111))) 5 7 (.int (nI 7))) 5 17 (.int (nI 49))) 5 27 (.int (nI 56))) 18 mX0_leftRight 1 [.int (nI 127)] 6 _ dX0_init_25 li_X0_18 mv_X0_leftRight rfl (Nat.le_of_ble_eq_true rfl) rfl (c_X0_leftRight (by omega) (G := (6, bf_up (bf_up (bf_up (bf_up (bf_up (bf_up (bf_up (bf_up (bf_up (bf_up (bf_up (bf_up (bf_up (bf_up (bf_up (bf_up (bf_up (bf_up (bf_up (bf_up (bf_up (bf_up (bf_up (bf_up (bf_up (bf_fill (h0) 5 (fun _ => .int 0)) 4 0 (.ref 5)) 5 0 (.int (nI 63))) 5 10 (.int (nI 63))) 5 20 (.int (nI 63))) 5 1 (.int (nI 6))) 5 11 (.int (nI 48))) 5 21 (.int (nI 48))) 5 2 (.int (nI 91))) 5 12 (.int (nI 109))) 5 22 (.int (nI 91))) 5 3 (.int (nI 79))) 5 13 (.int (nI 121))) 5 23 (.int (nI 121))) 5 4 (.int (nI 102))) 5 14 (.int (nI 114))) 5 24 (.int (nI 116))) 5 5 (.int (nI 109))) 5 15 (.int (nI 91))) 5 25 (.int (nI 109))) 5 6 (.int (nI 125))) 5 16 (.int (nI 95))) 5 26 (.int (nI 111))) 5 7 (.int (nI 7))) 5 17 (.int (nI 49))) 5 27 (.int (nI 56)))) (show 6 ≤ 57 by decide) (nI 127)) (show 6 ≤ 6 by decide) (fun res G813 hq813 hg813 => ?_)
  obtain ⟨rfl, hE813⟩ := hq813
  rw [hE813]
  show J 28 [some (.ref 4), some (.int (nI 8)), some (.int (nI 49))] [.int (mir8 (nI 127))] (6, bf_up (bf_up (bf_up (bf_up (bf_up (bf_up (bf_up (bf_up (bf_up (bf_up (bf_up (bf_up (bf_up (bf_up (bf_up (bf_up (bf_up (bf_up (bf_up (bf_up (bf_up (bf_up (bf_up (bf_up (bf_up (bf_fill (h0) 5 (fun _ => .int 0)) 4 0 (.ref 5)) 5 0 (.int (nI 63))) 5 10 (.int (nI 63))) 5 20 (.int (nI 63))) 5 1 (.int (nI 6))) 5 11 (.int (nI 48))) 5 21 (.int (nI 48))) 5 2 (.int (nI 91))) 5 12 (.int (nI 109))) 5 22 (.int (nI 91))) 5 3 (.int (nI 79))) 5 13 (.int (nI 121))) 5 23 (.int (nI 121))) 5 4 (.int (nI 102))) 5 14 (.int (nI 114))) 5 24 (.int (nI 116))) 5 5 (.int (nI 109))) 5 15 (.int (nI 91))) 5 25 (.int (nI 109))) 5 6 (.int (nI 125))) 5 16 (.int (nI 95))) 5 26 (.int (nI 111))) 5 7 (.int (nI 7))) 5 17 (.int (nI 49))) 5 27 (.int (nI 56)))
  refine eq_i (v := nI 127) (by decide) ?_
  refine bf_istore_n r.1 (L2 := [some (.ref 4), some (.int (nI 8)), some (.int (nI 127))]) dX0_init_28 rfl ?_
  refine bf_aload_n r.1 dX0_init_29 rfl ?_
  refine bf_get r.1 dX0_init_30 fl_X0_9 rfl (show 4 < 6 by decide) ?_
  refine eq_v (w := .ref 5) (show (bf_up (bf_up (bf_up (bf_up (bf_up (bf_up (bf_up (bf_up (bf_up (bf_up (bf_up (bf_up (bf_up (bf_up (bf_up (bf_up (bf_up (bf_up (bf_up (bf_up (bf_up (bf_up (bf_up (bf_up (bf_up (bf_fill (h0) 5 (fun _ => .int 0)) 4 0 (.ref 5)) 5 0 (.int (nI 63))) 5 10 (.int (nI 63))) 5 20 (.int (nI 63))) 5 1 (.int (nI 6))) 5 11 (.int (nI 48))) 5 21 (.int (nI 48))) 5 2 (.int (nI 91))) 5 12 (.int (nI 109))) 5 22 (.int (nI 91))) 5 3 (.int (nI 79))) 5 13 (.int (nI 121))) 5 23 (.int (nI 121))) 5 4 (.int (nI 102))) 5 14 (.int (nI 114))) 5 24 (.int (nI 116))) 5 5 (.int (nI 109))) 5 15 (.int (nI 91))) 5 25 (.int (nI 109))) 5 6 (.int (nI 125))) 5 16 (.int (nI 95))) 5 26 (.int (nI 111))) 5 7 (.int (nI 7))) 5 17 (.int (nI 49))) 5 27 (.int (nI 56))) 4 0 = .ref 5 from (up_o (by decide) (up_o (by decide) (up_o (by decide) (up_o (by decide) (up_o (by decide) (up_o (by decide) (up_o (by decide) (up_o (by decide) (up_o (by decide) (up_o (by decide) (up_o (by decide) (up_o (by decide) (up_o (by decide) (up_o (by decide) (up_o (by decide) (up_o (by decide) (up_o (by decide) (up_o (by decide) (up_o (by decide) (up_o (by decide) (up_o (by decide) (up_o (by decide) (up_o (by decide) (up_o (by decide) up_s))))))))))))))))))))))))) ?_
  refine bf_iload_n r.1 dX0_init_33 rfl ?_
  refine bf_gsF r.1 dX0_init_34 gs_X0_15 ?_
  refine bf_iload_n r.1 dX0_init_37 rfl ?_
  refine bf_ldF r.1 dX0_init_38 (vp_in_nI (by decide) (by decide)) ?_
  refine eq_i (v := nI 127) (by decide) ?_
  refine bf_iast r.1 (n := 30) dX0_init_39 rfl (show 5 < 6 by decide) (vp_in_nI (by decide) (by decide)) ?_
  show J 40 [some (.ref 4), some (.int (nI 8)), some (.int (nI 127))] [] (6, bf_up (bf_up (bf_up (bf_up (bf_up (bf_up (bf_up (bf_up (bf_up (bf_up (bf_up (bf_up (bf_up (bf_up (bf_up (bf_up (bf_up (bf_up (bf_up (bf_up (bf_up (bf_up (bf_up (bf_up (bf_up (bf_up (bf_fill (h0) 5 (fun _ => .int 0)) 4 0 (.ref 5)) 5 0 (.int (nI 63))) 5 10 (.int (nI 63))) 5 20 (.int (nI 63))) 5 1 (.int (nI 6))) 5 11 (.int (nI 48))) 5 21 (.int (nI 48))) 5 2 (.int (nI 91))) 5 12 (.int (nI 109))) 5 22 (.int (nI 91))) 5 3 (.int (nI 79))) 5 13 (.int (nI 121))) 5 23 (.int (nI 121))) 5 4 (.int (nI 102))) 5 14 (.int (nI 114))) 5 24 (.int (nI 116))) 5 5 (.int (nI 109))) 5 15 (.int (nI 91))) 5 25 (.int (nI 109))) 5 6 (.int (nI 125))) 5 16 (.int (nI 95))) 5 26 (.int (nI 111))) 5 7 (.int (nI 7))) 5 17 (.int (nI 49))) 5 27 (.int (nI 56))) 5 8 (.int (nI 127)))
  refine bf_aload_n r.1 dX0_init_40 rfl ?_
  refine bf_get r.1 dX0_init_41 fl_X0_9 rfl (show 4 < 6 by decide) ?_
  refine eq_v (w := .ref 5) (show (bf_up (bf_up (bf_up (bf_up (bf_up (bf_up (bf_up (bf_up (bf_up (bf_up (bf_up (bf_up (bf_up (bf_up (bf_up (bf_up (bf_up (bf_up (bf_up (bf_up (bf_up (bf_up (bf_up (bf_up (bf_up (bf_up (bf_fill (h0) 5 (fun _ => .int 0)) 4 0 (.ref 5)) 5 0 (.int (nI 63))) 5 10 (.int (nI 63))) 5 20 (.int (nI 63))) 5 1 (.int (nI 6))) 5 11 (.int (nI 48))) 5 21 (.int (nI 48))) 5 2 (.int (nI 91))) 5 12 (.int (nI 109))) 5 22 (.int (nI 91))) 5 3 (.int (nI 79))) 5 13 (.int (nI 121))) 5 23 (.int (nI 121))) 5 4 (.int (nI 102))) 5 14 (.int (nI 114))) 5 24 (.int (nI 116))) 5 5 (.int (nI 109))) 5 15 (.int (nI 91))) 5 25 (.int (nI 109))) 5 6 (.int (nI 125))) 5 16 (.int (nI 95))) 5 26 (.int (nI 111))) 5 7 (.int (nI 7))) 5 17 (.int (nI 49))) 5 27 (.int (nI 56))) 5 8 (.int (nI 127))) 4 0 = .ref 5 from (up_o (by decide) (up_o (by decide) (up_o (by decide) (up_o (by decide) (up_o (by decide) (up_o (by decide) (up_o (by decide) (up_o (by decide) (up_o (by decide) (up_o (by decide) (up_o (by decide) (up_o (by decide) (up_o (by decide) (up_o (by decide) (up_o (by decide) (up_o (by decide) (up_o (by decide) (up_o (by decide) (up_o (by decide) (up_o (by decide) (up_o (by decide) (up_o (by decide) (up_o (by decide) (up_o (by decide) (up_o (by decide) up_s)))))))))))))))))))))))))) ?_
  refine bf_bipush r.1 (v := nI 10) dX0_init_44 rfl ?_
  refine bf_iload_n r.1 dX0_init_46 rfl ?_
  refine bf_iadd r.1 dX0_init_47 ?_
  refine eq_i (v := nI 18) (by decide) ?_
  refine bf_iload_n r.1 dX0_init_48 rfl ?_
  refine bf_iast r.1 (n := 30) dX0_init_49 rfl (show 5 < 6 by decide) (vp_in_nI (by decide) (by decide)) ?_
  show J 50 [some (.ref 4), some (.int (nI 8)), some (.int (nI 127))] [] (6, bf_up (bf_up (bf_up (bf_up (bf_up (bf_up (bf_up (bf_up (bf_up (bf_up (bf_up (bf_up (bf_up (bf_up (bf_up (bf_up (bf_up (bf_up (bf_up (bf_up (bf_up (bf_up (bf_up (bf_up (bf_up (bf_up (bf_up (bf_fill (h0) 5 (fun _ => .int 0)) 4 0 (.ref 5)) 5 0 (.int (nI 63))) 5 10 (.int (nI 63))) 5 20 (.int (nI 63))) 5 1 (.int (nI 6))) 5 11 (.int (nI 48))) 5 21 (.int (nI 48))) 5 2 (.int (nI 91))) 5 12 (.int (nI 109))) 5 22 (.int (nI 91))) 5 3 (.int (nI 79))) 5 13 (.int (nI 121))) 5 23 (.int (nI 121))) 5 4 (.int (nI 102))) 5 14 (.int (nI 114))) 5 24 (.int (nI 116))) 5 5 (.int (nI 109))) 5 15 (.int (nI 91))) 5 25 (.int (nI 109))) 5 6 (.int (nI 125))) 5 16 (.int (nI 95))) 5 26 (.int (nI 111))) 5 7 (.int (nI 7))) 5 17 (.int (nI 49))) 5 27 (.int (nI 56))) 5 8 (.int (nI 127))) 5 18 (.int (nI 127)))
  refine bf_aload_n r.1 dX0_init_50 rfl ?_
  refine bf_get r.1 dX0_init_51 fl_X0_9 rfl (show 4 < 6 by decide) ?_
  refine eq_v (w := .ref 5) (show (bf_up (bf_up (bf_up (bf_up (bf_up (bf_up (bf_up (bf_up (bf_up (bf_up (bf_up (bf_up (bf_up (bf_up (bf_up (bf_up (bf_up (bf_up (bf_up (bf_up (bf_up (bf_up (bf_up (bf_up (bf_up (bf_up (bf_up (bf_fill (h0) 5 (fun _ => .int 0)) 4 0 (.ref 5)) 5 0 (.int (nI 63))) 5 10 (.int (nI 63))) 5 20 (.int (nI 63))) 5 1 (.int (nI 6))) 5 11 (.int (nI 48))) 5 21 (.int (nI 48))) 5 2 (.int (nI 91))) 5 12 (.int (nI 109))) 5 22 (.int (nI 91))) 5 3 (.int (nI 79))) 5 13 (.int (nI 121))) 5 23 (.int (nI 121))) 5 4 (.int (nI 102))) 5 14 (.int (nI 114))) 5 24 (.int (nI 116))) 5 5 (.int (nI 109))) 5 15 (.int (nI 91))) 5 25 (.int (nI 109))) 5 6 (.int (nI 125))) 5 16 (.int (nI 95))) 5 26 (.int (nI 111))) 5 7 (.int (nI 7))) 5 17 (.int (nI 49))) 5 27 (.int (nI 56))) 5 8 (.int (nI 127))) 5 18 (.int (nI 127))) 4 0 = .ref 5 from (up_o (by decide) (up_o (by decide) (up_o (by decide) (up_o (by decide) (up_o (by decide) (up_o (by decide) (up_o (by decide) (up_o (by decide) (up_o (by decide) (up_o (by decide) (up_o (by decide) (up_o (by decide) (up_o (by decide) (up_o (by decide) (up_o (by decide) (up_o (by decide) (up_o (by decide) (up_o (by decide) (up_o (by decide) (up_o (by decide) (up_o (by decide) (up_o (by decide) (up_o (by decide) (up_o (by decide) (up_o (by decide) (up_o (by decide) up_s))))))))))))))))))))))))))) ?_
  refine bf_bipush r.1 (v := nI 20) dX0_init_54 rfl ?_
  refine bf_iload_n r.1 dX0_init_56 rfl ?_
  refine bf_iadd r.1 dX0_init_57 ?_
  refine eq_i (v := nI 28) (by decide) ?_
  refine bf_iload_n r.1 dX0_init_58 rfl ?_
  refine r.2.1.2.1 59 [some (.ref 4), some (.int (nI 8)), some (.int (nI 127))] [.int (nI 28), .ref 5] _ (6, bf_up (bf_up (bf_up (bf_up (bf_up (bf_up (bf_up (bf_up (bf_up (bf_up (bf_up (bf_up (bf_up (bf_up (bf_up (bf_up (bf_up (bf_up (bf_up (bf_up (bf_up (bf_up (bf_up (bf_up (bf_up (bf_up (bf_up (bf_fill (h0) 5 (fun _ => .int 0)) 4 0 (.ref 5)) 5 0 (.int (nI 63))) 5 10 (.int (nI 63))) 5 20 (.int (nI 63))) 5 1 (.int (nI 6))) 5 11 (.int (nI 48))) 5 21 (.int (nI 48))) 5 2 (.int (nI 91))) 5 12 (.int (nI 109))) 5 22 (.int (nI 91))) 5 3 (.int (nI 79))) 5 13 (.int (nI 121))) 5 23 (.int (nI 121))) 5 4 (.int (nI 102))) 5 14 (.int (nI 114))) 5 24 (.int (nI 116))) 5 5 (.int (nI 109))) 5 15 (.int (nI 91))) 5 25 (.int (nI 109))) 5 6 (.int (nI 125))) 5 16 (.int (nI 95))) 5 26 (.int (nI 111))) 5 7 (.int (nI 7))) 5 17 (.int (nI 49))) 5 27 (.int (nI 56))) 5 8 (.int (nI 127))) 5 18 (.int (nI 127))) 22 mX0_topBottom 1 [.int (nI 127)] 6 _ dX0_init_59 li_X0_22 mv_X0_topBottom rfl (Nat.le_of_ble_eq_true rfl) rfl (c_X0_topBottom (by omega) (G := (6, bf_up (bf_up (bf_up (bf_up (bf_up (bf_up (bf_up (bf_up (bf_up (bf_up (bf_up (bf_up (bf_up (bf_up (bf_up (bf_up (bf_up (bf_up (bf_up (bf_up (bf_up (bf_up (bf_up (bf_up (bf_up (bf_up (bf_up (bf_fill (h0) 5 (fun _ => .int 0)) 4 0 (.ref 5)) 5 0 (.int (nI 63))) 5 10 (.int (nI 63))) 5 20 (.int (nI 63))) 5 1 (.int (nI 6))) 5 11 (.int (nI 48))) 5 21 (.int (nI 48))) 5 2 (.int (nI 91))) 5 12 (.int (nI 109))) 5 22 (.int (nI 91))) 5 3 (.int (nI 79))) 5 13 (.int (nI 121))) 5 23 (.int (nI 121))) 5 4 (.int (nI 102))) 5 14 (.int (nI 114))) 5 24 (.int (nI 116))) 5 5 (.int (nI 109))) 5 15 (.int (nI 91))) 5 25 (.int (nI 109))) 5 6 (.int (nI 125))) 5 16 (.int (nI 95))) 5 26 (.int (nI 111))) 5 7 (.int (nI 7))) 5 17 (.int (nI 49))) 5 27 (.int (nI 56))) 5 8 (.int (nI 127))) 5 18 (.int (nI 127)))) (show 6 ≤ 57 by decide) (nI 127)) (show 6 ≤ 6 by decide) (fun res G814 hq814 hg814 => ?_)
  obtain ⟨rfl, hE814⟩ := hq814
  rw [hE814]
  show J 62 [some (.ref 4), some (.int (nI 8)), some (.int (nI 127))] [.int (trn8 (nI 127)), .int (nI 28), .ref 5] (6, bf_up (bf_up (bf_up (bf_up (bf_up (bf_up (bf_up (bf_up (bf_up (bf_up (bf_up (bf_up (bf_up (bf_up (bf_up (bf_up (bf_up (bf_up (bf_up (bf_up (bf_up (bf_up (bf_up (bf_up (bf_up (bf_up (bf_up (bf_fill (h0) 5 (fun _ => .int 0)) 4 0 (.ref 5)) 5 0 (.int (nI 63))) 5 10 (.int (nI 63))) 5 20 (.int (nI 63))) 5 1 (.int (nI 6))) 5 11 (.int (nI 48))) 5 21 (.int (nI 48))) 5 2 (.int (nI 91))) 5 12 (.int (nI 109))) 5 22 (.int (nI 91))) 5 3 (.int (nI 79))) 5 13 (.int (nI 121))) 5 23 (.int (nI 121))) 5 4 (.int (nI 102))) 5 14 (.int (nI 114))) 5 24 (.int (nI 116))) 5 5 (.int (nI 109))) 5 15 (.int (nI 91))) 5 25 (.int (nI 109))) 5 6 (.int (nI 125))) 5 16 (.int (nI 95))) 5 26 (.int (nI 111))) 5 7 (.int (nI 7))) 5 17 (.int (nI 49))) 5 27 (.int (nI 56))) 5 8 (.int (nI 127))) 5 18 (.int (nI 127)))
  refine eq_i (v := nI 127) (by decide) ?_
  refine bf_iast r.1 (n := 30) dX0_init_62 rfl (show 5 < 6 by decide) (vp_in_nI (by decide) (by decide)) ?_
  show J 63 [some (.ref 4), some (.int (nI 8)), some (.int (nI 127))] [] (6, bf_up (bf_up (bf_up (bf_up (bf_up (bf_up (bf_up (bf_up (bf_up (bf_up (bf_up (bf_up (bf_up (bf_up (bf_up (bf_up (bf_up (bf_up (bf_up (bf_up (bf_up (bf_up (bf_up (bf_up (bf_up (bf_up (bf_up (bf_up (bf_fill (h0) 5 (fun _ => .int 0)) 4 0 (.ref 5)) 5 0 (.int (nI 63))) 5 10 (.int (nI 63))) 5 20 (.int (nI 63))) 5 1 (.int (nI 6))) 5 11 (.int (nI 48))) 5 21 (.int (nI 48))) 5 2 (.int (nI 91))) 5 12 (.int (nI 109))) 5 22 (.int (nI 91))) 5 3 (.int (nI 79))) 5 13 (.int (nI 121))) 5 23 (.int (nI 121))) 5 4 (.int (nI 102))) 5 14 (.int (nI 114))) 5 24 (.int (nI 116))) 5 5 (.int (nI 109))) 5 15 (.int (nI 91))) 5 25 (.int (nI 109))) 5 6 (.int (nI 125))) 5 16 (.int (nI 95))) 5 26 (.int (nI 111))) 5 7 (.int (nI 7))) 5 17 (.int (nI 49))) 5 27 (.int (nI 56))) 5 8 (.int (nI 127))) 5 18 (.int (nI 127))) 5 28 (.int (nI 127)))
  refine bf_iinc r.1 (v := nI 9) (L2 := [some (.ref 4), some (.int (nI 9)), some (.int (nI 127))]) dX0_init_63 rfl (by decide) rfl ?_
  refine bf_goto r.1 (tgt := 14) dX0_init_66 (by decide) ?_
  refine bf_iload_n r.1 dX0_init_14 rfl ?_
  refine bf_bipush r.1 (v := nI 10) dX0_init_15 rfl ?_
  refine bf_icmp_ge r.1 (tgt := 69) dX0_init_17 (by decide) (fun c815 => ?_) (fun c815 => ?_)
  · exact absurd c815 (by decide)
  refine bf_gsF r.1 dX0_init_20 gs_X0_15 ?_
  refine bf_iload_n r.1 dX0_init_23 rfl ?_
  refine bf_ldF r.1 dX0_init_24 (vp_in_nI (by decide) (by decide)) ?_
  refine eq_i (v := nI 111) (by decide) ?_
  refine r.2.1.2.1 25 [some (.ref 4), some (.int (nI 9)), some (.int (nI 127))] [] _ (6, bf_up (bf_up (bf_up (bf_up (bf_up (bf_up (bf_up (bf_up (bf_up (bf_up (bf_up (bf_up (bf_up (bf_up (bf_up (bf_up (bf_up (bf_up (bf_up (bf_up (bf_up (bf_up (bf_up (bf_up (bf_up (bf_up (bf_up (bf_up (bf_fill (h0) 5 (fun _ => .int 0)) 4 0 (.ref 5)) 5 0 (.int (nI 63))) 5 10 (.int (nI 63))) 5 20 (.int (nI 63))) 5 1 (.int (nI 6))) 5 11 (.int (nI 48))) 5 21 (.int (nI 48))) 5 2 (.int (nI 91))) 5 12 (.int (nI 109))) 5 22 (.int (nI 91))) 5 3 (.int (nI 79))) 5 13 (.int (nI 121))) 5 23 (.int (nI 121))) 5 4 (.int (nI 102))) 5 14 (.int (nI 114))) 5 24 (.int (nI 116))) 5 5 (.int (nI 109))) 5 15 (.int (nI 91))) 5 25 (.int (nI 109))) 5 6 (.int (nI 125))) 5 16 (.int (nI 95))) 5 26 (.int (nI 111))) 5 7 (.int (nI 7))) 5 17 (.int (nI 49))) 5 27 (.int (nI 56))) 5 8 (.int (nI 127))) 5 18 (.int (nI 127))) 5 28 (.int (nI 127))) 18 mX0_leftRight 1 [.int (nI 111)] 6 _ dX0_init_25 li_X0_18 mv_X0_leftRight rfl (Nat.le_of_ble_eq_true rfl) rfl (c_X0_leftRight (by omega) (G := (6, bf_up (bf_up (bf_up (bf_up (bf_up (bf_up (bf_up (bf_up (bf_up (bf_up (bf_up (bf_up (bf_up (bf_up (bf_up (bf_up (bf_up (bf_up (bf_up (bf_up (bf_up (bf_up (bf_up (bf_up (bf_up (bf_up (bf_up (bf_up (bf_fill (h0) 5 (fun _ => .int 0)) 4 0 (.ref 5)) 5 0 (.int (nI 63))) 5 10 (.int (nI 63))) 5 20 (.int (nI 63))) 5 1 (.int (nI 6))) 5 11 (.int (nI 48))) 5 21 (.int (nI 48))) 5 2 (.int (nI 91))) 5 12 (.int (nI 109))) 5 22 (.int (nI 91))) 5 3 (.int (nI 79))) 5 13 (.int (nI 121))) 5 23 (.int (nI 121))) 5 4 (.int (nI 102))) 5 14 (.int (nI 114))) 5 24 (.int (nI 116))) 5 5 (.int (nI 109))) 5 15 (.int (nI 91))) 5 25 (.int (nI 109))) 5 6 (.int (nI 125))) 5 16 (.int (nI 95))) 5 26 (.int (nI 111))) 5 7 (.int (nI 7))) 5 17 (.int (nI 49))) 5 27 (.int (nI 56))) 5 8 (.int (nI 127))) 5 18 (.int (nI 127))) 5 28 (.int (nI 127)))) (show 6 ≤ 57 by decide) (nI 111)) (show 6 ≤ 6 by decide) (fun res G816 hq816 hg816 => ?_)
  obtain ⟨rfl, hE816⟩ := hq816
  rw [hE816]
  show J 28 [some (.ref 4), some (.int (nI 9)), some (.int (nI 127))] [.int (mir8 (nI 111))] (6, bf_up (bf_up (bf_up (bf_up (bf_up (bf_up (bf_up (bf_up (bf_up (bf_up (bf_up (bf_up (bf_up (bf_up (bf_up (bf_up (bf_up (bf_up (bf_up (bf_up (bf_up (bf_up (bf_up (bf_up (bf_up (bf_up (bf_up (bf_up (bf_fill (h0) 5 (fun _ => .int 0)) 4 0 (.ref 5)) 5 0 (.int (nI 63))) 5 10 (.int (nI 63))) 5 20 (.int (nI 63))) 5 1 (.int (nI 6))) 5 11 (.int (nI 48))) 5 21 (.int (nI 48))) 5 2 (.int (nI 91))) 5 12 (.int (nI 109))) 5 22 (.int (nI 91))) 5 3 (.int (nI 79))) 5 13 (.int (nI 121))) 5 23 (.int (nI 121))) 5 4 (.int (nI 102))) 5 14 (.int (nI 114))) 5 24 (.int (nI 116))) 5 5 (.int (nI 109))) 5 15 (.int (nI 91))) 5 25 (.int (nI 109))) 5 6 (.int (nI 125))) 5 16 (.int (nI 95))) 5 26 (.int (nI 111))) 5 7 (.int (nI 7))) 5 17 (.int (nI 49))) 5 27 (.int (nI 56))) 5 8 (.int (nI 127))) 5 18 (.int (nI 127))) 5 28 (.int (nI 127)))
  refine eq_i (v := nI 123) (by decide) ?_
  refine bf_istore_n r.1 (L2 := [some (.ref 4), some (.int (nI 9)), some (.int (nI 123))]) dX0_init_28 rfl ?_
  refine bf_aload_n r.1 dX0_init_29 rfl ?_
  refine bf_get r.1 dX0_init_30 fl_X0_9 rfl (show 4 < 6 by decide) ?_
  refine eq_v (w := .ref 5) (show (bf_up (bf_up (bf_up (bf_up (bf_up (bf_up (bf_up (bf_up (bf_up (bf_up (bf_up (bf_up (bf_up (bf_up (bf_up (bf_up (bf_up (bf_up (bf_up (bf_up (bf_up (bf_up (bf_up (bf_up (bf_up (bf_up (bf_up (bf_up (bf_fill (h0) 5 (fun _ => .int 0)) 4 0 (.ref 5)) 5 0 (.int (nI 63))) 5 10 (.int (nI 63))) 5 20 (.int (nI 63))) 5 1 (.int (nI 6))) 5 11 (.int (nI 48))) 5 21 (.int (nI 48))) 5 2 (.int (nI 91))) 5 12 (.int (nI 109))) 5 22 (.int (nI 91))) 5 3 (.int (nI 79))) 5 13 (.int (nI 121))) 5 23 (.int (nI 121))) 5 4 (.int (nI 102))) 5 14 (.int (nI 114))) 5 24 (.int (nI 116))) 5 5 (.int (nI 109))) 5 15 (.int (nI 91))) 5 25 (.int (nI 109))) 5 6 (.int (nI 125))) 5 16 (.int (nI 95))) 5 26 (.int (nI 111))) 5 7 (.int (nI 7))) 5 17 (.int (nI 49))) 5 27 (.int (nI 56))) 5 8 (.int (nI 127))) 5 18 (.int (nI 127))) 5 28 (.int (nI 127))) 4 0 = .ref 5 from (up_o (by decide) (up_o (by decide) (up_o (by decide) (up_o (by decide) (up_o (by decide) (up_o (by decide) (up_o (by decide) (up_o (by decide) (up_o (by decide) (up_o (by decide) (up_o (by decide) (up_o (by decide) (up_o (by decide) (up_o (by decide) (up_o (by decide) (up_o (by decide) (up_o (by decide) (up_o (by decide) (up_o (by decide) (up_o (by decide) (up_o (by decide) (up_o (by decide) (up_o (by decide) (up_o (by decide) (up_o (by decide) (up_o (by decide) (up_o (by decide) up_s)))))))))))))))))))))))))))) ?_
  refine bf_iload_n r.1 dX0_init_33 rfl ?_
  refine bf_gsF r.1 dX0_init_34 gs_X0_15 ?_
  refine bf_iload_n r.1 dX0_init_37 rfl ?_
  refine bf_ldF r.1 dX0_init_38 (vp_in_nI (by decide) (by decide)) ?_
  refine eq_i (v := nI 111) (by decide) ?_
  refine bf_iast r.1 (n := 30) dX0_init_39 rfl (show 5 < 6 by decide) (vp_in_nI (by decide) (by decide)) ?_
  show J 40 [some (.ref 4), some (.int (nI 9)), some (.int (nI 123))] [] (6, bf_up (bf_up (bf_up (bf_up (bf_up (bf_up (bf_up (bf_up (bf_up (bf_up (bf_up (bf_up (bf_up (bf_up (bf_up (bf_up (bf_up (bf_up (bf_up (bf_up (bf_up (bf_up (bf_up (bf_up (bf_up (bf_up (bf_up (bf_up (bf_up (bf_fill (h0) 5 (fun _ => .int 0)) 4 0 (.ref 5)) 5 0 (.int (nI 63))) 5 10 (.int (nI 63))) 5 20 (.int (nI 63))) 5 1 (.int (nI 6))) 5 11 (.int (nI 48))) 5 21 (.int (nI 48))) 5 2 (.int (nI 91))) 5 12 (.int (nI 109))) 5 22 (.int (nI 91))) 5 3 (.int (nI 79))) 5 13 (.int (nI 121))) 5 23 (.int (nI 121))) 5 4 (.int (nI 102))) 5 14 (.int (nI 114))) 5 24 (.int (nI 116))) 5 5 (.int (nI 109))) 5 15 (.int (nI 91))) 5 25 (.int (nI 109))) 5 6 (.int (nI 125))) 5 16 (.int (nI 95))) 5 26 (.int (nI 111))) 5 7 (.int (nI 7))) 5 17 (.int (nI 49))) 5 27 (.int (nI 56))) 5 8 (.int (nI 127))) 5 18 (.int (nI 127))) 5 28 (.int (nI 127))) 5 9 (.int (nI 111)))
  refine bf_aload_n r.1 dX0_init_40 rfl ?_
  refine bf_get r.1 dX0_init_41 fl_X0_9 rfl (show 4 < 6 by decide) ?_
  refine eq_v (w := .ref 5) (show (bf_up (bf_up (bf_up (bf_up (bf_up (bf_up (bf_up (bf_up (bf_up (bf_up (bf_up (bf_up (bf_up (bf_up (bf_up (bf_up (bf_up (bf_up (bf_up (bf_up (bf_up (bf_up (bf_up (bf_up (bf_up (bf_up (bf_up (bf_up (bf_up (bf_fill (h0) 5 (fun _ => .int 0)) 4 0 (.ref 5)) 5 0 (.int (nI 63))) 5 10 (.int (nI 63))) 5 20 (.int (nI 63))) 5 1 (.int (nI 6))) 5 11 (.int (nI 48))) 5 21 (.int (nI 48))) 5 2 (.int (nI 91))) 5 12 (.int (nI 109))) 5 22 (.int (nI 91))) 5 3 (.int (nI 79))) 5 13 (.int (nI 121))) 5 23 (.int (nI 121))) 5 4 (.int (nI 102))) 5 14 (.int (nI 114))) 5 24 (.int (nI 116))) 5 5 (.int (nI 109))) 5 15 (.int (nI 91))) 5 25 (.int (nI 109))) 5 6 (.int (nI 125))) 5 16 (.int (nI 95))) 5 26 (.int (nI 111))) 5 7 (.int (nI 7))) 5 17 (.int (nI 49))) 5 27 (.int (nI 56))) 5 8 (.int (nI 127))) 5 18 (.int (nI 127))) 5 28 (.int (nI 127))) 5 9 (.int (nI 111))) 4 0 = .ref 5 from (up_o (by decide) (up_o (by decide) (up_o (by decide) (up_o (by decide) (up_o (by decide) (up_o (by decide) (up_o (by decide) (up_o (by decide) (up_o (by decide) (up_o (by decide) (up_o (by decide) (up_o (by decide) (up_o (by decide) (up_o (by decide) (up_o (by decide) (up_o (by decide) (up_o (by decide) (up_o (by decide) (up_o (by decide) (up_o (by decide) (up_o (by decide) (up_o (by decide) (up_o (by decide) (up_o (by decide) (up_o (by decide) (up_o (by decide) (up_o (by decide) (up_o (by decide) up_s))))))))))))))))))))))))))))) ?_
  refine bf_bipush r.1 (v := nI 10) dX0_init_44 rfl ?_
  refine bf_iload_n r.1 dX0_init_46 rfl ?_
  refine bf_iadd r.1 dX0_init_47 ?_
  refine eq_i (v := nI 19) (by decide) ?_
  refine bf_iload_n r.1 dX0_init_48 rfl ?_
  refine bf_iast r.1 (n := 30) dX0_init_49 rfl (show 5 < 6 by decide) (vp_in_nI (by decide) (by decide)) ?_
  show J 50 [some (.ref 4), some (.int (nI 9)), some (.int (nI 123))] [] (6, bf_up (bf_up (bf_up (bf_up (bf_up (bf_up (bf_up (bf_up (bf_up (bf_up (bf_up (bf_up (bf_up (bf_up (bf_up (bf_up (bf_up (bf_up (bf_up (bf_up (bf_up (bf_up (bf_up (bf_up (bf_up (bf_up (bf_up (bf_up (bf_up (bf_up (bf_fill (h0) 5 (fun _ => .int 0)) 4 0 (.ref 5)) 5 0 (.int (nI 63))) 5 10 (.int (nI 63))) 5 20 (.int (nI 63))) 5 1 (.int (nI 6))) 5 11 (.int (nI 48))) 5 21 (.int (nI 48))) 5 2 (.int (nI 91))) 5 12 (.int (nI 109))) 5 22 (.int (nI 91))) 5 3 (.int (nI 79))) 5 13 (.int (nI 121))) 5 23 (.int (nI 121))) 5 4 (.int (nI 102))) 5 14 (.int (nI 114))) 5 24 (.int (nI 116))) 5 5 (.int (nI 109))) 5 15 (.int (nI 91))) 5 25 (.int (nI 109))) 5 6 (.int (nI 125))) 5 16 (.int (nI 95))) 5 26 (.int (nI 111))) 5 7 (.int (nI 7))) 5 17 (.int (nI 49))) 5 27 (.int (nI 56))) 5 8 (.int (nI 127))) 5 18 (.int (nI 127))) 5 28 (.int (nI 127))) 5 9 (.int (nI 111))) 5 19 (.int (nI 123)))
  refine bf_aload_n r.1 dX0_init_50 rfl ?_
  refine bf_get r.1 dX0_init_51 fl_X0_9 rfl (show 4 < 6 by decide) ?_
  refine eq_v (w := .ref 5) (show (bf_up (bf_up (bf_up (bf_up (bf_up (bf_up (bf_up (bf_up (bf_up (bf_up (bf_up (bf_up (bf_up (bf_up (bf_up (bf_up (bf_up (bf_up (bf_up (bf_up (bf_up (bf_up (bf_up (bf_up (bf_up (bf_up (bf_up (bf_up (bf_up (bf_up (bf_fill (h0) 5 (fun _ => .int 0)) 4 0 (.ref 5)) 5 0 (.int (nI 63))) 5 10 (.int (nI 63))) 5 20 (.int (nI 63))) 5 1 (.int (nI 6))) 5 11 (.int (nI 48))) 5 21 (.int (nI 48))) 5 2 (.int (nI 91))) 5 12 (.int (nI 109))) 5 22 (.int (nI 91))) 5 3 (.int (nI 79))) 5 13 (.int (nI 121))) 5 23 (.int (nI 121))) 5 4 (.int (nI 102))) 5 14 (.int (nI 114))) 5 24 (.int (nI 116))) 5 5 (.int (nI 109))) 5 15 (.int (nI 91))) 5 25 (.int (nI 109))) 5 6 (.int (nI 125))) 5 16 (.int (nI 95))) 5 26 (.int (nI 111))) 5 7 (.int (nI 7))) 5 17 (.int (nI 49))) 5 27 (.int (nI 56))) 5 8 (.int (nI 127))) 5 18 (.int (nI 127))) 5 28 (.int (nI 127))) 5 9 (.int (nI 111))) 5 19 (.int (nI 123))) 4 0 = .ref 5 from (up_o (by decide) (up_o (by decide) (up_o (by decide) (up_o (by decide) (up_o (by decide) (up_o (by decide) (up_o (by decide) (up_o (by decide) (up_o (by decide) (up_o (by decide) (up_o (by decide) (up_o (by decide) (up_o (by decide) (up_o (by decide) (up_o (by decide) (up_o (by decide) (up_o (by decide) (up_o (by decide) (up_o (by decide) (up_o (by decide) (up_o (by decide) (up_o (by decide) (up_o (by decide) (up_o (by decide) (up_o (by decide) (up_o (by decide) (up_o (by decide) (up_o (by decide) (up_o (by decide) up_s)))))))))))))))))))))))))))))) ?_
  refine bf_bipush r.1 (v := nI 20) dX0_init_54 rfl ?_
  refine bf_iload_n r.1 dX0_init_56 rfl ?_
  refine bf_iadd r.1 dX0_init_57 ?_
  refine eq_i (v := nI 29) (by decide) ?_
  refine bf_iload_n r.1 dX0_init_58 rfl ?_
  refine r.2.1.2.1 59 [some (.ref 4), some (.int (nI 9)), some (.int (nI 123))] [.int (nI 29), .ref 5] _ (6, bf_up (bf_up (bf_up (bf_up (bf_up (bf_up (bf_up (bf_up (bf_up (bf_up (bf_up (bf_up (bf_up (bf_up (bf_up (bf_up (bf_up (bf_up (bf_up (bf_up (bf_up (bf_up (bf_up (bf_up (bf_up (bf_up (bf_up (bf_up (bf_up (bf_up (bf_fill (h0) 5 (fun _ => .int 0)) 4 0 (.ref 5)) 5 0 (.int (nI 63))) 5 10 (.int (nI 63))) 5 20 (.int (nI 63))) 5 1 (.int (nI 6))) 5 11 (.int (nI 48))) 5 21 (.int (nI 48))) 5 2 (.int (nI 91))) 5 12 (.int (nI 109))) 5 22 (.int (nI 91))) 5 3 (.int (nI 79))) 5 13 (.int (nI 121))) 5 23 (.int (nI 121))) 5 4 (.int (nI 102))) 5 14 (.int (nI 114))) 5 24 (.int (nI 116))) 5 5 (.int (nI 109))) 5 15 (.int (nI 91))) 5 25 (.int (nI 109))) 5 6 (.int (nI 125))) 5 16 (.int (nI 95))) 5 26 (.int (nI 111))) 5 7 (.int (nI 7))) 5 17 (.int (nI 49))) 5 27 (.int (nI 56))) 5 8 (.int (nI 127))) 5 18 (.int (nI 127))) 5 28 (.int (nI 127))) 5 9 (.int (nI 111))) 5 19 (.int (nI 123))) 22 mX0_topBottom 1 [.int (nI 123)] 6 _ dX0_init_59 li_X0_22 mv_X0_topBottom rfl (Nat.le_of_ble_eq_true rfl) rfl (c_X0_topBottom (by omega) (G := (6, bf_up (bf_up (bf_up (bf_up (bf_up (bf_up (bf_up (bf_up (bf_up (bf_up (bf_up (bf_up (bf_up (bf_up (bf_up (bf_up (bf_up (bf_up (bf_up (bf_up (bf_up (bf_up (bf_up (bf_up (bf_up (bf_up (bf_up (bf_up (bf_up (bf_up (bf_fill (h0) 5 (fun _ => .int 0)) 4 0 (.ref 5)) 5 0 (.int (nI 63))) 5 10 (.int (nI 63))) 5 20 (.int (nI 63))) 5 1 (.int (nI 6))) 5 11 (.int (nI 48))) 5 21 (.int (nI 48))) 5 2 (.int (nI 91))) 5 12 (.int (nI 109))) 5 22 (.int (nI 91))) 5 3 (.int (nI 79))) 5 13 (.int (nI 121))) 5 23 (.int (nI 121))) 5 4 (.int (nI 102))) 5 14 (.int (nI 114))) 5 24 (.int (nI 116))) 5 5 (.int (nI 109))) 5 15 (.int (nI 91))) 5 25 (.int (nI 109))) 5 6 (.int (nI 125))) 5 16 (.int (nI 95))) 5 26 (.int (nI 111))) 5 7 (.int (nI 7))) 5 17 (.int (nI 49))) 5 27 (.int (nI 56))) 5 8 (.int (nI 127))) 5 18 (.int (nI 127))) 5 28 (.int (nI 127))) 5 9 (.int (nI 111))) 5 19 (.int (nI 123)))) (show 6 ≤ 57 by decide) (nI 123)) (show 6 ≤ 6 by decide) (fun res G817 hq817 hg817 => ?_)
  obtain ⟨rfl, hE817⟩ := hq817
  rw [hE817]
  show J 62 [some (.ref 4), some (.int (nI 9)), some (.int (nI 123))] [.int (trn8 (nI 123)), .int (nI 29), .ref 5] (6, bf_up (bf_up (bf_up (bf_up (bf_up (bf_up (bf_up (bf_up (bf_up (bf_up (bf_up (bf_up (bf_up (bf_up (bf_up (bf_up (bf_up (bf_up (bf_up (bf_up (bf_up (bf_up (bf_up (bf_up (bf_up (bf_up (bf_up (bf_up (bf_up (bf_up (bf_fill (h0) 5 (fun _ => .int 0)) 4 0 (.ref 5)) 5 0 (.int (nI 63))) 5 10 (.int (nI 63))) 5 20 (.int (nI 63))) 5 1 (.int (nI 6))) 5 11 (.int (nI 48))) 5 21 (.int (nI 48))) 5 2 (.int (nI 91))) 5 12 (.int (nI 109))) 5 22 (.int (nI 91))) 5 3 (.int (nI 79))) 5 13 (.int (nI 121))) 5 23 (.int (nI 121))) 5 4 (.int (nI 102))) 5 14 (.int (nI 114))) 5 24 (.int (nI 116))) 5 5 (.int (nI 109))) 5 15 (.int (nI 91))) 5 25 (.int (nI 109))) 5 6 (.int (nI 125))) 5 16 (.int (nI 95))) 5 26 (.int (nI 111))) 5 7 (.int (nI 7))) 5 17 (.int (nI 49))) 5 27 (.int (nI 56))) 5 8 (.int (nI 127))) 5 18 (.int (nI 127))) 5 28 (.int (nI 127))) 5 9 (.int (nI 111))) 5 19 (.int (nI 123)))
  refine eq_i (v := nI 125) (by decide) ?_
  refine bf_iast r.1 (n := 30) dX0_init_62 rfl (show 5 < 6 by decide) (vp_in_nI (by decide) (by decide)) ?_
  show J 63 [some (.ref 4), some (.int (nI 9)), some (.int (nI 123))] [] (6, bf_up (bf_up (bf_up (bf_up (bf_up (bf_up (bf_up (bf_up (bf_up (bf_up (bf_up (bf_up (bf_up (bf_up (bf_up (bf_up (bf_up (bf_up (bf_up (bf_up (bf_up (bf_up (bf_up (bf_up (bf_up (bf_up (bf_up (bf_up (bf_up (bf_up (bf_up (bf_fill (h0) 5 (fun _ => .int 0)) 4 0 (.ref 5)) 5 0 (.int (nI 63))) 5 10 (.int (nI 63))) 5 20 (.int (nI 63))) 5 1 (.int (nI 6))) 5 11 (.int (nI 48))) 5 21 (.int (nI 48))) 5 2 (.int (nI 91))) 5 12 (.int (nI 109))) 5 22 (.int (nI 91))) 5 3 (.int (nI 79))) 5 13 (.int (nI 121))) 5 23 (.int (nI 121))) 5 4 (.int (nI 102))) 5 14 (.int (nI 114))) 5 24 (.int (nI 116))) 5 5 (.int (nI 109))) 5 15 (.int (nI 91))) 5 25 (.int (nI 109))) 5 6 (.int (nI 125))) 5 16 (.int (nI 95))) 5 26 (.int (nI 111))) 5 7 (.int (nI 7))) 5 17 (.int (nI 49))) 5 27 (.int (nI 56))) 5 8 (.int (nI 127))) 5 18 (.int (nI 127))) 5 28 (.int (nI 127))) 5 9 (.int (nI 111))) 5 19 (.int (nI 123))) 5 29 (.int (nI 125)))
  refine bf_iinc r.1 (v := nI 10) (L2 := [some (.ref 4), some (.int (nI 10)), some (.int (nI 123))]) dX0_init_63 rfl (by decide) rfl ?_
  refine bf_goto r.1 (tgt := 14) dX0_init_66 (by decide) ?_
  refine bf_iload_n r.1 dX0_init_14 rfl ?_
  refine bf_bipush r.1 (v := nI 10) dX0_init_15 rfl ?_
  refine bf_icmp_ge r.1 (tgt := 69) dX0_init_17 (by decide) (fun c818 => ?_) (fun c818 => ?_)
  rotate_left
  · exact absurd (by decide) c818
  refine r.2.2.2.2.2 69 _ (6, bf_up (bf_up (bf_up (bf_up (bf_up (bf_up (bf_up (bf_up (bf_up (bf_up (bf_up (bf_up (bf_up (bf_up (bf_up (bf_up (bf_up (bf_up (bf_up (bf_up (bf_up (bf_up (bf_up (bf_up (bf_up (bf_up (bf_up (bf_up (bf_up (bf_up (bf_up (bf_fill (h0) 5 (fun _ => .int 0)) 4 0 (.ref 5)) 5 0 (.int (nI 63))) 5 10 (.int (nI 63))) 5 20 (.int (nI 63))) 5 1 (.int (nI 6))) 5 11 (.int (nI 48))) 5 21 (.int (nI 48))) 5 2 (.int (nI 91))) 5 12 (.int (nI 109))) 5 22 (.int (nI 91))) 5 3 (.int (nI 79))) 5 13 (.int (nI 121))) 5 23 (.int (nI 121))) 5 4 (.int (nI 102))) 5 14 (.int (nI 114))) 5 24 (.int (nI 116))) 5 5 (.int (nI 109))) 5 15 (.int (nI 91))) 5 25 (.int (nI 109))) 5 6 (.int (nI 125))) 5 16 (.int (nI 95))) 5 26 (.int (nI 111))) 5 7 (.int (nI 7))) 5 17 (.int (nI 49))) 5 27 (.int (nI 56))) 5 8 (.int (nI 127))) 5 18 (.int (nI 127))) 5 28 (.int (nI 127))) 5 9 (.int (nI 111))) 5 19 (.int (nI 123))) 5 29 (.int (nI 125))) dX0_init_69 rfl rfl ⟨rfl, _, rfl, (FR_up (by decide) (FR_up (by decide) (FR_up (by decide) (FR_up (by decide) (FR_up (by decide) (FR_up (by decide) (FR_up (by decide) (FR_up (by decide) (FR_up (by decide) (FR_up (by decide) (FR_up (by decide) (FR_up (by decide) (FR_up (by decide) (FR_up (by decide) (FR_up (by decide) (FR_up (by decide) (FR_up (by decide) (FR_up (by decide) (FR_up (by decide) (FR_up (by decide) (FR_up (by decide) (FR_up (by decide) (FR_up (by decide) (FR_up (by decide) (FR_up (by decide) (FR_up (by decide) (FR_up (by decide) (FR_up (by decide) (FR_up (by decide) (FR_up (by decide) (FR_up (by decide) (FR_fl (by decide) FR_0)))))))))))))))))))))))))))))))), fun b h1 h2 j hj => ?_⟩
  rcases (show b = 4 ∨ b = 5 by omega) with rfl | rfl
  · have hj2 : j < 1 := hj
    obtain rfl : j = 0 := by omega
    exact ((up_o (by decide) (up_o (by decide) (up_o (by decide) (up_o (by decide) (up_o (by decide) (up_o (by decide) (up_o (by decide) (up_o (by decide) (up_o (by decide) (up_o (by decide) (up_o (by decide) (up_o (by decide) (up_o (by decide) (up_o (by decide) (up_o (by decide) (up_o (by decide) (up_o (by decide) (up_o (by decide) (up_o (by decide) (up_o (by decide) (up_o (by decide) (up_o (by decide) (up_o (by decide) (up_o (by decide) (up_o (by decide) (up_o (by decide) (up_o (by decide) (up_o (by decide) (up_o (by decide) (up_o (by decide) up_s))))))))))))))))))))))))))))))).trans rfl
  · have hj2 : j < 30 := hj
    rcases (show j = 0 ∨ j = 1 ∨ j = 2 ∨ j = 3 ∨ j = 4 ∨ j = 5 ∨ j = 6 ∨ j = 7 ∨ j = 8 ∨ j = 9 ∨ j = 10 ∨ j = 11 ∨ j = 12 ∨ j = 13 ∨ j = 14 ∨ j = 15 ∨ j = 16 ∨ j = 17 ∨ j = 18 ∨ j = 19 ∨ j = 20 ∨ j = 21 ∨ j = 22 ∨ j = 23 ∨ j = 24 ∨ j = 25 ∨ j = 26 ∨ j = 27 ∨ j = 28 ∨ j = 29 by omega) with rfl | rfl | rfl | rfl | rfl | rfl | rfl | rfl | rfl | rfl | rfl | rfl | rfl | rfl | rfl | rfl | rfl | rfl | rfl | rfl | rfl | rfl | rfl | rfl | rfl | rfl | rfl | rfl | rfl | rfl
    · exact ((up_o (by decide) (up_o (by decide) (up_o (by decide) (up_o (by decide) (up_o (by decide) (up_o (by decide) (up_o (by decide) (up_o (by decide) (up_o (by decide) (up_o (by decide) (up_o (by decide) (up_o (by decide) (up_o (by decide) (up_o (by decide) (up_o (by decide) (up_o (by decide) (up_o (by decide) (up_o (by decide) (up_o (by decide) (up_o (by decide) (up_o (by decide) (up_o (by decide) (up_o (by decide) (up_o (by decide) (up_o (by decide) (up_o (by decide) (up_o (by decide) (up_o (by decide) (up_o (by decide) up_s)))))))))))))))))))))))))))))).trans rfl
    · exact ((up_o (by decide) (up_o (by decide) (up_o (by decide) (up_o (by decide) (up_o (by decide) (up_o (by decide) (up_o (by decide) (up_o (by decide) (up_o (by decide) (up_o (by decide) (up_o (by decide) (up_o (by decide) (up_o (by decide) (up_o (by decide) (up_o (by decide) (up_o (by decide) (up_o (by decide) (up_o (by decide) (up_o (by decide) (up_o (by decide) (up_o (by decide) (up_o (by decide) (up_o (by decide) (up_o (by decide) (up_o (by decide) (up_o (by decide) up_s))))))))))))))))))))))))))).trans rfl
    · exact ((up_o (by decide) (up_o (by decide) (up_o (by decide) (up_o (by decide) (up_o (by decide) (up_o (by decide) (up_o (by decide) (up_o (by decide) (up_o (by decide) (up_o (by decide) (up_o (by decide) (up_o (by decide) (up_o (by decide) (up_o (by decide) (up_o (by decide) (up_o (by decide) (up_o (by decide) (up_o (by decide) (up_o (by decide) (up_o (by decide) (up_o (by decide) (up_o (by decide) (up_o (by decide) up_s)))))))))))))))))))))))).trans rfl
    · exact ((up_o (by decide) (up_o (by decide) (up_o (by decide) (up_o (by decide) (up_o (by decide) (up_o (by decide) (up_o (by decide) (up_o (by decide) (up_o (by decide) (up_o (by decide) (up_o (by decide) (up_o (by decide) (up_o (by decide) (up_o (by decide) (up_o (by decide) (up_o (by decide) (up_o (by decide) (up_o (by decide) (up_o (by decide) (up_o (by decide) up_s))))))))))))))))))))).trans rfl
    · exact ((up_o (by decide) (up_o (by decide) (up_o (by decide) (up_o (by decide) (up_o (by decide) (up_o (by decide) (up_o (by decide) (up_o (by decide) (up_o (by decide) (up_o (by decide) (up_o (by decide) (up_o (by decide) (up_o (by decide) (up_o (by decide) (up_o (by decide) (up_o (by decide) (up_o (by decide) up_s)))))))))))))))))).trans rfl
    · exact ((up_o (by decide) (up_o (by decide) (up_o (by decide) (up_o (by decide) (up_o (by decide) (up_o (by decide) (up_o (by decide) (up_o (by decide) (up_o (by decide) (up_o (by decide) (up_o (by decide) (up_o (by decide) (up_o (by decide) (up_o (by decide) up_s))))))))))))))).trans rfl
    · exact ((up_o (by decide) (up_o (by decide) (up_o (by decide) (up_o (by decide) (up_o (by decide) (up_o (by decide) (up_o (by decide) (up_o (by decide) (up_o (by decide) (up_o (by decide) (up_o (by decide) up_s)))))))))))).trans rfl
    · exact ((up_o (by decide) (up_o (by decide) (up_o (by decide) (up_o (by decide) (up_o (by decide) (up_o (by decide) (up_o (by decide) (up_o (by decide) up_s))))))))).trans rfl
    · exact ((up_o (by decide) (up_o (by decide) (up_o (by decide) (up_o (by decide) (up_o (by decide) up_s)))))).trans rfl
    · exact ((up_o (by decide) (up_o (by decide) up_s))).trans rfl
    · exact ((up_o (by decide) (up_o (by decide) (up_o (by decide) (up_o (by decide) (up_o (by decide) (up_o (by decide) (up_o (by decide) (up_o (by decide) (up_o (by decide) (up_o (by decide) (up_o (by decide) (up_o (by decide) (up_o (by decide) (up_o (by decide) (up_o (by decide) (up_o (by decide) (up_o (by decide) (up_o (by decide) (up_o (by decide) (up_o (by decide) (up_o (by decide) (up_o (by decide) (up_o (by decide) (up_o (by decide) (up_o (by decide) (up_o (by decide) (up_o (by decide) (up_o (by decide) up_s))))))))))))))))))))))))))))).trans rfl
    · exact ((up_o (by decide) (up_o (by decide) (up_o (by decide) (up_o (by decide) (up_o (by decide) (up_o (by decide) (up_o (by decide) (up_o (by decide) (up_o (by decide) (up_o (by decide) (up_o (by decide) (up_o (by decide) (up_o (by decide) (up_o (by decide) (up_o (by decide) (up_o (by decide) (up_o (by decide) (up_o (by decide) (up_o (by decide) (up_o (by decide) (up_o (by decide) (up_o (by decide) (up_o (by decide) (up_o (by decide) (up_o (by decide) up_s)))))))))))))))))))))))))).trans rfl
    · exact ((up_o (by decide) (up_o (by decide) (up_o (by decide) (up_o (by decide) (up_o (by decide) (up_o (by decide) (up_o (by decide) (up_o (by decide) (up_o (by decide) (up_o (by decide) (up_o (by decide) (up_o (by decide) (up_o (by decide) (up_o (by decide) (up_o (by decide) (up_o (by decide) (up_o (by decide) (up_o (by decide) (up_o (by decide) (up_o (by decide) (up_o (by decide) (up_o (by decide) up_s))))))))))))))))))))))).trans rfl
    · exact ((up_o (by decide) (up_o (by decide) (up_o (by decide) (up_o (by decide) (up_o (by decide) (up_o (by decide) (up_o (by decide) (up_o (by decide) (up_o (by decide) (up_o (by decide) (up_o (by decide) (up_o (by decide) (up_o (by decide) (up_o (by decide) (up_o (by decide) (up_o (by decide) (up_o (by decide) (up_o (by decide) (up_o (by decide) up_s)))))))))))))))))))).trans rfl
    · exact ((up_o (by decide) (up_o (by decide) (up_o (by decide) (up_o (by decide) (up_o (by decide) (up_o (by decide) (up_o (by decide) (up_o (by decide) (up_o (by decide) (up_o (by decide) (up_o (by decide) (up_o (by decide) (up_o (by decide) (up_o (by decide) (up_o (by decide) (up_o (by decide) up_s))))))))))))))))).trans rfl
    · exact ((up_o (by decide) (up_o (by decide) (up_o (by decide) (up_o (by decide) (up_o (by decide) (up_o (by decide) (up_o (by decide) (up_o (by decide) (up_o (by decide) (up_o (by decide) (up_o (by decide) (up_o (by decide) (up_o (by decide) up_s)))))))))))))).trans rfl
    · exact ((up_o (by decide) (up_o (by decide) (up_o (by decide) (up_o (by decide) (up_o (by decide) (up_o (by decide) (up_o (by decide) (up_o (by decide) (up_o (by decide) (up_o (by decide) up_s))))))))))).trans rfl
    · exact ((up_o (by decide) (up_o (by decide) (up_o (by decide) (up_o (by decide) (up_o (by decide) (up_o (by decide) (up_o (by decide) up_s)))))))).trans rfl
    · exact ((up_o (by decide) (up_o (by decide) (up_o (by decide) (up_o (by decide) up_s))))).trans rfl
    · exact ((up_o (by decide) up_s)).trans rfl
    · exact ((up_o (by decide) (up_o (by decide) (up_o (by decide) (up_o (by decide) (up_o (by decide) (up_o (by decide) (up_o (by decide) (up_o (by decide) (up_o (by decide) (up_o (by decide) (up_o (by decide) (up_o (by decide) (up_o (by decide) (up_o (by decide) (up_o (by decide) (up_o (by decide) (up_o (by decide) (up_o (by decide) (up_o (by decide) (up_o (by decide) (up_o (by decide) (up_o (by decide) (up_o (by decide) (up_o (by decide) (up_o (by decide) (up_o (by decide) (up_o (by decide) up_s)))))))))))))))))))))))))))).trans rfl
    · exact ((up_o (by decide) (up_o (by decide) (up_o (by decide) (up_o (by decide) (up_o (by decide) (up_o (by decide) (up_o (by decide) (up_o (by decide) (up_o (by decide) (up_o (by decide) (up_o (by decide) (up_o (by decide) (up_o (by decide) (up_o (by decide) (up_o (by decide) (up_o (by decide) (up_o (by decide) (up_o (by decide) (up_o (by decide) (up_o (by decide) (up_o (by decide) (up_o (by decide) (up_o (by decide) (up_o (by decide) up_s))))))))))))))))))))))))).trans rfl
    · exact ((up_o (by decide) (up_o (by decide) (up_o (by decide) (up_o (by decide) (up_o (by decide) (up_o (by decide) (up_o (by decide) (up_o (by decide) (up_o (by decide) (up_o (by decide) (up_o (by decide) (up_o (by decide) (up_o (by decide) (up_o (by decide) (up_o (by decide) (up_o (by decide) (up_o (by decide) (up_o (by decide) (up_o (by decide) (up_o (by decide) (up_o (by decide) up_s)))))))))))))))))))))).trans rfl
    · exact ((up_o (by decide) (up_o (by decide) (up_o (by decide) (up_o (by decide) (up_o (by decide) (up_o (by decide) (up_o (by decide) (up_o (by decide) (up_o (by decide) (up_o (by decide) (up_o (by decide) (up_o (by decide) (up_o (by decide) (up_o (by decide) (up_o (by decide) (up_o (by decide) (up_o (by decide) (up_o (by decide) up_s))))))))))))))))))).trans rfl
    · exact ((up_o (by decide) (up_o (by decide) (up_o (by decide) (up_o (by decide) (up_o (by decide) (up_o (by decide) (up_o (by decide) (up_o (by decide) (up_o (by decide) (up_o (by decide) (up_o (by decide) (up_o (by decide) (up_o (by decide) (up_o (by decide) (up_o (by decide) up_s)))))))))))))))).trans rfl
    · exact ((up_o (by decide) (up_o (by decide) (up_o (by decide) (up_o (by decide) (up_o (by decide) (up_o (by decide) (up_o (by decide) (up_o (by decide) (up_o (by decide) (up_o (by decide) (up_o (by decide) (up_o (by decide) up_s))))))))))))).trans rfl
    · exact ((up_o (by decide) (up_o (by decide) (up_o (by decide) (up_o (by decide) (up_o (by decide) (up_o (by decide) (up_o (by decide) (up_o (by decide) (up_o (by decide) up_s)))))))))).trans rfl
    · exact ((up_o (by decide) (up_o (by decide) (up_o (by decide) (up_o (by decide) (up_o (by decide) (up_o (by decide) up_s))))))).trans rfl
    · exact ((up_o (by decide) (up_o (by decide) (up_o (by decide) up_s)))).trans rfl
    · exact (up_s).trans rfl
theorem c_X3_init6 {d : Nat} (hd : 1 ≤ d) {h0 : bf_Hp} (hz : ∀ j, h0 6 j = defaultValue (tyX3 j)) : bf_Cl d mX3_init [.ref 6, .ref 4] (7, h0) 9 (bf_Pi 6 9 h0) := by
  refine ci_of 0 hd mo_X3_init (show 7 ≤ 9 by decide) (by decide) (Nat.le_of_ble_eq_true rfl) (fun e he J r => ?_)
  show J 0 [some (.ref 6), some (.ref 4)] [] (7, h0)
  refine bf_aload_n r.1 dX3_init_0 rfl ?_
  refine r.2.1.2.2.2.1 1 [some (.ref 6), some (.ref 4)] [] (7, h0) 3 6 dX3_init_1 lw_X3_3 (Nat.le_of_ble_eq_true rfl) ?_
  show J 4 [some (.ref 6), some (.ref 4)] [] (7, h0)
  refine bf_aload_n r.1 dX3_init_4 rfl ?_
  refine bf_bipush r.1 (v := nI 10) dX3_init_5 rfl ?_
  refine r.2.1.2.2.2.2.2.1 7 [some (.ref 6), some (.ref 4)] [.ref 6] (7, h0) 10 (nI 10) dX3_init_7 rfl (by decide) rfl (show 7 < 9 by decide) ?_
  show J 9 [some (.ref 6), some (.ref 4)] [.ref 7, .ref 6] (8, bf_fill (h0) 7 (fun _ => .int 0))
  refine r.2.2.1 9 [some (.ref 6), some (.ref 4)] [] (8, bf_fill (h0) 7 (fun _ => .int 0)) 9 3 1 6 7 dX3_init_9 ff_X3_9 rfl rfl (show 6 < 8 by decide) ?_
  show J 12 [some (.ref 6), some (.ref 4)] [] (8, bf_up (bf_fill (h0) 7 (fun _ => .int 0)) 6 1 (.ref 7))
  refine bf_aload_n r.1 dX3_init_12 rfl ?_
  refine bf_bipush r.1 (v := nI 7) dX3_init_13 rfl ?_
  refine r.2.1.2.2.2.2.2.1 15 [some (.ref 6), some (.ref 4)] [.ref 6] (8, bf_up (bf_fill (h0) 7 (fun _ => .int 0)) 6 1 (.ref 7)) 7 (nI 7) dX3_init_15 rfl (by decide) rfl (show 8 < 9 by decide) ?_
  show J 17 [some (.ref 6), some (.ref 4)] [.ref 8, .ref 6] (9, bf_fill (bf_up (bf_fill (h0) 7 (fun _ => .int 0)) 6 1 (.ref 7)) 8 (fun _ => .int 0))
  refine r.2.2.1 17 [some (.ref 6), some (.ref 4)] [] (9, bf_fill (bf_up (bf_fill (h0) 7 (fun _ => .int 0)) 6 1 (.ref 7)) 8 (fun _ => .int 0)) 15 3 2 6 8 dX3_init_17 ff_X3_15 rfl rfl (show 6 < 9 by decide) ?_
  show J 20 [some (.ref 6), some (.ref 4)] [] (9, bf_up (bf_fill (bf_up (bf_fill (h0) 7 (fun _ => .int 0)) 6 1 (.ref 7)) 8 (fun _ => .int 0)) 6 2 (.ref 8))
  refine bf_aload_n r.1 dX3_init_20 rfl ?_
  refine bf_aload_n r.1 dX3_init_21 rfl ?_
  refine r.2.2.1 22 [some (.ref 6), some (.ref 4)] [] (9, bf_up (bf_fill (bf_up (bf_fill (h0) 7 (fun _ => .int 0)) 6 1 (.ref 7)) 8 (fun _ => .int 0)) 6 2 (.ref 8)) 18 3 0 6 4 dX3_init_22 ff_X3_18 rfl rfl (show 6 < 9 by decide) ?_
  show J 25 [some (.ref 6), some (.ref 4)] [] (9, bf_up (bf_up (bf_fill (bf_up (bf_fill (h0) 7 (fun _ => .int 0)) 6 1 (.ref 7)) 8 (fun _ => .int 0)) 6 2 (.ref 8)) 6 0 (.ref 4))
  refine r.2.2.2.2.2 25 _ (9, bf_up (bf_up (bf_fill (bf_up (bf_fill (h0) 7 (fun _ => .int 0)) 6 1 (.ref 7)) 8 (fun _ => .int 0)) 6 2 (.ref 8)) 6 0 (.ref 4)) dX3_init_25 rfl rfl ⟨rfl, _, rfl, (FR_up (by decide) (FR_up (by decide) (FR_fl (by decide) (FR_up (by decide) (FR_fl (by decide) FR_0))))), fun b h1 h2 j hj => ?_⟩
  rcases (show b = 6 ∨ b = 7 ∨ b = 8 by omega) with rfl | rfl | rfl
  · have hj2 : j < 6 := hj
    rcases (show j = 0 ∨ j = 1 ∨ j = 2 ∨ j = 3 ∨ j = 4 ∨ j = 5 by omega) with rfl | rfl | rfl | rfl | rfl | rfl
    · exact (up_s).trans rfl
    · exact ((up_o (by decide) (up_o (by decide) (fl_o (by decide) up_s)))).trans rfl
    · exact ((up_o (by decide) up_s)).trans rfl
    · exact ((up_o (by decide) (up_o (by decide) (fl_o (by decide) (up_o (by decide) (fl_o (by decide) (hz 3))))))).trans rfl
    · exact ((up_o (by decide) (up_o (by decide) (fl_o (by decide) (up_o (by decide) (fl_o (by decide) (hz 4))))))).trans rfl
    · exact ((up_o (by decide) (up_o (by decide) (fl_o (by decide) (up_o (by decide) (fl_o (by decide) (hz 5))))))).trans rfl
  · exact ZR_m (n := 10) rfl (by decide) (fun _ => rfl) (ZR_up (by decide) (ZR_up (by decide) (ZR_fl (by decide) (ZR_up (by decide) ZR_s)))) j hj
  · exact ZR_m (n := 7) rfl (by decide) (fun _ => rfl) (ZR_up (by decide) (ZR_up (by decide) ZR_s)) j hj
theorem c_X3_init9 {d : Nat} (hd : 1 ≤ d) {h0 : bf_Hp} (hz : ∀ j, h0 9 j = defaultValue (tyX3 j)) : bf_Cl d mX3_init [.ref 9, .ref 4] (10, h0) 12 (bf_Pi 9 12 h0) := by
  refine ci_of 0 hd mo_X3_init (show 10 ≤ 12 by decide) (by decide) (Nat.le_of_ble_eq_true rfl) (fun e he J r => ?_)
  show J 0 [some (.ref 9), some (.ref 4)] [] (10, h0)
  refine bf_aload_n r.1 dX3_init_0 rfl ?_
  refine r.2.1.2.2.2.1 1 [some (.ref 9), some (.ref 4)] [] (10, h0) 3 9 dX3_init_1 lw_X3_3 (Nat.le_of_ble_eq_true rfl) ?_
  show J 4 [some (.ref 9), some (.ref 4)] [] (10, h0)
  refine bf_aload_n r.1 dX3_init_4 rfl ?_
  refine bf_bipush r.1 (v := nI 10) dX3_init_5 rfl ?_
  refine r.2.1.2.2.2.2.2.1 7 [some (.ref 9), some (.ref 4)] [.ref 9] (10, h0) 10 (nI 10) dX3_init_7 rfl (by decide) rfl (show 10 < 12 by decide) ?_
  show J 9 [some (.ref 9), some (.ref 4)] [.ref 10, .ref 9] (11, bf_fill (h0) 10 (fun _ => .int 0))
  refine r.2.2.1 9 [some (.ref 9), some (.ref 4)] [] (11, bf_fill (h0) 10 (fun _ => .int 0)) 9 3 1 9 10 dX3_init_9 ff_X3_9 rfl rfl (show 9 < 11 by decide) ?_
  show J 12 [some (.ref 9), some (.ref 4)] [] (11, bf_up (bf_fill (h0) 10 (fun _ => .int 0)) 9 1 (.ref 10))
  refine bf_aload_n r.1 dX3_init_12 rfl ?_
  refine bf_bipush r.1 (v := nI 7) dX3_init_13 rfl ?_
  refine r.2.1.2.2.2.2.2.1 15 [some (.ref 9), some (.ref 4)] [.ref 9] (11, bf_up (bf_fill (h0) 10 (fun _ => .int 0)) 9 1 (.ref 10)) 7 (nI 7) dX3_init_15 rfl (by decide) rfl (show 11 < 12 by decide) ?_
  show J 17 [some (.ref 9), some (.ref 4)] [.ref 11, .ref 9] (12, bf_fill (bf_up (bf_fill (h0) 10 (fun _ => .int 0)) 9 1 (.ref 10)) 11 (fun _ => .int 0))
  refine r.2.2.1 17 [some (.ref 9), some (.ref 4)] [] (12, bf_fill (bf_up (bf_fill (h0) 10 (fun _ => .int 0)) 9 1 (.ref 10)) 11 (fun _ => .int 0)) 15 3 2 9 11 dX3_init_17 ff_X3_15 rfl rfl (show 9 < 12 by decide) ?_
  show J 20 [some (.ref 9), some (.ref 4)] [] (12, bf_up (bf_fill (bf_up (bf_fill (h0) 10 (fun _ => .int 0)) 9 1 (.ref 10)) 11 (fun _ => .int 0)) 9 2 (.ref 11))
  refine bf_aload_n r.1 dX3_init_20 rfl ?_
  refine bf_aload_n r.1 dX3_init_21 rfl ?_
  refine r.2.2.1 22 [some (.ref 9), some (.ref 4)] [] (12, bf_up (bf_fill (bf_up (bf_fill (h0) 10 (fun _ => .int 0)) 9 1 (.ref 10)) 11 (fun _ => .int 0)) 9 2 (.ref 11)) 18 3 0 9 4 dX3_init_22 ff_X3_18 rfl rfl (show 9 < 12 by decide) ?_
  show J 25 [some (.ref 9), some (.ref 4)] [] (12, bf_up (bf_up (bf_fill (bf_up (bf_fill (h0) 10 (fun _ => .int 0)) 9 1 (.ref 10)) 11 (fun _ => .int 0)) 9 2 (.ref 11)) 9 0 (.ref 4))
  refine r.2.2.2.2.2 25 _ (12, bf_up (bf_up (bf_fill (bf_up (bf_fill (h0) 10 (fun _ => .int 0)) 9 1 (.ref 10)) 11 (fun _ => .int 0)) 9 2 (.ref 11)) 9 0 (.ref 4)) dX3_init_25 rfl rfl ⟨rfl, _, rfl, (FR_up (by decide) (FR_up (by decide) (FR_fl (by decide) (FR_up (by decide) (FR_fl (by decide) FR_0))))), fun b h1 h2 j hj => ?_⟩
  rcases (show b = 9 ∨ b = 10 ∨ b = 11 by omega) with rfl | rfl | rfl
  · have hj2 : j < 6 := hj
    rcases (show j = 0 ∨ j = 1 ∨ j = 2 ∨ j = 3 ∨ j = 4 ∨ j = 5 by omega) with rfl | rfl | rfl | rfl | rfl | rfl
    · exact (up_s).trans rfl
    · exact ((up_o (by decide) (up_o (by decide) (fl_o (by decide) up_s)))).trans rfl
    · exact ((up_o (by decide) up_s)).trans rfl
    · exact ((up_o (by decide) (up_o (by decide) (fl_o (by decide) (up_o (by decide) (fl_o (by decide) (hz 3))))))).trans rfl
    · exact ((up_o (by decide) (up_o (by decide) (fl_o (by decide) (up_o (by decide) (fl_o (by decide) (hz 4))))))).trans rfl
    · exact ((up_o (by decide) (up_o (by decide) (fl_o (by decide) (up_o (by decide) (fl_o (by decide) (hz 5))))))).trans rfl
  · exact ZR_m (n := 10) rfl (by decide) (fun _ => rfl) (ZR_up (by decide) (ZR_up (by decide) (ZR_fl (by decide) (ZR_up (by decide) ZR_s)))) j hj
  · exact ZR_m (n := 7) rfl (by decide) (fun _ => rfl) (ZR_up (by decide) (ZR_up (by decide) ZR_s)) j hj
theorem c_X3_init12 {d : Nat} (hd : 1 ≤ d) {h0 : bf_Hp} (hz : ∀ j, h0 12 j = defaultValue (tyX3 j)) : bf_Cl d mX3_init [.ref 12, .ref 4] (13, h0) 15 (bf_Pi 12 15 h0) := by
  refine ci_of 0 hd mo_X3_init (show 13 ≤ 15 by decide) (by decide) (Nat.le_of_ble_eq_true rfl) (fun e he J r => ?_)
  show J 0 [some (.ref 12), some (.ref 4)] [] (13, h0)
  refine bf_aload_n r.1 dX3_init_0 rfl ?_
  refine r.2.1.2.2.2.1 1 [some (.ref 12), some (.ref 4)] [] (13, h0) 3 12 dX3_init_1 lw_X3_3 (Nat.le_of_ble_eq_true rfl) ?_
  show J 4 [some (.ref 12), some (.ref 4)] [] (13, h0)
  refine bf_aload_n r.1 dX3_init_4 rfl ?_
  refine bf_bipush r.1 (v := nI 10) dX3_init_5 rfl ?_
  refine r.2.1.2.2.2.2.2.1 7 [some (.ref 12), some (.ref 4)] [.ref 12] (13, h0) 10 (nI 10) dX3_init_7 rfl (by decide) rfl (show 13 < 15 by decide) ?_
  show J 9 [some (.ref 12), some (.ref 4)] [.ref 13, .ref 12] (14, bf_fill (h0) 13 (fun _ => .int 0))
  refine r.2.2.1 9 [some (.ref 12), some (.ref 4)] [] (14, bf_fill (h0) 13 (fun _ => .int 0)) 9 3 1 12 13 dX3_init_9 ff_X3_9 rfl rfl (show 12 < 14 by decide) ?_
  show J 12 [some (.ref 12), some (.ref 4)] [] (14, bf_up (bf_fill (h0) 13 (fun _ => .int 0)) 12 1 (.ref 13))
  refine bf_aload_n r.1 dX3_init_12 rfl ?_
  refine bf_bipush r.1 (v := nI 7) dX3_init_13 rfl ?_
  refine r.2.1.2.2.2.2.2.1 15 [some (.ref 12), some (.ref 4)] [.ref 12] (14, bf_up (bf_fill (h0) 13 (fun _ => .int 0)) 12 1 (.ref 13)) 7 (nI 7) dX3_init_15 rfl (by decide) rfl (show 14 < 15 by decide) ?_
  show J 17 [some (.ref 12), some (.ref 4)] [.ref 14, .ref 12] (15, bf_fill (bf_up (bf_fill (h0) 13 (fun _ => .int 0)) 12 1 (.ref 13)) 14 (fun _ => .int 0))
  refine r.2.2.1 17 [some (.ref 12), some (.ref 4)] [] (15, bf_fill (bf_up (bf_fill (h0) 13 (fun _ => .int 0)) 12 1 (.ref 13)) 14 (fun _ => .int 0)) 15 3 2 12 14 dX3_init_17 ff_X3_15 rfl rfl (show 12 < 15 by decide) ?_
  show J 20 [some (.ref 12), some (.ref 4)] [] (15, bf_up (bf_fill (bf_up (bf_fill (h0) 13 (fun _ => .int 0)) 12 1 (.ref 13)) 14 (fun _ => .int 0)) 12 2 (.ref 14))
  refine bf_aload_n r.1 dX3_init_20 rfl ?_
  refine bf_aload_n r.1 dX3_init_21 rfl ?_
  refine r.2.2.1 22 [some (.ref 12), some (.ref 4)] [] (15, bf_up (bf_fill (bf_up (bf_fill (h0) 13 (fun _ => .int 0)) 12 1 (.ref 13)) 14 (fun _ => .int 0)) 12 2 (.ref 14)) 18 3 0 12 4 dX3_init_22 ff_X3_18 rfl rfl (show 12 < 15 by decide) ?_
  show J 25 [some (.ref 12), some (.ref 4)] [] (15, bf_up (bf_up (bf_fill (bf_up (bf_fill (h0) 13 (fun _ => .int 0)) 12 1 (.ref 13)) 14 (fun _ => .int 0)) 12 2 (.ref 14)) 12 0 (.ref 4))
  refine r.2.2.2.2.2 25 _ (15, bf_up (bf_up (bf_fill (bf_up (bf_fill (h0) 13 (fun _ => .int 0)) 12 1 (.ref 13)) 14 (fun _ => .int 0)) 12 2 (.ref 14)) 12 0 (.ref 4)) dX3_init_25 rfl rfl ⟨rfl, _, rfl, (FR_up (by decide) (FR_up (by decide) (FR_fl (by decide) (FR_up (by decide) (FR_fl (by decide) FR_0))))), fun b h1 h2 j hj => ?_⟩
  rcases (show b = 12 ∨ b = 13 ∨ b = 14 by omega) with rfl | rfl | rfl
  · have hj2 : j < 6 := hj
    rcases (show j = 0 ∨ j = 1 ∨ j = 2 ∨ j = 3 ∨ j = 4 ∨ j = 5 by omega) with rfl | rfl | rfl | rfl | rfl | rfl
    · exact (up_s).trans rfl
    · exact ((up_o (by decide) (up_o (by decide) (fl_o (by decide) up_s)))).trans rfl
    · exact ((up_o (by decide) up_s)).trans rfl
    · exact ((up_o (by decide) (up_o (by decide) (fl_o (by decide) (up_o (by decide) (fl_o (by decide) (hz 3))))))).trans rfl
    · exact ((up_o (by decide) (up_o (by decide) (fl_o (by decide) (up_o (by decide) (fl_o (by decide) (hz 4))))))).trans rfl
    · exact ((up_o (by decide) (up_o (by decide) (fl_o (by decide) (up_o (by decide) (fl_o (by decide) (hz 5))))))).trans rfl
  · exact ZR_m (n := 10) rfl (by decide) (fun _ => rfl) (ZR_up (by decide) (ZR_up (by decide) (ZR_fl (by decide) (ZR_up (by decide) ZR_s)))) j hj
  · exact ZR_m (n := 7) rfl (by decide) (fun _ => rfl) (ZR_up (by decide) (ZR_up (by decide) ZR_s)) j hj
theorem c_X3_init15 {d : Nat} (hd : 1 ≤ d) {h0 : bf_Hp} (hz : ∀ j, h0 15 j = defaultValue (tyX3 j)) : bf_Cl d mX3_init [.ref 15, .ref 4] (16, h0) 18 (bf_Pi 15 18 h0) := by
  refine ci_of 0 hd mo_X3_init (show 16 ≤ 18 by decide) (by decide) (Nat.le_of_ble_eq_true rfl) (fun e he J r => ?_)
  show J 0 [some (.ref 15), some (.ref 4)] [] (16, h0)
  refine bf_aload_n r.1 dX3_init_0 rfl ?_
  refine r.2.1.2.2.2.1 1 [some (.ref 15), some (.ref 4)] [] (16, h0) 3 15 dX3_init_1 lw_X3_3 (Nat.le_of_ble_eq_true rfl) ?_
  show J 4 [some (.ref 15), some (.ref 4)] [] (16, h0)
  refine bf_aload_n r.1 dX3_init_4 rfl ?_
  refine bf_bipush r.1 (v := nI 10) dX3_init_5 rfl ?_
  refine r.2.1.2.2.2.2.2.1 7 [some (.ref 15), some (.ref 4)] [.ref 15] (16, h0) 10 (nI 10) dX3_init_7 rfl (by decide) rfl (show 16 < 18 by decide) ?_
  show J 9 [some (.ref 15), some (.ref 4)] [.ref 16, .ref 15] (17, bf_fill (h0) 16 (fun _ => .int 0))
  refine r.2.2.1 9 [some (.ref 15), some (.ref 4)] [] (17, bf_fill (h0) 16 (fun _ => .int 0)) 9 3 1 15 16 dX3_init_9 ff_X3_9 rfl rfl (show 15 < 17 by decide) ?_
  show J 12 [some (.ref 15), some (.ref 4)] [] (17, bf_up (bf_fill (h0) 16 (fun _ => .int 0)) 15 1 (.ref 16))
  refine bf_aload_n r.1 dX3_init_12 rfl ?_
  refine bf_bipush r.1 (v := nI 7) dX3_init_13 rfl ?_
  refine r.2.1.2.2.2.2.2.1 15 [some (.ref 15), some (.ref 4)] [.ref 15] (17, bf_up (bf_fill (h0) 16 (fun _ => .int 0)) 15 1 (.ref 16)) 7 (nI 7) dX3_init_15 rfl (by decide) rfl (show 17 < 18 by decide) ?_
  show J 17 [some (.ref 15), some (.ref 4)] [.ref 17, .ref 15] (18, bf_fill (bf_up (bf_fill (h0) 16 (fun _ => .int 0)) 15 1 (.ref 16)) 17 (fun _ => .int 0))
  refine r.2.2.1 17 [some (.ref 15), some (.ref 4)] [] (18, bf_fill (bf_up (bf_fill (h0) 16 (fun _ => .int 0)) 15 1 (.ref 16)) 17 (fun _ => .int 0)) 15 3 2 15 17 dX3_init_17 ff_X3_15 rfl rfl (show 15 < 18 by decide) ?_
  show J 20 [some (.ref 15), some (.ref 4)] [] (18, bf_up (bf_fill (bf_up (bf_fill (h0) 16 (fun _ => .int 0)) 15 1 (.ref 16)) 17 (fun _ => .int 0)) 15 2 (.ref 17))
  refine bf_aload_n r.1 dX3_init_20 rfl ?_
  refine bf_aload_n r.1 dX3_init_21 rfl ?_
  refine r.2.2.1 22 [some (.ref 15), some (.ref 4)] [] (18, bf_up (bf_fill (bf_up (bf_fill (h0) 16 (fun _ => .int 0)) 15 1 (.ref 16)) 17 (fun _ => .int 0)) 15 2 (.ref 17)) 18 3 0 15 4 dX3_init_22 ff_X3_18 rfl rfl (show 15 < 18 by decide) ?_
  show J 25 [some (.ref 15), some (.ref 4)] [] (18, bf_up (bf_up (bf_fill (bf_up (bf_fill (h0) 16 (fun _ => .int 0)) 15 1 (.ref 16)) 17 (fun _ => .int 0)) 15 2 (.ref 17)) 15 0 (.ref 4))
  refine r.2.2.2.2.2 25 _ (18, bf_up (bf_up (bf_fill (bf_up (bf_fill (h0) 16 (fun _ => .int 0)) 15 1 (.ref 16)) 17 (fun _ => .int 0)) 15 2 (.ref 17)) 15 0 (.ref 4)) dX3_init_25 rfl rfl ⟨rfl, _, rfl, (FR_up (by decide) (FR_up (by decide) (FR_fl (by decide) (FR_up (by decide) (FR_fl (by decide) FR_0))))), fun b h1 h2 j hj => ?_⟩
  rcases (show b = 15 ∨ b = 16 ∨ b = 17 by omega) with rfl | rfl | rfl
  · have hj2 : j < 6 := hj
    rcases (show j = 0 ∨ j = 1 ∨ j = 2 ∨ j = 3 ∨ j = 4 ∨ j = 5 by omega) with rfl | rfl | rfl | rfl | rfl | rfl
    · exact (up_s).trans rfl
    · exact ((up_o (by decide) (up_o (by decide) (fl_o (by decide) up_s)))).trans rfl
    · exact ((up_o (by decide) up_s)).trans rfl
    · exact ((up_o (by decide) (up_o (by decide) (fl_o (by decide) (up_o (by decide) (fl_o (by decide) (hz 3))))))).trans rfl
    · exact ((up_o (by decide) (up_o (by decide) (fl_o (by decide) (up_o (by decide) (fl_o (by decide) (hz 4))))))).trans rfl
    · exact ((up_o (by decide) (up_o (by decide) (fl_o (by decide) (up_o (by decide) (fl_o (by decide) (hz 5))))))).trans rfl
  · exact ZR_m (n := 10) rfl (by decide) (fun _ => rfl) (ZR_up (by decide) (ZR_up (by decide) (ZR_fl (by decide) (ZR_up (by decide) ZR_s)))) j hj
  · exact ZR_m (n := 7) rfl (by decide) (fun _ => rfl) (ZR_up (by decide) (ZR_up (by decide) ZR_s)) j hj
theorem c_X4_init {d : Nat} (hd : 1 ≤ d) {h0 : bf_Hp} (hz : ∀ j, h0 18 j = defaultValue (tyX4 j)) : bf_Cl d mX4_init [.ref 18] (19, h0) 22 (bf_Pi 18 22 h0) := by
  refine ci_of 0 hd mo_X4_init (show 19 ≤ 22 by decide) (by decide) (Nat.le_of_ble_eq_true rfl) (fun e he J r => ?_)
  show J 0 [some (.ref 18)] [] (19, h0)
  refine bf_aload_n r.1 dX4_init_0 rfl ?_
  refine r.2.1.2.2.2.1 1 [some (.ref 18)] [] (19, h0) 3 18 dX4_init_1 lw_X4_3 (Nat.le_of_ble_eq_true rfl) ?_
  show J 4 [some (.ref 18)] [] (19, h0)
  refine bf_aload_n r.1 dX4_init_4 rfl ?_
  refine bf_bipush r.1 (v := nI 8) dX4_init_5 rfl ?_
  refine r.2.1.2.2.2.2.2.1 7 [some (.ref 18)] [.ref 18] (19, h0) 8 (nI 8) dX4_init_7 rfl (by decide) rfl (show 19 < 22 by decide) ?_
  show J 9 [some (.ref 18)] [.ref 19, .ref 18] (20, bf_fill (h0) 19 (fun _ => .int 0))
  refine r.2.2.1 9 [some (.ref 18)] [] (20, bf_fill (h0) 19 (fun _ => .int 0)) 9 4 0 18 19 dX4_init_9 ff_X4_9 rfl rfl (show 18 < 20 by decide) ?_
  show J 12 [some (.ref 18)] [] (20, bf_up (bf_fill (h0) 19 (fun _ => .int 0)) 18 0 (.ref 19))
  refine bf_aload_n r.1 dX4_init_12 rfl ?_
  refine bf_bipush r.1 (v := nI 8) dX4_init_13 rfl ?_
  refine r.2.1.2.2.2.2.2.1 15 [some (.ref 18)] [.ref 18] (20, bf_up (bf_fill (h0) 19 (fun _ => .int 0)) 18 0 (.ref 19)) 8 (nI 8) dX4_init_15 rfl (by decide) rfl (show 20 < 22 by decide) ?_
  show J 17 [some (.ref 18)] [.ref 20, .ref 18] (21, bf_fill (bf_up (bf_fill (h0) 19 (fun _ => .int 0)) 18 0 (.ref 19)) 20 (fun _ => .int 0))
  refine r.2.2.1 17 [some (.ref 18)] [] (21, bf_fill (bf_up (bf_fill (h0) 19 (fun _ => .int 0)) 18 0 (.ref 19)) 20 (fun _ => .int 0)) 15 4 1 18 20 dX4_init_17 ff_X4_15 rfl rfl (show 18 < 21 by decide) ?_
  show J 20 [some (.ref 18)] [] (21, bf_up (bf_fill (bf_up (bf_fill (h0) 19 (fun _ => .int 0)) 18 0 (.ref 19)) 20 (fun _ => .int 0)) 18 1 (.ref 20))
  refine bf_aload_n r.1 dX4_init_20 rfl ?_
  refine bf_bipush r.1 (v := nI 8) dX4_init_21 rfl ?_
  refine r.2.1.2.2.2.2.2.1 23 [some (.ref 18)] [.ref 18] (21, bf_up (bf_fill (bf_up (bf_fill (h0) 19 (fun _ => .int 0)) 18 0 (.ref 19)) 20 (fun _ => .int 0)) 18 1 (.ref 20)) 8 (nI 8) dX4_init_23 rfl (by decide) rfl (show 21 < 22 by decide) ?_
  show J 25 [some (.ref 18)] [.ref 21, .ref 18] (22, bf_fill (bf_up (bf_fill (bf_up (bf_fill (h0) 19 (fun _ => .int 0)) 18 0 (.ref 19)) 20 (fun _ => .int 0)) 18 1 (.ref 20)) 21 (fun _ => .int 0))
  refine r.2.2.1 25 [some (.ref 18)] [] (22, bf_fill (bf_up (bf_fill (bf_up (bf_fill (h0) 19 (fun _ => .int 0)) 18 0 (.ref 19)) 20 (fun _ => .int 0)) 18 1 (.ref 20)) 21 (fun _ => .int 0)) 18 4 2 18 21 dX4_init_25 ff_X4_18 rfl rfl (show 18 < 22 by decide) ?_
  show J 28 [some (.ref 18)] [] (22, bf_up (bf_fill (bf_up (bf_fill (bf_up (bf_fill (h0) 19 (fun _ => .int 0)) 18 0 (.ref 19)) 20 (fun _ => .int 0)) 18 1 (.ref 20)) 21 (fun _ => .int 0)) 18 2 (.ref 21))
  refine r.2.2.2.2.2 28 _ (22, bf_up (bf_fill (bf_up (bf_fill (bf_up (bf_fill (h0) 19 (fun _ => .int 0)) 18 0 (.ref 19)) 20 (fun _ => .int 0)) 18 1 (.ref 20)) 21 (fun _ => .int 0)) 18 2 (.ref 21)) dX4_init_28 rfl rfl ⟨rfl, _, rfl, (FR_up (by decide) (FR_fl (by decide) (FR_up (by decide) (FR_fl (by decide) (FR_up (by decide) (FR_fl (by decide) FR_0)))))), fun b h1 h2 j hj => ?_⟩
  rcases (show b = 18 ∨ b = 19 ∨ b = 20 ∨ b = 21 by omega) with rfl | rfl | rfl | rfl
  · have hj2 : j < 4 := hj
    rcases (show j = 0 ∨ j = 1 ∨ j = 2 ∨ j = 3 by omega) with rfl | rfl | rfl | rfl
    · exact ((up_o (by decide) (fl_o (by decide) (up_o (by decide) (fl_o (by decide) up_s))))).trans rfl
    · exact ((up_o (by decide) (fl_o (by decide) up_s))).trans rfl
    · exact (up_s).trans rfl
    · exact ((up_o (by decide) (fl_o (by decide) (up_o (by decide) (fl_o (by decide) (up_o (by decide) (fl_o (by decide) (hz 3)))))))).trans rfl
  · exact ZR_m (n := 8) rfl (by decide) (fun _ => rfl) (ZR_up (by decide) (ZR_fl (by decide) (ZR_up (by decide) (ZR_fl (by decide) (ZR_up (by decide) ZR_s))))) j hj
  · exact ZR_m (n := 8) rfl (by decide) (fun _ => rfl) (ZR_up (by decide) (ZR_fl (by decide) (ZR_up (by decide) ZR_s))) j hj
  · exact ZR_m (n := 8) rfl (by decide) (fun _ => rfl) (ZR_up (by decide) ZR_s) j hj
theorem c_X6_init {d : Nat} (hd : 1 ≤ d) {h0 : bf_Hp} (hz : ∀ j, h0 22 j = defaultValue (tyX6 j)) : bf_Cl d mX6_init [.ref 22] (23, h0) 24 (bf_Pi 22 24 h0) := by
  refine ci_of 0 hd mo_X6_init (show 23 ≤ 24 by decide) (by decide) (Nat.le_of_ble_eq_true rfl) (fun e he J r => ?_)
  show J 0 [some (.ref 22)] [] (23, h0)
  refine bf_aload_n r.1 dX6_init_0 rfl ?_
  refine r.2.1.2.2.2.1 1 [some (.ref 22)] [] (23, h0) 3 22 dX6_init_1 lw_X6_3 (Nat.le_of_ble_eq_true rfl) ?_
  show J 4 [some (.ref 22)] [] (23, h0)
  refine bf_aload_n r.1 dX6_init_4 rfl ?_
  refine bf_bipush r.1 (v := nI 40) dX6_init_5 rfl ?_
  refine r.2.1.2.2.2.2.2.1 7 [some (.ref 22)] [.ref 22] (23, h0) 40 (nI 40) dX6_init_7 rfl (by decide) rfl (show 23 < 24 by decide) ?_
  show J 9 [some (.ref 22)] [.ref 23, .ref 22] (24, bf_fill (h0) 23 (fun _ => .int 0))
  refine r.2.2.1 9 [some (.ref 22)] [] (24, bf_fill (h0) 23 (fun _ => .int 0)) 9 6 0 22 23 dX6_init_9 ff_X6_9 rfl rfl (show 22 < 24 by decide) ?_
  show J 12 [some (.ref 22)] [] (24, bf_up (bf_fill (h0) 23 (fun _ => .int 0)) 22 0 (.ref 23))
  refine r.2.2.2.2.2 12 _ (24, bf_up (bf_fill (h0) 23 (fun _ => .int 0)) 22 0 (.ref 23)) dX6_init_12 rfl rfl ⟨rfl, _, rfl, (FR_up (by decide) (FR_fl (by decide) FR_0)), fun b h1 h2 j hj => ?_⟩
  rcases (show b = 22 ∨ b = 23 by omega) with rfl | rfl
  · have hj2 : j < 2 := hj
    rcases (show j = 0 ∨ j = 1 by omega) with rfl | rfl
    · exact (up_s).trans rfl
    · exact ((up_o (by decide) (fl_o (by decide) (hz 1)))).trans rfl
  · exact ZR_m (n := 40) rfl (by decide) (fun _ => rfl) (ZR_up (by decide) ZR_s) j hj
theorem c_X1_init {d : Nat} (hd : 1 ≤ d) {h0 : bf_Hp} (hz : ∀ j, h0 24 j = defaultValue (tyX1 j)) : bf_Cl d mX1_init [.ref 24] (25, h0) 29 (bf_Pi 24 29 h0) := by
  refine ci_of 0 hd mo_X1_init (show 25 ≤ 29 by decide) (by decide) (Nat.le_of_ble_eq_true rfl) (fun e he J r => ?_)
  show J 0 [some (.ref 24)] [] (25, h0)
  refine bf_aload_n r.1 dX1_init_0 rfl ?_
  refine r.2.1.2.2.2.1 1 [some (.ref 24)] [] (25, h0) 3 24 dX1_init_1 lw_X1_3 (Nat.le_of_ble_eq_true rfl) ?_
  show J 4 [some (.ref 24)] [] (25, h0)
  refine bf_aload_n r.1 dX1_init_4 rfl ?_
  refine bf_bipush r.1 (v := nI 6) dX1_init_5 rfl ?_
  refine r.2.1.2.2.2.2.2.1 7 [some (.ref 24)] [.ref 24] (25, h0) 6 (nI 6) dX1_init_7 rfl (by decide) rfl (show 25 < 29 by decide) ?_
  show J 9 [some (.ref 24)] [.ref 25, .ref 24] (26, bf_fill (h0) 25 (fun _ => .int 0))
  refine r.2.2.1 9 [some (.ref 24)] [] (26, bf_fill (h0) 25 (fun _ => .int 0)) 9 1 0 24 25 dX1_init_9 ff_X1_9 rfl rfl (show 24 < 26 by decide) ?_
  show J 12 [some (.ref 24)] [] (26, bf_up (bf_fill (h0) 25 (fun _ => .int 0)) 24 0 (.ref 25))
  refine bf_aload_n r.1 dX1_init_12 rfl ?_
  refine bf_bipush r.1 (v := nI 36) dX1_init_13 rfl ?_
  refine r.2.1.2.2.2.2.2.1 15 [some (.ref 24)] [.ref 24] (26, bf_up (bf_fill (h0) 25 (fun _ => .int 0)) 24 0 (.ref 25)) 36 (nI 36) dX1_init_15 rfl (by decide) rfl (show 26 < 29 by decide) ?_
  show J 17 [some (.ref 24)] [.ref 26, .ref 24] (27, bf_fill (bf_up (bf_fill (h0) 25 (fun _ => .int 0)) 24 0 (.ref 25)) 26 (fun _ => .int 0))
  refine r.2.2.1 17 [some (.ref 24)] [] (27, bf_fill (bf_up (bf_fill (h0) 25 (fun _ => .int 0)) 24 0 (.ref 25)) 26 (fun _ => .int 0)) 15 1 1 24 26 dX1_init_17 ff_X1_15 rfl rfl (show 24 < 27 by decide) ?_
  show J 20 [some (.ref 24)] [] (27, bf_up (bf_fill (bf_up (bf_fill (h0) 25 (fun _ => .int 0)) 24 0 (.ref 25)) 26 (fun _ => .int 0)) 24 1 (.ref 26))
  refine bf_aload_n r.1 dX1_init_20 rfl ?_
  refine bf_bipush r.1 (v := nI 6) dX1_init_21 rfl ?_
  refine r.2.1.2.2.2.2.2.1 23 [some (.ref 24)] [.ref 24] (27, bf_up (bf_fill (bf_up (bf_fill (h0) 25 (fun _ => .int 0)) 24 0 (.ref 25)) 26 (fun _ => .int 0)) 24 1 (.ref 26)) 6 (nI 6) dX1_init_23 rfl (by decide) rfl (show 27 < 29 by decide) ?_
  show J 25 [some (.ref 24)] [.ref 27, .ref 24] (28, bf_fill (bf_up (bf_fill (bf_up (bf_fill (h0) 25 (fun _ => .int 0)) 24 0 (.ref 25)) 26 (fun _ => .int 0)) 24 1 (.ref 26)) 27 (fun _ => .int 0))
  refine r.2.2.1 25 [some (.ref 24)] [] (28, bf_fill (bf_up (bf_fill (bf_up (bf_fill (h0) 25 (fun _ => .int 0)) 24 0 (.ref 25)) 26 (fun _ => .int 0)) 24 1 (.ref 26)) 27 (fun _ => .int 0)) 18 1 2 24 27 dX1_init_25 ff_X1_18 rfl rfl (show 24 < 28 by decide) ?_
  show J 28 [some (.ref 24)] [] (28, bf_up (bf_fill (bf_up (bf_fill (bf_up (bf_fill (h0) 25 (fun _ => .int 0)) 24 0 (.ref 25)) 26 (fun _ => .int 0)) 24 1 (.ref 26)) 27 (fun _ => .int 0)) 24 2 (.ref 27))
  refine bf_aload_n r.1 dX1_init_28 rfl ?_
  refine bf_bipush r.1 (v := nI 6) dX1_init_29 rfl ?_
  refine r.2.1.2.2.2.2.2.1 31 [some (.ref 24)] [.ref 24] (28, bf_up (bf_fill (bf_up (bf_fill (bf_up (bf_fill (h0) 25 (fun _ => .int 0)) 24 0 (.ref 25)) 26 (fun _ => .int 0)) 24 1 (.ref 26)) 27 (fun _ => .int 0)) 24 2 (.ref 27)) 6 (nI 6) dX1_init_31 rfl (by decide) rfl (show 28 < 29 by decide) ?_
  show J 33 [some (.ref 24)] [.ref 28, .ref 24] (29, bf_fill (bf_up (bf_fill (bf_up (bf_fill (bf_up (bf_fill (h0) 25 (fun _ => .int 0)) 24 0 (.ref 25)) 26 (fun _ => .int 0)) 24 1 (.ref 26)) 27 (fun _ => .int 0)) 24 2 (.ref 27)) 28 (fun _ => .int 0))
  refine r.2.2.1 33 [some (.ref 24)] [] (29, bf_fill (bf_up (bf_fill (bf_up (bf_fill (bf_up (bf_fill (h0) 25 (fun _ => .int 0)) 24 0 (.ref 25)) 26 (fun _ => .int 0)) 24 1 (.ref 26)) 27 (fun _ => .int 0)) 24 2 (.ref 27)) 28 (fun _ => .int 0)) 21 1 3 24 28 dX1_init_33 ff_X1_21 rfl rfl (show 24 < 29 by decide) ?_
  show J 36 [some (.ref 24)] [] (29, bf_up (bf_fill (bf_up (bf_fill (bf_up (bf_fill (bf_up (bf_fill (h0) 25 (fun _ => .int 0)) 24 0 (.ref 25)) 26 (fun _ => .int 0)) 24 1 (.ref 26)) 27 (fun _ => .int 0)) 24 2 (.ref 27)) 28 (fun _ => .int 0)) 24 3 (.ref 28))
  refine r.2.2.2.2.2 36 _ (29, bf_up (bf_fill (bf_up (bf_fill (bf_up (bf_fill (bf_up (bf_fill (h0) 25 (fun _ => .int 0)) 24 0 (.ref 25)) 26 (fun _ => .int 0)) 24 1 (.ref 26)) 27 (fun _ => .int 0)) 24 2 (.ref 27)) 28 (fun _ => .int 0)) 24 3 (.ref 28)) dX1_init_36 rfl rfl ⟨rfl, _, rfl, (FR_up (by decide) (FR_fl (by decide) (FR_up (by decide) (FR_fl (by decide) (FR_up (by decide) (FR_fl (by decide) (FR_up (by decide) (FR_fl (by decide) FR_0)))))))), fun b h1 h2 j hj => ?_⟩
  rcases (show b = 24 ∨ b = 25 ∨ b = 26 ∨ b = 27 ∨ b = 28 by omega) with rfl | rfl | rfl | rfl | rfl
  · have hj2 : j < 6 := hj
    rcases (show j = 0 ∨ j = 1 ∨ j = 2 ∨ j = 3 ∨ j = 4 ∨ j = 5 by omega) with rfl | rfl | rfl | rfl | rfl | rfl
    · exact ((up_o (by decide) (fl_o (by decide) (up_o (by decide) (fl_o (by decide) (up_o (by decide) (fl_o (by decide) up_s))))))).trans rfl
    · exact ((up_o (by decide) (fl_o (by decide) (up_o (by decide) (fl_o (by decide) up_s))))).trans rfl
    · exact ((up_o (by decide) (fl_o (by decide) up_s))).trans rfl
    · exact (up_s).trans rfl
    · exact ((up_o (by decide) (fl_o (by decide) (up_o (by decide) (fl_o (by decide) (up_o (by decide) (fl_o (by decide) (up_o (by decide) (fl_o (by decide) (hz 4)))))))))).trans rfl
    · exact ((up_o (by decide) (fl_o (by decide) (up_o (by decide) (fl_o (by decide) (up_o (by decide) (fl_o (by decide) (up_o (by decide) (fl_o (by decide) (hz 5)))))))))).trans rfl
  · exact ZR_m (n := 6) rfl (by decide) (fun _ => rfl) (ZR_up (by decide) (ZR_fl (by decide) (ZR_up (by decide) (ZR_fl (by decide) (ZR_up (by decide) (ZR_fl (by decide) (ZR_up (by decide) ZR_s))))))) j hj
  · exact ZR_m (n := 36) rfl (by decide) (fun _ => rfl) (ZR_up (by decide) (ZR_fl (by decide) (ZR_up (by decide) (ZR_fl (by decide) (ZR_up (by decide) ZR_s))))) j hj
  · exact ZR_m (n := 6) rfl (by decide) (fun _ => rfl) (ZR_up (by decide) (ZR_fl (by decide) (ZR_up (by decide) ZR_s))) j hj
  · exact ZR_m (n := 6) rfl (by decide) (fun _ => rfl) (ZR_up (by decide) ZR_s) j hj
theorem c_X5_init29 {d : Nat} (hd : 1 ≤ d) {h0 : bf_Hp} (hz : ∀ j, h0 29 j = defaultValue (tyX5 j)) : bf_Cl d mX5_init [.ref 29] (30, h0) 31 (bf_Pi 29 31 h0) := by
  refine ci_of 0 hd mo_X5_init (show 30 ≤ 31 by decide) (by decide) (Nat.le_of_ble_eq_true rfl) (fun e he J r => ?_)
  show J 0 [some (.ref 29)] [] (30, h0)
  refine bf_aload_n r.1 dX5_init_0 rfl ?_
  refine r.2.1.2.2.2.1 1 [some (.ref 29)] [] (30, h0) 3 29 dX5_init_1 lw_X5_3 (Nat.le_of_ble_eq_true rfl) ?_
  show J 4 [some (.ref 29)] [] (30, h0)
  refine bf_aload_n r.1 dX5_init_4 rfl ?_
  refine bf_bipush r.1 (v := nI 60) dX5_init_5 rfl ?_
  refine r.2.1.2.2.2.2.2.1 7 [some (.ref 29)] [.ref 29] (30, h0) 60 (nI 60) dX5_init_7 rfl (by decide) rfl (show 30 < 31 by decide) ?_
  show J 9 [some (.ref 29)] [.ref 30, .ref 29] (31, bf_fill (h0) 30 (fun _ => .int 0))
  refine r.2.2.1 9 [some (.ref 29)] [] (31, bf_fill (h0) 30 (fun _ => .int 0)) 9 5 0 29 30 dX5_init_9 ff_X5_9 rfl rfl (show 29 < 31 by decide) ?_
  show J 12 [some (.ref 29)] [] (31, bf_up (bf_fill (h0) 30 (fun _ => .int 0)) 29 0 (.ref 30))
  refine bf_aload_n r.1 dX5_init_12 rfl ?_
  refine bf_iconst r.1 (v := -1) dX5_init_13 rfl ?_
  refine bf_put r.1 dX5_init_14 fp_X5_15 rfl (show 29 < 31 by decide) ?_
  show J 17 [some (.ref 29)] [] (31, bf_up (bf_up (bf_fill (h0) 30 (fun _ => .int 0)) 29 0 (.ref 30)) 29 1 (.int (-1)))
  refine r.2.2.2.2.2 17 _ (31, bf_up (bf_up (bf_fill (h0) 30 (fun _ => .int 0)) 29 0 (.ref 30)) 29 1 (.int (-1))) dX5_init_17 rfl rfl ⟨rfl, _, rfl, (FR_up (by decide) (FR_up (by decide) (FR_fl (by decide) FR_0))), fun b h1 h2 j hj => ?_⟩
  rcases (show b = 29 ∨ b = 30 by omega) with rfl | rfl
  · have hj2 : j < 3 := hj
    rcases (show j = 0 ∨ j = 1 ∨ j = 2 by omega) with rfl | rfl | rfl
    · exact ((up_o (by decide) up_s)).trans rfl
    · exact (up_s).trans rfl
    · exact ((up_o (by decide) (up_o (by decide) (fl_o (by decide) (hz 2))))).trans rfl
  · exact ZR_m (n := 60) rfl (by decide) (fun _ => rfl) (ZR_up (by decide) (ZR_up (by decide) ZR_s)) j hj
theorem c_X5_init31 {d : Nat} (hd : 1 ≤ d) {h0 : bf_Hp} (hz : ∀ j, h0 31 j = defaultValue (tyX5 j)) : bf_Cl d mX5_init [.ref 31] (32, h0) 33 (bf_Pi 31 33 h0) := by
  refine ci_of 0 hd mo_X5_init (show 32 ≤ 33 by decide) (by decide) (Nat.le_of_ble_eq_true rfl) (fun e he J r => ?_)
  show J 0 [some (.ref 31)] [] (32, h0)
  refine bf_aload_n r.1 dX5_init_0 rfl ?_
  refine r.2.1.2.2.2.1 1 [some (.ref 31)] [] (32, h0) 3 31 dX5_init_1 lw_X5_3 (Nat.le_of_ble_eq_true rfl) ?_
  show J 4 [some (.ref 31)] [] (32, h0)
  refine bf_aload_n r.1 dX5_init_4 rfl ?_
  refine bf_bipush r.1 (v := nI 60) dX5_init_5 rfl ?_
  refine r.2.1.2.2.2.2.2.1 7 [some (.ref 31)] [.ref 31] (32, h0) 60 (nI 60) dX5_init_7 rfl (by decide) rfl (show 32 < 33 by decide) ?_
  show J 9 [some (.ref 31)] [.ref 32, .ref 31] (33, bf_fill (h0) 32 (fun _ => .int 0))
  refine r.2.2.1 9 [some (.ref 31)] [] (33, bf_fill (h0) 32 (fun _ => .int 0)) 9 5 0 31 32 dX5_init_9 ff_X5_9 rfl rfl (show 31 < 33 by decide) ?_
  show J 12 [some (.ref 31)] [] (33, bf_up (bf_fill (h0) 32 (fun _ => .int 0)) 31 0 (.ref 32))
  refine bf_aload_n r.1 dX5_init_12 rfl ?_
  refine bf_iconst r.1 (v := -1) dX5_init_13 rfl ?_
  refine bf_put r.1 dX5_init_14 fp_X5_15 rfl (show 31 < 33 by decide) ?_
  show J 17 [some (.ref 31)] [] (33, bf_up (bf_up (bf_fill (h0) 32 (fun _ => .int 0)) 31 0 (.ref 32)) 31 1 (.int (-1)))
  refine r.2.2.2.2.2 17 _ (33, bf_up (bf_up (bf_fill (h0) 32 (fun _ => .int 0)) 31 0 (.ref 32)) 31 1 (.int (-1))) dX5_init_17 rfl rfl ⟨rfl, _, rfl, (FR_up (by decide) (FR_up (by decide) (FR_fl (by decide) FR_0))), fun b h1 h2 j hj => ?_⟩
  rcases (show b = 31 ∨ b = 32 by omega) with rfl | rfl
  · have hj2 : j < 3 := hj
    rcases (show j = 0 ∨ j = 1 ∨ j = 2 by omega) with rfl | rfl | rfl
    · exact ((up_o (by decide) up_s)).trans rfl
    · exact (up_s).trans rfl
    · exact ((up_o (by decide) (up_o (by decide) (fl_o (by decide) (hz 2))))).trans rfl
  · exact ZR_m (n := 60) rfl (by decide) (fun _ => rfl) (ZR_up (by decide) (ZR_up (by decide) ZR_s)) j hj
theorem c_X5_init33 {d : Nat} (hd : 1 ≤ d) {h0 : bf_Hp} (hz : ∀ j, h0 33 j = defaultValue (tyX5 j)) : bf_Cl d mX5_init [.ref 33] (34, h0) 35 (bf_Pi 33 35 h0) := by
  refine ci_of 0 hd mo_X5_init (show 34 ≤ 35 by decide) (by decide) (Nat.le_of_ble_eq_true rfl) (fun e he J r => ?_)
  show J 0 [some (.ref 33)] [] (34, h0)
  refine bf_aload_n r.1 dX5_init_0 rfl ?_
  refine r.2.1.2.2.2.1 1 [some (.ref 33)] [] (34, h0) 3 33 dX5_init_1 lw_X5_3 (Nat.le_of_ble_eq_true rfl) ?_
  show J 4 [some (.ref 33)] [] (34, h0)
  refine bf_aload_n r.1 dX5_init_4 rfl ?_
  refine bf_bipush r.1 (v := nI 60) dX5_init_5 rfl ?_
  refine r.2.1.2.2.2.2.2.1 7 [some (.ref 33)] [.ref 33] (34, h0) 60 (nI 60) dX5_init_7 rfl (by decide) rfl (show 34 < 35 by decide) ?_
  show J 9 [some (.ref 33)] [.ref 34, .ref 33] (35, bf_fill (h0) 34 (fun _ => .int 0))
  refine r.2.2.1 9 [some (.ref 33)] [] (35, bf_fill (h0) 34 (fun _ => .int 0)) 9 5 0 33 34 dX5_init_9 ff_X5_9 rfl rfl (show 33 < 35 by decide) ?_
  show J 12 [some (.ref 33)] [] (35, bf_up (bf_fill (h0) 34 (fun _ => .int 0)) 33 0 (.ref 34))
  refine bf_aload_n r.1 dX5_init_12 rfl ?_
  refine bf_iconst r.1 (v := -1) dX5_init_13 rfl ?_
  refine bf_put r.1 dX5_init_14 fp_X5_15 rfl (show 33 < 35 by decide) ?_
  show J 17 [some (.ref 33)] [] (35, bf_up (bf_up (bf_fill (h0) 34 (fun _ => .int 0)) 33 0 (.ref 34)) 33 1 (.int (-1)))
  refine r.2.2.2.2.2 17 _ (35, bf_up (bf_up (bf_fill (h0) 34 (fun _ => .int 0)) 33 0 (.ref 34)) 33 1 (.int (-1))) dX5_init_17 rfl rfl ⟨rfl, _, rfl, (FR_up (by decide) (FR_up (by decide) (FR_fl (by decide) FR_0))), fun b h1 h2 j hj => ?_⟩
  rcases (show b = 33 ∨ b = 34 by omega) with rfl | rfl
  · have hj2 : j < 3 := hj
    rcases (show j = 0 ∨ j = 1 ∨ j = 2 by omega) with rfl | rfl | rfl
    · exact ((up_o (by decide) up_s)).trans rfl
    · exact (up_s).trans rfl
    · exact ((up_o (by decide) (up_o (by decide) (fl_o (by decide) (hz 2))))).trans rfl
  · exact ZR_m (n := 60) rfl (by decide) (fun _ => rfl) (ZR_up (by decide) (ZR_up (by decide) ZR_s)) j hj
theorem c_X5_init35 {d : Nat} (hd : 1 ≤ d) {h0 : bf_Hp} (hz : ∀ j, h0 35 j = defaultValue (tyX5 j)) : bf_Cl d mX5_init [.ref 35] (36, h0) 37 (bf_Pi 35 37 h0) := by
  refine ci_of 0 hd mo_X5_init (show 36 ≤ 37 by decide) (by decide) (Nat.le_of_ble_eq_true rfl) (fun e he J r => ?_)
  show J 0 [some (.ref 35)] [] (36, h0)
  refine bf_aload_n r.1 dX5_init_0 rfl ?_
  refine r.2.1.2.2.2.1 1 [some (.ref 35)] [] (36, h0) 3 35 dX5_init_1 lw_X5_3 (Nat.le_of_ble_eq_true rfl) ?_
  show J 4 [some (.ref 35)] [] (36, h0)
  refine bf_aload_n r.1 dX5_init_4 rfl ?_
  refine bf_bipush r.1 (v := nI 60) dX5_init_5 rfl ?_
  refine r.2.1.2.2.2.2.2.1 7 [some (.ref 35)] [.ref 35] (36, h0) 60 (nI 60) dX5_init_7 rfl (by decide) rfl (show 36 < 37 by decide) ?_
  show J 9 [some (.ref 35)] [.ref 36, .ref 35] (37, bf_fill (h0) 36 (fun _ => .int 0))
  refine r.2.2.1 9 [some (.ref 35)] [] (37, bf_fill (h0) 36 (fun _ => .int 0)) 9 5 0 35 36 dX5_init_9 ff_X5_9 rfl rfl (show 35 < 37 by decide) ?_
  show J 12 [some (.ref 35)] [] (37, bf_up (bf_fill (h0) 36 (fun _ => .int 0)) 35 0 (.ref 36))
  refine bf_aload_n r.1 dX5_init_12 rfl ?_
  refine bf_iconst r.1 (v := -1) dX5_init_13 rfl ?_
  refine bf_put r.1 dX5_init_14 fp_X5_15 rfl (show 35 < 37 by decide) ?_
  show J 17 [some (.ref 35)] [] (37, bf_up (bf_up (bf_fill (h0) 36 (fun _ => .int 0)) 35 0 (.ref 36)) 35 1 (.int (-1)))
  refine r.2.2.2.2.2 17 _ (37, bf_up (bf_up (bf_fill (h0) 36 (fun _ => .int 0)) 35 0 (.ref 36)) 35 1 (.int (-1))) dX5_init_17 rfl rfl ⟨rfl, _, rfl, (FR_up (by decide) (FR_up (by decide) (FR_fl (by decide) FR_0))), fun b h1 h2 j hj => ?_⟩
  rcases (show b = 35 ∨ b = 36 by omega) with rfl | rfl
  · have hj2 : j < 3 := hj
    rcases (show j = 0 ∨ j = 1 ∨ j = 2 by omega) with rfl | rfl | rfl
    · exact ((up_o (by decide) up_s)).trans rfl
    · exact (up_s).trans rfl
    · exact ((up_o (by decide) (up_o (by decide) (fl_o (by decide) (hz 2))))).trans rfl
  · exact ZR_m (n := 60) rfl (by decide) (fun _ => rfl) (ZR_up (by decide) (ZR_up (by decide) ZR_s)) j hj
theorem c_X2_init {d : Nat} (hd : 4 ≤ d) {h0 : bf_Hp} (hz : ∀ j, h0 2 j = defaultValue (tyX2 j)) : bf_Cl d mX2_init [.ref 2] (3, h0) 18 (bf_Pi 2 18 h0) := by
  refine ci_of 3 hd mo_X2_init (show 3 ≤ 18 by decide) (by decide) (Nat.le_of_ble_eq_true rfl) (fun e he J r => ?_)
  show J 0 [some (.ref 2), none, none] [] (3, h0)
  refine bf_aload_n r.1 dX2_init_0 rfl ?_
  refine r.2.1.2.2.2.1 1 [some (.ref 2), none, none] [] (3, h0) 3 2 dX2_init_1 lw_X2_3 (Nat.le_of_ble_eq_true rfl) ?_
  show J 4 [some (.ref 2), none, none] [] (3, h0)
  refine bf_aload_n r.1 dX2_init_4 rfl ?_
  refine bf_iconst r.1 (v := nI 4) dX2_init_5 rfl ?_
  refine r.2.1.2.2.2.2.2.2.1 6 [some (.ref 2), none, none] [.ref 2] (3, h0) 9 10 4 (nI 4) dX2_init_6 (Or.inl ⟨rfl, lk_X2_9⟩) rfl (by decide) rfl (show 3 < 18 by decide) ?_
  show J 9 [some (.ref 2), none, none] [.ref 3, .ref 2] (4, bf_fill (h0) 3 (fun _ => .null))
  refine r.2.2.1 9 [some (.ref 2), none, none] [] (4, bf_fill (h0) 3 (fun _ => .null)) 11 2 0 2 3 dX2_init_9 ff_X2_11 rfl rfl (show 2 < 4 by decide) ?_
  show J 12 [some (.ref 2), none, none] [] (4, bf_up (bf_fill (h0) 3 (fun _ => .null)) 2 0 (.ref 3))
  refine r.2.1.2.2.2.2.1 12 [some (.ref 2), none, none] [] (4, bf_up (bf_fill (h0) 3 (fun _ => .null)) 2 0 (.ref 3)) 17 0 1 (fun j => defaultValue (tyX0 j)) dX2_init_12 nw_X2_17 rfl (show 4 < 18 by decide) df_X0 (fun j => dv_ok _) ?_
  show J 15 [some (.ref 2), none, none] [.ref 4] (5, bf_fill (bf_up (bf_fill (h0) 3 (fun _ => .null)) 2 0 (.ref 3)) 4 (fun j => defaultValue (tyX0 j)))
  refine bf_dup r.1 dX2_init_15 rfl ?_
  refine r.2.1.2.2.1 16 [some (.ref 2), none, none] [.ref 4] _ (5, bf_fill (bf_up (bf_fill (h0) 3 (fun _ => .null)) 2 0 (.ref 3)) 4 (fun j => defaultValue (tyX0 j))) 19 mX0_init 0 4 [] 6 _ dX2_init_16 li_X2_19 mv_X0_init rfl (Nat.le_of_ble_eq_true rfl) rfl (c_X0_init (by omega) (h0 := bf_fill (bf_up (bf_fill (h0) 3 (fun _ => .null)) 2 0 (.ref 3)) 4 (fun j => defaultValue (tyX0 j))) (fun j => fl_s rfl)) (by decide) (fun res G819 hq819 hg819 => ?_)
  obtain ⟨rfl, h819, rfl, hr819, hf819⟩ := hq819
  show J 19 [some (.ref 2), none, none] [.ref 4] (6, h819)
  refine bf_astore_n r.1 (L2 := [some (.ref 2), some (.ref 4), none]) dX2_init_19 rfl ?_
  refine bf_iconst r.1 (v := nI 0) dX2_init_20 rfl ?_
  refine bf_istore_n r.1 (L2 := [some (.ref 2), some (.ref 4), some (.int (nI 0))]) dX2_init_21 rfl ?_
  refine bf_iload_n r.1 dX2_init_22 rfl ?_
  refine bf_iconst r.1 (v := nI 4) dX2_init_23 rfl ?_
  refine bf_icmp_ge r.1 (tgt := 47) dX2_init_24 (by decide) (fun c820 => ?_) (fun c820 => ?_)
  · exact absurd c820 (by decide)
  refine bf_aload_n r.1 dX2_init_27 rfl ?_
  refine bf_get r.1 dX2_init_28 fl_X2_11 rfl (show 2 < 6 by decide) ?_
  refine eq_v (w := .ref 3) (show (h819) 2 0 = .ref 3 from ((hr819 _ (by decide) _).trans (fl_o (by decide) up_s))) ?_
  refine bf_iload_n r.1 dX2_init_31 rfl ?_
  refine r.2.1.2.2.2.2.1 32 [some (.ref 2), some (.ref 4), some (.int (nI 0))] [.int (nI 0), .ref 3] (6, h819) 9 3 6 (fun j => defaultValue (tyX3 j)) dX2_init_32 nw_X2_9 rfl (show 6 < 18 by decide) df_X3 (fun j => dv_ok _) ?_
  show J 35 [some (.ref 2), some (.ref 4), some (.int (nI 0))] [.ref 6, .int (nI 0), .ref 3] (7, bf_fill (h819) 6 (fun j => defaultValue (tyX3 j)))
  refine bf_dup r.1 dX2_init_35 rfl ?_
  refine bf_aload_n r.1 dX2_init_36 rfl ?_
  refine r.2.1.2.2.1 37 [some (.ref 2), some (.ref 4), some (.int (nI 0))] [.ref 6, .int (nI 0), .ref 3] _ (7, bf_fill (h819) 6 (fun j => defaultValue (tyX3 j))) 20 mX3_init 1 6 [.ref 4] 9 _ dX2_init_37 li_X2_20 mv_X3_init rfl (Nat.le_of_ble_eq_true rfl) rfl (c_X3_init6 (by omega) (h0 := bf_fill (h819) 6 (fun j => defaultValue (tyX3 j))) (fun j => fl_s rfl)) (by decide) (fun res G821 hq821 hg821 => ?_)
  obtain ⟨rfl, h821, rfl, hr821, hf821⟩ := hq821
  show J 40 [some (.ref 2), some (.ref 4), some (.int (nI 0))] [.ref 6, .int (nI 0), .ref 3] (9, h821)
  refine r.2.1.2.2.2.2.2.2.2.1 40 [some (.ref 2), some (.ref 4), some (.int (nI 0))] [] (9, h821) 3 6 10 4 (nI 0) dX2_init_40 rfl (Or.inl ⟨rfl, rfl⟩) (show 3 < 9 by decide) (show 6 < 9 by decide) (vp_in_nI (by decide) (by decide)) ?_
  show J 41 [some (.ref 2), some (.ref 4), some (.int (nI 0))] [] (9, bf_up (h821) 3 0 (.ref 6))
  refine bf_iinc r.1 (v := nI 1) (L2 := [some (.ref 2), some (.ref 4), some (.int (nI 1))]) dX2_init_41 rfl (by decide) rfl ?_
  refine bf_goto r.1 (tgt := 22) dX2_init_44 (by decide) ?_
  refine bf_iload_n r.1 dX2_init_22 rfl ?_
  refine bf_iconst r.1 (v := nI 4) dX2_init_23 rfl ?_
  refine bf_icmp_ge r.1 (tgt := 47) dX2_init_24 (by decide) (fun c822 => ?_) (fun c822 => ?_)
  · exact absurd c822 (by decide)
  refine bf_aload_n r.1 dX2_init_27 rfl ?_
  refine bf_get r.1 dX2_init_28 fl_X2_11 rfl (show 2 < 9 by decide) ?_
  refine eq_v (w := .ref 3) (show (bf_up (h821) 3 0 (.ref 6)) 2 0 = .ref 3 from (up_o (by decide) ((hr821 _ (by decide) _).trans (fl_o (by decide) ((hr819 _ (by decide) _).trans (fl_o (by decide) up_s)))))) ?_
  refine bf_iload_n r.1 dX2_init_31 rfl ?_
  refine r.2.1.2.2.2.2.1 32 [some (.ref 2), some (.ref 4), some (.int (nI 1))] [.int (nI 1), .ref 3] (9, bf_up (h821) 3 0 (.ref 6)) 9 3 6 (fun j => defaultValue (tyX3 j)) dX2_init_32 nw_X2_9 rfl (show 9 < 18 by decide) df_X3 (fun j => dv_ok _) ?_
  show J 35 [some (.ref 2), some (.ref 4), some (.int (nI 1))] [.ref 9, .int (nI 1), .ref 3] (10, bf_fill (bf_up (h821) 3 0 (.ref 6)) 9 (fun j => defaultValue (tyX3 j)))
  refine bf_dup r.1 dX2_init_35 rfl ?_
  refine bf_aload_n r.1 dX2_init_36 rfl ?_
  refine r.2.1.2.2.1 37 [some (.ref 2), some (.ref 4), some (.int (nI 1))] [.ref 9, .int (nI 1), .ref 3] _ (10, bf_fill (bf_up (h821) 3 0 (.ref 6)) 9 (fun j => defaultValue (tyX3 j))) 20 mX3_init 1 9 [.ref 4] 12 _ dX2_init_37 li_X2_20 mv_X3_init rfl (Nat.le_of_ble_eq_true rfl) rfl (c_X3_init9 (by omega) (h0 := bf_fill (bf_up (h821) 3 0 (.ref 6)) 9 (fun j => defaultValue (tyX3 j))) (fun j => fl_s rfl)) (by decide) (fun res G823 hq823 hg823 => ?_)
  obtain ⟨rfl, h823, rfl, hr823, hf823⟩ := hq823
  show J 40 [some (.ref 2), some (.ref 4), some (.int (nI 1))] [.ref 9, .int (nI 1), .ref 3] (12, h823)
  refine r.2.1.2.2.2.2.2.2.2.1 40 [some (.ref 2), some (.ref 4), some (.int (nI 1))] [] (12, h823) 3 9 10 4 (nI 1) dX2_init_40 rfl (Or.inl ⟨rfl, rfl⟩) (show 3 < 12 by decide) (show 9 < 12 by decide) (vp_in_nI (by decide) (by decide)) ?_
  show J 41 [some (.ref 2), some (.ref 4), some (.int (nI 1))] [] (12, bf_up (h823) 3 1 (.ref 9))
  refine bf_iinc r.1 (v := nI 2) (L2 := [some (.ref 2), some (.ref 4), some (.int (nI 2))]) dX2_init_41 rfl (by decide) rfl ?_
  refine bf_goto r.1 (tgt := 22) dX2_init_44 (by decide) ?_
  refine bf_iload_n r.1 dX2_init_22 rfl ?_
  refine bf_iconst r.1 (v := nI 4) dX2_init_23 rfl ?_
  refine bf_icmp_ge r.1 (tgt := 47) dX2_init_24 (by decide) (fun c824 => ?_) (fun c824 => ?_)
  · exact absurd c824 (by decide)
  refine bf_aload_n r.1 dX2_init_27 rfl ?_
  refine bf_get r.1 dX2_init_28 fl_X2_11 rfl (show 2 < 12 by decide) ?_
  refine eq_v (w := .ref 3) (show (bf_up (h823) 3 1 (.ref 9)) 2 0 = .ref 3 from (up_o (by decide) ((hr823 _ (by decide) _).trans (fl_o (by decide) (up_o (by decide) ((hr821 _ (by decide) _).trans (fl_o (by decide) ((hr819 _ (by decide) _).trans (fl_o (by decide) up_s))))))))) ?_
  refine bf_iload_n r.1 dX2_init_31 rfl ?_
  refine r.2.1.2.2.2.2.1 32 [some (.ref 2), some (.ref 4), some (.int (nI 2))] [.int (nI 2), .ref 3] (12, bf_up (h823) 3 1 (.ref 9)) 9 3 6 (fun j => defaultValue (tyX3 j)) dX2_init_32 nw_X2_9 rfl (show 12 < 18 by decide) df_X3 (fun j => dv_ok _) ?_
  show J 35 [some (.ref 2), some (.ref 4), some (.int (nI 2))] [.ref 12, .int (nI 2), .ref 3] (13, bf_fill (bf_up (h823) 3 1 (.ref 9)) 12 (fun j => defaultValue (tyX3 j)))
  refine bf_dup r.1 dX2_init_35 rfl ?_
  refine bf_aload_n r.1 dX2_init_36 rfl ?_
  refine r.2.1.2.2.1 37 [some (.ref 2), some (.ref 4), some (.int (nI 2))] [.ref 12, .int (nI 2), .ref 3] _ (13, bf_fill (bf_up (h823) 3 1 (.ref 9)) 12 (fun j => defaultValue (tyX3 j))) 20 mX3_init 1 12 [.ref 4] 15 _ dX2_init_37 li_X2_20 mv_X3_init rfl (Nat.le_of_ble_eq_true rfl) rfl (c_X3_init12 (by omega) (h0 := bf_fill (bf_up (h823) 3 1 (.ref 9)) 12 (fun j => defaultValue (tyX3 j))) (fun j => fl_s rfl)) (by decide) (fun res G825 hq825 hg825 => ?_)
  obtain ⟨rfl, h825, rfl, hr825, hf825⟩ := hq825
  show J 40 [some (.ref 2), some (.ref 4), some (.int (nI 2))] [.ref 12, .int (nI 2), .ref 3] (15, h825)
  refine r.2.1.2.2.2.2.2.2.2.1 40 [some (.ref 2), some (.ref 4), some (.int (nI 2))] [] (15, h825) 3 12 10 4 (nI 2) dX2_init_40 rfl (Or.inl ⟨rfl, rfl⟩) (show 3 < 15 by decide) (show 12 < 15 by decide) (vp_in_nI (by decide) (by decide)) ?_
  show J 41 [some (.ref 2), some (.ref 4), some (.int (nI 2))] [] (15, bf_up (h825) 3 2 (.ref 12))
  refine bf_iinc r.1 (v := nI 3) (L2 := [some (.ref 2), some (.ref 4), some (.int (nI 3))]) dX2_init_41 rfl (by decide) rfl ?_
  refine bf_goto r.1 (tgt := 22) dX2_init_44 (by decide) ?_
  refine bf_iload_n r.1 dX2_init_22 rfl ?_
  refine bf_iconst r.1 (v := nI 4) dX2_init_23 rfl ?_
  refine bf_icmp_ge r.1 (tgt := 47) dX2_init_24 (by decide) (fun c826 => ?_) (fun c826 => ?_)
  · exact absurd c826 (by decide)
  refine bf_aload_n r.1 dX2_init_27 rfl ?_
  refine bf_get r.1 dX2_init_28 fl_X2_11 rfl (show 2 < 15 by decide) ?_
  refine eq_v (w := .ref 3) (show (bf_up (h825) 3 2 (.ref 12)) 2 0 = .ref 3 from (up_o (by decide) ((hr825 _ (by decide) _).trans (fl_o (by decide) (up_o (by decide) ((hr823 _ (by decide) _).trans (fl_o (by decide) (up_o (by decide) ((hr821 _ (by decide) _).trans (fl_o (by decide) ((hr819 _ (by decide) _).trans (fl_o (by decide) up_s)))))))))))) ?_
  refine bf_iload_n r.1 dX2_init_31 rfl ?_
  refine r.2.1.2.2.2.2.1 32 [some (.ref 2), some (.ref 4), some (.int (nI 3))] [.int (nI 3), .ref 3] (15, bf_up (h825) 3 2 (.ref 12)) 9 3 6 (fun j => defaultValue (tyX3 j)) dX2_init_32 nw_X2_9 rfl (show 15 < 18 by decide) df_X3 (fun j => dv_ok _) ?_
  show J 35 [some (.ref 2), some (.ref 4), some (.int (nI 3))] [.ref 15, .int (nI 3), .ref 3] (16, bf_fill (bf_up (h825) 3 2 (.ref 12)) 15 (fun j => defaultValue (tyX3 j)))
  refine bf_dup r.1 dX2_init_35 rfl ?_
  refine bf_aload_n r.1 dX2_init_36 rfl ?_
  refine r.2.1.2.2.1 37 [some (.ref 2), some (.ref 4), some (.int (nI 3))] [.ref 15, .int (nI 3), .ref 3] _ (16, bf_fill (bf_up (h825) 3 2 (.ref 12)) 15 (fun j => defaultValue (tyX3 j))) 20 mX3_init 1 15 [.ref 4] 18 _ dX2_init_37 li_X2_20 mv_X3_init rfl (Nat.le_of_ble_eq_true rfl) rfl (c_X3_init15 (by omega) (h0 := bf_fill (bf_up (h825) 3 2 (.ref 12)) 15 (fun j => defaultValue (tyX3 j))) (fun j => fl_s rfl)) (by decide) (fun res G827 hq827 hg827 => ?_)
  obtain ⟨rfl, h827, rfl, hr827, hf827⟩ := hq827
  show J 40 [some (.ref 2), some (.ref 4), some (.int (nI 3))] [.ref 15, .int (nI 3), .ref 3] (18, h827)
  refine r.2.1.2.2.2.2.2.2.2.1 40 [some (.ref 2), some (.ref 4), some (.int (nI 3))] [] (18, h827) 3 15 10 4 (nI 3) dX2_init_40 rfl (Or.inl ⟨rfl, rfl⟩) (show 3 < 18 by decide) (show 15 < 18 by decide) (vp_in_nI (by decide) (by decide)) ?_
  show J 41 [some (.ref 2), some (.ref 4), some (.int (nI 3))] [] (18, bf_up (h827) 3 3 (.ref 15))
  refine bf_iinc r.1 (v := nI 4) (L2 := [some (.ref 2), some (.ref 4), some (.int (nI 4))]) dX2_init_41 rfl (by decide) rfl ?_
  refine bf_goto r.1 (tgt := 22) dX2_init_44 (by decide) ?_
  refine bf_iload_n r.1 dX2_init_22 rfl ?_
  refine bf_iconst r.1 (v := nI 4) dX2_init_23 rfl ?_
  refine bf_icmp_ge r.1 (tgt := 47) dX2_init_24 (by decide) (fun c828 => ?_) (fun c828 => ?_)
  rotate_left
  · exact absurd (by decide) c828
  refine r.2.2.2.2.2 47 _ (18, bf_up (h827) 3 3 (.ref 15)) dX2_init_47 rfl rfl ⟨rfl, _, rfl, (FR_up (by decide) (FR_cl (by decide) (FR_fl (by decide) (FR_up (by decide) (FR_cl (by decide) (FR_fl (by decide) (FR_up (by decide) (FR_cl (by decide) (FR_fl (by decide) (FR_up (by decide) (FR_cl (by decide) (FR_fl (by decide) (FR_cl (by decide) (FR_fl (by decide) (FR_up (by decide) (FR_fl (by decide) FR_0))) hr819)) hr821))) hr823))) hr825))) hr827)), fun b h1 h2 j hj => ?_⟩
  by_cases hb : 4 ≤ b
  · exact (FIN_up (by decide) (FIN_cl (FIN_fl (FIN_up (by decide) (FIN_cl (FIN_fl (FIN_up (by decide) (FIN_cl (FIN_fl (FIN_up (by decide) (FIN_cl (FIN_fl (FIN_cl (FIN_fl (FIN_up (by decide) FIN_0)) (hr819) hf819)) (hr821) hf821))) (hr823) hf823))) (hr825) hf825))) (hr827) hf827)) b hb h2 j hj
  · rcases (show b = 2 ∨ b = 3 by omega) with rfl | rfl
    · have hj2 : j < 5 := hj
      rcases (show j = 0 ∨ j = 1 ∨ j = 2 ∨ j = 3 ∨ j = 4 by omega) with rfl | rfl | rfl | rfl | rfl
      · exact ((up_o (by decide) ((hr827 _ (by decide) _).trans (fl_o (by decide) (up_o (by decide) ((hr825 _ (by decide) _).trans (fl_o (by decide) (up_o (by decide) ((hr823 _ (by decide) _).trans (fl_o (by decide) (up_o (by decide) ((hr821 _ (by decide) _).trans (fl_o (by decide) ((hr819 _ (by decide) _).trans (fl_o (by decide) up_s))))))))))))))).trans rfl
      · exact ((up_o (by decide) ((hr827 _ (by decide) _).trans (fl_o (by decide) (up_o (by decide) ((hr825 _ (by decide) _).trans (fl_o (by decide) (up_o (by decide) ((hr823 _ (by decide) _).trans (fl_o (by decide) (up_o (by decide) ((hr821 _ (by decide) _).trans (fl_o (by decide) ((hr819 _ (by decide) _).trans (fl_o (by decide) (up_o (by decide) (fl_o (by decide) (hz 1)))))))))))))))))).trans rfl
      · exact ((up_o (by decide) ((hr827 _ (by decide) _).trans (fl_o (by decide) (up_o (by decide) ((hr825 _ (by decide) _).trans (fl_o (by decide) (up_o (by decide) ((hr823 _ (by decide) _).trans (fl_o (by decide) (up_o (by decide) ((hr821 _ (by decide) _).trans (fl_o (by decide) ((hr819 _ (by decide) _).trans (fl_o (by decide) (up_o (by decide) (fl_o (by decide) (hz 2)))))))))))))))))).trans rfl
      · exact ((up_o (by decide) ((hr827 _ (by decide) _).trans (fl_o (by decide) (up_o (by decide) ((hr825 _ (by decide) _).trans (fl_o (by decide) (up_o (by decide) ((hr823 _ (by decide) _).trans (fl_o (by decide) (up_o (by decide) ((hr821 _ (by decide) _).trans (fl_o (by decide) ((hr819 _ (by decide) _).trans (fl_o (by decide) (up_o (by decide) (fl_o (by decide) (hz 3)))))))))))))))))).trans rfl
      · exact ((up_o (by decide) ((hr827 _ (by decide) _).trans (fl_o (by decide) (up_o (by decide) ((hr825 _ (by decide) _).trans (fl_o (by decide) (up_o (by decide) ((hr823 _ (by decide) _).trans (fl_o (by decide) (up_o (by decide) ((hr821 _ (by decide) _).trans (fl_o (by decide) ((hr819 _ (by decide) _).trans (fl_o (by decide) (up_o (by decide) (fl_o (by decide) (hz 4)))))))))))))))))).trans rfl
    · have hj2 : j < 4 := hj
      rcases (show j = 0 ∨ j = 1 ∨ j = 2 ∨ j = 3 by omega) with rfl | rfl | rfl | rfl
      · exact ((up_o (by decide) ((hr827 _ (by decide) _).trans (fl_o (by decide) (up_o (by decide) ((hr825 _ (by decide) _).trans (fl_o (by decide) (up_o (by decide) ((hr823 _ (by decide) _).trans (fl_o (by decide) up_s)))))))))).trans rfl
      · exact ((up_o (by decide) ((hr827 _ (by decide) _).trans (fl_o (by decide) (up_o (by decide) ((hr825 _ (by decide) _).trans (fl_o (by decide) up_s))))))).trans rfl
      · exact ((up_o (by decide) ((hr827 _ (by decide) _).trans (fl_o (by decide) up_s)))).trans rfl
      · exact (up_s).trans rfl
theorem c_X8_init {d : Nat} (hd : 5 ≤ d) {h0 : bf_Hp} (hz : ∀ j, h0 0 j = defaultValue (tyX8 j)) : bf_Cl d mX8_init [.ref 0] (1, h0) 37 (bf_Pi 0 37 h0) := by
  refine ci_of 4 hd mo_X8_init (show 1 ≤ 37 by decide) (by decide) (Nat.le_of_ble_eq_true rfl) (fun e he J r => ?_)
  show J 0 [some (.ref 0), none] [] (1, h0)
  refine bf_aload_n r.1 dX8_init_0 rfl ?_
  refine r.2.1.2.2.2.1 1 [some (.ref 0), none] [] (1, h0) 3 0 dX8_init_1 lw_X8_3 (Nat.le_of_ble_eq_true rfl) ?_
  show J 4 [some (.ref 0), none] [] (1, h0)
  refine bf_aload_n r.1 dX8_init_4 rfl ?_
  refine bf_iconst r.1 (v := nI 4) dX8_init_5 rfl ?_
  refine r.2.1.2.2.2.2.2.2.1 6 [some (.ref 0), none] [.ref 0] (1, h0) 11 11 4 (nI 4) dX8_init_6 (Or.inr ⟨rfl, lk_X8_11⟩) rfl (by decide) rfl (show 1 < 37 by decide) ?_
  show J 9 [some (.ref 0), none] [.ref 1, .ref 0] (2, bf_fill (h0) 1 (fun _ => .null))
  refine r.2.2.1 9 [some (.ref 0), none] [] (2, bf_fill (h0) 1 (fun _ => .null)) 13 7 0 0 1 dX8_init_9 ff_X8_13 rfl rfl (show 0 < 2 by decide) ?_
  show J 12 [some (.ref 0), none] [] (2, bf_up (bf_fill (h0) 1 (fun _ => .null)) 0 0 (.ref 1))
  refine bf_aload_n r.1 dX8_init_12 rfl ?_
  refine r.2.1.2.2.2.2.1 13 [some (.ref 0), none] [.ref 0] (2, bf_up (bf_fill (h0) 1 (fun _ => .null)) 0 0 (.ref 1)) 17 2 5 (fun j => defaultValue (tyX2 j)) dX8_init_13 nw_X8_17 rfl (show 2 < 37 by decide) df_X2 (fun j => dv_ok _) ?_
  show J 16 [some (.ref 0), none] [.ref 2, .ref 0] (3, bf_fill (bf_up (bf_fill (h0) 1 (fun _ => .null)) 0 0 (.ref 1)) 2 (fun j => defaultValue (tyX2 j)))
  refine bf_dup r.1 dX8_init_16 rfl ?_
  refine r.2.1.2.2.1 17 [some (.ref 0), none] [.ref 2, .ref 0] _ (3, bf_fill (bf_up (bf_fill (h0) 1 (fun _ => .null)) 0 0 (.ref 1)) 2 (fun j => defaultValue (tyX2 j))) 19 mX2_init 0 2 [] 18 _ dX8_init_17 li_X8_19 mv_X2_init rfl (Nat.le_of_ble_eq_true rfl) rfl (c_X2_init (by omega) (h0 := bf_fill (bf_up (bf_fill (h0) 1 (fun _ => .null)) 0 0 (.ref 1)) 2 (fun j => defaultValue (tyX2 j))) (fun j => fl_s rfl)) (by decide) (fun res G829 hq829 hg829 => ?_)
  obtain ⟨rfl, h829, rfl, hr829, hf829⟩ := hq829
  show J 20 [some (.ref 0), none] [.ref 2, .ref 0] (18, h829)
  refine r.2.2.1 20 [some (.ref 0), none] [] (18, h829) 20 7 1 0 2 dX8_init_20 ff_X8_20 rfl rfl (show 0 < 18 by decide) ?_
  show J 23 [some (.ref 0), none] [] (18, bf_up (h829) 0 1 (.ref 2))
  refine bf_aload_n r.1 dX8_init_23 rfl ?_
  refine r.2.1.2.2.2.2.1 24 [some (.ref 0), none] [.ref 0] (18, bf_up (h829) 0 1 (.ref 2)) 24 4 4 (fun j => defaultValue (tyX4 j)) dX8_init_24 nw_X8_24 rfl (show 18 < 37 by decide) df_X4 (fun j => dv_ok _) ?_
  show J 27 [some (.ref 0), none] [.ref 18, .ref 0] (19, bf_fill (bf_up (h829) 0 1 (.ref 2)) 18 (fun j => defaultValue (tyX4 j)))
  refine bf_dup r.1 dX8_init_27 rfl ?_
  refine r.2.1.2.2.1 28 [some (.ref 0), none] [.ref 18, .ref 0] _ (19, bf_fill (bf_up (h829) 0 1 (.ref 2)) 18 (fun j => defaultValue (tyX4 j))) 26 mX4_init 0 18 [] 22 _ dX8_init_28 li_X8_26 mv_X4_init rfl (Nat.le_of_ble_eq_true rfl) rfl (c_X4_init (by omega) (h0 := bf_fill (bf_up (h829) 0 1 (.ref 2)) 18 (fun j => defaultValue (tyX4 j))) (fun j => fl_s rfl)) (by decide) (fun res G830 hq830 hg830 => ?_)
  obtain ⟨rfl, h830, rfl, hr830, hf830⟩ := hq830
  show J 31 [some (.ref 0), none] [.ref 18, .ref 0] (22, h830)
  refine r.2.2.1 31 [some (.ref 0), none] [] (22, h830) 27 7 2 0 18 dX8_init_31 ff_X8_27 rfl rfl (show 0 < 22 by decide) ?_
  show J 34 [some (.ref 0), none] [] (22, bf_up (h830) 0 2 (.ref 18))
  refine bf_aload_n r.1 dX8_init_34 rfl ?_
  refine r.2.1.2.2.2.2.1 35 [some (.ref 0), none] [.ref 0] (22, bf_up (h830) 0 2 (.ref 18)) 31 6 2 (fun j => defaultValue (tyX6 j)) dX8_init_35 nw_X8_31 rfl (show 22 < 37 by decide) df_X6 (fun j => dv_ok _) ?_
  show J 38 [some (.ref 0), none] [.ref 22, .ref 0] (23, bf_fill (bf_up (h830) 0 2 (.ref 18)) 22 (fun j => defaultValue (tyX6 j)))
  refine bf_dup r.1 dX8_init_38 rfl ?_
  refine r.2.1.2.2.1 39 [some (.ref 0), none] [.ref 22, .ref 0] _ (23, bf_fill (bf_up (h830) 0 2 (.ref 18)) 22 (fun j => defaultValue (tyX6 j))) 33 mX6_init 0 22 [] 24 _ dX8_init_39 li_X8_33 mv_X6_init rfl (Nat.le_of_ble_eq_true rfl) rfl (c_X6_init (by omega) (h0 := bf_fill (bf_up (h830) 0 2 (.ref 18)) 22 (fun j => defaultValue (tyX6 j))) (fun j => fl_s rfl)) (by decide) (fun res G831 hq831 hg831 => ?_)
  obtain ⟨rfl, h831, rfl, hr831, hf831⟩ := hq831
  show J 42 [some (.ref 0), none] [.ref 22, .ref 0] (24, h831)
  refine r.2.2.1 42 [some (.ref 0), none] [] (24, h831) 34 7 3 0 22 dX8_init_42 ff_X8_34 rfl rfl (show 0 < 24 by decide) ?_
  show J 45 [some (.ref 0), none] [] (24, bf_up (h831) 0 3 (.ref 22))
  refine bf_aload_n r.1 dX8_init_45 rfl ?_
  refine r.2.1.2.2.2.2.1 46 [some (.ref 0), none] [.ref 0] (24, bf_up (h831) 0 3 (.ref 22)) 38 1 6 (fun j => defaultValue (tyX1 j)) dX8_init_46 nw_X8_38 rfl (show 24 < 37 by decide) df_X1 (fun j => dv_ok _) ?_
  show J 49 [some (.ref 0), none] [.ref 24, .ref 0] (25, bf_fill (bf_up (h831) 0 3 (.ref 22)) 24 (fun j => defaultValue (tyX1 j)))
  refine bf_dup r.1 dX8_init_49 rfl ?_
  refine r.2.1.2.2.1 50 [some (.ref 0), none] [.ref 24, .ref 0] _ (25, bf_fill (bf_up (h831) 0 3 (.ref 22)) 24 (fun j => defaultValue (tyX1 j))) 40 mX1_init 0 24 [] 29 _ dX8_init_50 li_X8_40 mv_X1_init rfl (Nat.le_of_ble_eq_true rfl) rfl (c_X1_init (by omega) (h0 := bf_fill (bf_up (h831) 0 3 (.ref 22)) 24 (fun j => defaultValue (tyX1 j))) (fun j => fl_s rfl)) (by decide) (fun res G832 hq832 hg832 => ?_)
  obtain ⟨rfl, h832, rfl, hr832, hf832⟩ := hq832
  show J 53 [some (.ref 0), none] [.ref 24, .ref 0] (29, h832)
  refine r.2.2.1 53 [some (.ref 0), none] [] (29, h832) 41 7 4 0 24 dX8_init_53 ff_X8_41 rfl rfl (show 0 < 29 by decide) ?_
  show J 56 [some (.ref 0), none] [] (29, bf_up (h832) 0 4 (.ref 24))
  refine bf_iconst r.1 (v := nI 0) dX8_init_56 rfl ?_
  refine bf_istore_n r.1 (L2 := [some (.ref 0), some (.int (nI 0))]) dX8_init_57 rfl ?_
  refine bf_iload_n r.1 dX8_init_58 rfl ?_
  refine bf_iconst r.1 (v := nI 4) dX8_init_59 rfl ?_
  refine bf_icmp_ge r.1 (tgt := 82) dX8_init_60 (by decide) (fun c833 => ?_) (fun c833 => ?_)
  · exact absurd c833 (by decide)
  refine bf_aload_n r.1 dX8_init_63 rfl ?_
  refine bf_get r.1 dX8_init_64 fl_X8_13 rfl (show 0 < 29 by decide) ?_
  refine eq_v (w := .ref 1) (show (bf_up (h832) 0 4 (.ref 24)) 0 0 = .ref 1 from (up_o (by decide) ((hr832 _ (by decide) _).trans (fl_o (by decide) (up_o (by decide) ((hr831 _ (by decide) _).trans (fl_o (by decide) (up_o (by decide) ((hr830 _ (by decide) _).trans (fl_o (by decide) (up_o (by decide) ((hr829 _ (by decide) _).trans (fl_o (by decide) up_s))))))))))))) ?_
  refine bf_iload_n r.1 dX8_init_67 rfl ?_
  refine r.2.1.2.2.2.2.1 68 [some (.ref 0), some (.int (nI 0))] [.int (nI 0), .ref 1] (29, bf_up (h832) 0 4 (.ref 24)) 11 5 3 (fun j => defaultValue (tyX5 j)) dX8_init_68 nw_X8_11 rfl (show 29 < 37 by decide) df_X5 (fun j => dv_ok _) ?_
  show J 71 [some (.ref 0), some (.int (nI 0))] [.ref 29, .int (nI 0), .ref 1] (30, bf_fill (bf_up (h832) 0 4 (.ref 24)) 29 (fun j => defaultValue (tyX5 j)))
  refine bf_dup r.1 dX8_init_71 rfl ?_
  refine r.2.1.2.2.1 72 [some (.ref 0), some (.int (nI 0))] [.ref 29, .int (nI 0), .ref 1] _ (30, bf_fill (bf_up (h832) 0 4 (.ref 24)) 29 (fun j => defaultValue (tyX5 j))) 45 mX5_init 0 29 [] 31 _ dX8_init_72 li_X8_45 mv_X5_init rfl (Nat.le_of_ble_eq_true rfl) rfl (c_X5_init29 (by omega) (h0 := bf_fill (bf_up (h832) 0 4 (.ref 24)) 29 (fun j => defaultValue (tyX5 j))) (fun j => fl_s rfl)) (by decide) (fun res G834 hq834 hg834 => ?_)
  obtain ⟨rfl, h834, rfl, hr834, hf834⟩ := hq834
  show J 75 [some (.ref 0), some (.int (nI 0))] [.ref 29, .int (nI 0), .ref 1] (31, h834)
  refine r.2.1.2.2.2.2.2.2.2.1 75 [some (.ref 0), some (.int (nI 0))] [] (31, h834) 1 29 11 4 (nI 0) dX8_init_75 rfl (Or.inr ⟨rfl, rfl⟩) (show 1 < 31 by decide) (show 29 < 31 by decide) (vp_in_nI (by decide) (by decide)) ?_
  show J 76 [some (.ref 0), some (.int (nI 0))] [] (31, bf_up (h834) 1 0 (.ref 29))
  refine bf_iinc r.1 (v := nI 1) (L2 := [some (.ref 0), some (.int (nI 1))]) dX8_init_76 rfl (by decide) rfl ?_
  refine bf_goto r.1 (tgt := 58) dX8_init_79 (by decide) ?_
  refine bf_iload_n r.1 dX8_init_58 rfl ?_
  refine bf_iconst r.1 (v := nI 4) dX8_init_59 rfl ?_
  refine bf_icmp_ge r.1 (tgt := 82) dX8_init_60 (by decide) (fun c835 => ?_) (fun c835 => ?_)
  · exact absurd c835 (by decide)
  refine bf_aload_n r.1 dX8_init_63 rfl ?_
  refine bf_get r.1 dX8_init_64 fl_X8_13 rfl (show 0 < 31 by decide) ?_
  refine eq_v (w := .ref 1) (show (bf_up (h834) 1 0 (.ref 29)) 0 0 = .ref 1 from (up_o (by decide) ((hr834 _ (by decide) _).trans (fl_o (by decide) (up_o (by decide) ((hr832 _ (by decide) _).trans (fl_o (by decide) (up_o (by decide) ((hr831 _ (by decide) _).trans (fl_o (by decide) (up_o (by decide) ((hr830 _ (by decide) _).trans (fl_o (by decide) (up_o (by decide) ((hr829 _ (by decide) _).trans (fl_o (by decide) up_s)))))))))))))))) ?_
  refine bf_iload_n r.1 dX8_init_67 rfl ?_
  refine r.2.1.2.2.2.2.1 68 [some (.ref 0), some (.int (nI 1))] [.int (nI 1), .ref 1] (31, bf_up (h834) 1 0 (.ref 29)) 11 5 3 (fun j => defaultValue (tyX5 j)) dX8_init_68 nw_X8_11 rfl (show 31 < 37 by decide) df_X5 (fun j => dv_ok _) ?_
  show J 71 [some (.ref 0), some (.int (nI 1))] [.ref 31, .int (nI 1), .ref 1] (32, bf_fill (bf_up (h834) 1 0 (.ref 29)) 31 (fun j => defaultValue (tyX5 j)))
  refine bf_dup r.1 dX8_init_71 rfl ?_
  refine r.2.1.2.2.1 72 [some (.ref 0), some (.int (nI 1))] [.ref 31, .int (nI 1), .ref 1] _ (32, bf_fill (bf_up (h834) 1 0 (.ref 29)) 31 (fun j => defaultValue (tyX5 j))) 45 mX5_init 0 31 [] 33 _ dX8_init_72 li_X8_45 mv_X5_init rfl (Nat.le_of_ble_eq_true rfl) rfl (c_X5_init31 (by omega) (h0 := bf_fill (bf_up (h834) 1 0 (.ref 29)) 31 (fun j => defaultValue (tyX5 j))) (fun j => fl_s rfl)) (by decide) (fun res G836 hq836 hg836 => ?_)
  obtain ⟨rfl, h836, rfl, hr836, hf836⟩ := hq836
  show J 75 [some (.ref 0), some (.int (nI 1))] [.ref 31, .int (nI 1), .ref 1] (33, h836)
  refine r.2.1.2.2.2.2.2.2.2.1 75 [some (.ref 0), some (.int (nI 1))] [] (33, h836) 1 31 11 4 (nI 1) dX8_init_75 rfl (Or.inr ⟨rfl, rfl⟩) (show 1 < 33 by decide) (show 31 < 33 by decide) (vp_in_nI (by decide) (by decide)) ?_
  show J 76 [some (.ref 0), some (.int (nI 1))] [] (33, bf_up (h836) 1 1 (.ref 31))
  refine bf_iinc r.1 (v := nI 2) (L2 := [some (.ref 0), some (.int (nI 2))]) dX8_init_76 rfl (by decide) rfl ?_
  refine bf_goto r.1 (tgt := 58) dX8_init_79 (by decide) ?_
  refine bf_iload_n r.1 dX8_init_58 rfl ?_
  refine bf_iconst r.1 (v := nI 4) dX8_init_59 rfl ?_
  refine bf_icmp_ge r.1 (tgt := 82) dX8_init_60 (by decide) (fun c837 => ?_) (fun c837 => ?_)
  · exact absurd c837 (by decide)
  refine bf_aload_n r.1 dX8_init_63 rfl ?_
  refine bf_get r.1 dX8_init_64 fl_X8_13 rfl (show 0 < 33 by decide) ?_
  refine eq_v (w := .ref 1) (show (bf_up (h836) 1 1 (.ref 31)) 0 0 = .ref 1 from (up_o (by decide) ((hr836 _ (by decide) _).trans (fl_o (by decide) (up_o (by decide) ((hr834 _ (by decide) _).trans (fl_o (by decide) (up_o (by decide) ((hr832 _ (by decide) _).trans (fl_o (by decide) (up_o (by decide) ((hr831 _ (by decide) _).trans (fl_o (by decide) (up_o (by decide) ((hr830 _ (by decide) _).trans (fl_o (by decide) (up_o (by decide) ((hr829 _ (by decide) _).trans (fl_o (by decide) up_s))))))))))))))))))) ?_
  refine bf_iload_n r.1 dX8_init_67 rfl ?_
  refine r.2.1.2.2.2.2.1 68 [some (.ref 0), some (.int (nI 2))] [.int (nI 2), .ref 1] (33, bf_up (h836) 1 1 (.ref 31)) 11 5 3 (fun j => defaultValue (tyX5 j)) dX8_init_68 nw_X8_11 rfl (show 33 < 37 by decide) df_X5 (fun j => dv_ok _) ?_
  show J 71 [some (.ref 0), some (.int (nI 2))] [.ref 33, .int (nI 2), .ref 1] (34, bf_fill (bf_up (h836) 1 1 (.ref 31)) 33 (fun j => defaultValue (tyX5 j)))
  refine bf_dup r.1 dX8_init_71 rfl ?_
  refine r.2.1.2.2.1 72 [some (.ref 0), some (.int (nI 2))] [.ref 33, .int (nI 2), .ref 1] _ (34, bf_fill (bf_up (h836) 1 1 (.ref 31)) 33 (fun j => defaultValue (tyX5 j))) 45 mX5_init 0 33 [] 35 _ dX8_init_72 li_X8_45 mv_X5_init rfl (Nat.le_of_ble_eq_true rfl) rfl (c_X5_init33 (by omega) (h0 := bf_fill (bf_up (h836) 1 1 (.ref 31)) 33 (fun j => defaultValue (tyX5 j))) (fun j => fl_s rfl)) (by decide) (fun res G838 hq838 hg838 => ?_)
  obtain ⟨rfl, h838, rfl, hr838, hf838⟩ := hq838
  show J 75 [some (.ref 0), some (.int (nI 2))] [.ref 33, .int (nI 2), .ref 1] (35, h838)
  refine r.2.1.2.2.2.2.2.2.2.1 75 [some (.ref 0), some (.int (nI 2))] [] (35, h838) 1 33 11 4 (nI 2) dX8_init_75 rfl (Or.inr ⟨rfl, rfl⟩) (show 1 < 35 by decide) (show 33 < 35 by decide) (vp_in_nI (by decide) (by decide)) ?_
  show J 76 [some (.ref 0), some (.int (nI 2))] [] (35, bf_up (h838) 1 2 (.ref 33))
  refine bf_iinc r.1 (v := nI 3) (L2 := [some (.ref 0), some (.int (nI 3))]) dX8_init_76 rfl (by decide) rfl ?_
  refine bf_goto r.1 (tgt := 58) dX8_init_79 (by decide) ?_
  refine bf_iload_n r.1 dX8_init_58 rfl ?_
  refine bf_iconst r.1 (v := nI 4) dX8_init_59 rfl ?_
  refine bf_icmp_ge r.1 (tgt := 82) dX8_init_60 (by decide) (fun c839 => ?_) (fun c839 => ?_)
  · exact absurd c839 (by decide)
  refine bf_aload_n r.1 dX8_init_63 rfl ?_
  refine bf_get r.1 dX8_init_64 fl_X8_13 rfl (show 0 < 35 by decide) ?_
  refine eq_v (w := .ref 1) (show (bf_up (h838) 1 2 (.ref 33)) 0 0 = .ref 1 from (up_o (by decide) ((hr838 _ (by decide) _).trans (fl_o (by decide) (up_o (by decide) ((hr836 _ (by decide) _).trans (fl_o (by decide) (up_o (by decide) ((hr834 _ (by decide) _).trans (fl_o (by decide) (up_o (by decide) ((hr832 _ (by decide) _).trans (fl_o (by decide) (up_o (by decide) ((hr831 _ (by decide) _).trans (fl_o (by decide) (up_o (by decide) ((hr830 _ (by decide) _).trans (fl_o (by decide) (up_o (by decide) ((hr829 _ (by decide) _).trans (fl_o (by decide) up_s)))))))))))))))))))))) ?_
  refine bf_iload_n r.1 dX8_init_67 rfl ?_
  refine r.2.1.2.2.2.2.1 68 [some (.ref 0), some (.int (nI 3))] [.int (nI 3), .ref 1] (35, bf_up (h838) 1 2 (.ref 33)) 11 5 3 (fun j => defaultValue (tyX5 j)) dX8_init_68 nw_X8_11 rfl (show 35 < 37 by decide) df_X5 (fun j => dv_ok _) ?_
  show J 71 [some (.ref 0), some (.int (nI 3))] [.ref 35, .int (nI 3), .ref 1] (36, bf_fill (bf_up (h838) 1 2 (.ref 33)) 35 (fun j => defaultValue (tyX5 j)))
  refine bf_dup r.1 dX8_init_71 rfl ?_
  refine r.2.1.2.2.1 72 [some (.ref 0), some (.int (nI 3))] [.ref 35, .int (nI 3), .ref 1] _ (36, bf_fill (bf_up (h838) 1 2 (.ref 33)) 35 (fun j => defaultValue (tyX5 j))) 45 mX5_init 0 35 [] 37 _ dX8_init_72 li_X8_45 mv_X5_init rfl (Nat.le_of_ble_eq_true rfl) rfl (c_X5_init35 (by omega) (h0 := bf_fill (bf_up (h838) 1 2 (.ref 33)) 35 (fun j => defaultValue (tyX5 j))) (fun j => fl_s rfl)) (by decide) (fun res G840 hq840 hg840 => ?_)
  obtain ⟨rfl, h840, rfl, hr840, hf840⟩ := hq840
  show J 75 [some (.ref 0), some (.int (nI 3))] [.ref 35, .int (nI 3), .ref 1] (37, h840)
  refine r.2.1.2.2.2.2.2.2.2.1 75 [some (.ref 0), some (.int (nI 3))] [] (37, h840) 1 35 11 4 (nI 3) dX8_init_75 rfl (Or.inr ⟨rfl, rfl⟩) (show 1 < 37 by decide) (show 35 < 37 by decide) (vp_in_nI (by decide) (by decide)) ?_
  show J 76 [some (.ref 0), some (.int (nI 3))] [] (37, bf_up (h840) 1 3 (.ref 35))
  refine bf_iinc r.1 (v := nI 4) (L2 := [some (.ref 0), some (.int (nI 4))]) dX8_init_76 rfl (by decide) rfl ?_
  refine bf_goto r.1 (tgt := 58) dX8_init_79 (by decide) ?_
  refine bf_iload_n r.1 dX8_init_58 rfl ?_
  refine bf_iconst r.1 (v := nI 4) dX8_init_59 rfl ?_
  refine bf_icmp_ge r.1 (tgt := 82) dX8_init_60 (by decide) (fun c841 => ?_) (fun c841 => ?_)
  rotate_left
  · exact absurd (by decide) c841
  refine r.2.2.2.2.2 82 _ (37, bf_up (h840) 1 3 (.ref 35)) dX8_init_82 rfl rfl ⟨rfl, _, rfl, (FR_up (by decide) (FR_cl (by decide) (FR_fl (by decide) (FR_up (by decide) (FR_cl (by decide) (FR_fl (by decide) (FR_up (by decide) (FR_cl (by decide) (FR_fl (by decide) (FR_up (by decide) (FR_cl (by decide) (FR_fl (by decide) (FR_up (by decide) (FR_cl (by decide) (FR_fl (by decide) (FR_up (by decide) (FR_cl (by decide) (FR_fl (by decide) (FR_up (by decide) (FR_cl (by decide) (FR_fl (by decide) (FR_up (by decide) (FR_cl (by decide) (FR_fl (by decide) (FR_up (by decide) (FR_fl (by decide) FR_0))) hr829))) hr830))) hr831))) hr832))) hr834))) hr836))) hr838))) hr840)), fun b h1 h2 j hj => ?_⟩
  by_cases hb : 2 ≤ b
  · exact (FIN_up (by decide) (FIN_cl (FIN_fl (FIN_up (by decide) (FIN_cl (FIN_fl (FIN_up (by decide) (FIN_cl (FIN_fl (FIN_up (by decide) (FIN_cl (FIN_fl (FIN_up (by decide) (FIN_cl (FIN_fl (FIN_up (by decide) (FIN_cl (FIN_fl (FIN_up (by decide) (FIN_cl (FIN_fl (FIN_up (by decide) (FIN_cl (FIN_fl (FIN_up (by decide) FIN_0)) (hr829) hf829))) (hr830) hf830))) (hr831) hf831))) (hr832) hf832))) (hr834) hf834))) (hr836) hf836))) (hr838) hf838))) (hr840) hf840)) b hb h2 j hj
  · rcases (show b = 0 ∨ b = 1 by omega) with rfl | rfl
    · have hj2 : j < 7 := hj
      rcases (show j = 0 ∨ j = 1 ∨ j = 2 ∨ j = 3 ∨ j = 4 ∨ j = 5 ∨ j = 6 by omega) with rfl | rfl | rfl | rfl | rfl | rfl | rfl
      · exact ((up_o (by decide) ((hr840 _ (by decide) _).trans (fl_o (by decide) (up_o (by decide) ((hr838 _ (by decide) _).trans (fl_o (by decide) (up_o (by decide) ((hr836 _ (by decide) _).trans (fl_o (by decide) (up_o (by decide) ((hr834 _ (by decide) _).trans (fl_o (by decide) (up_o (by decide) ((hr832 _ (by decide) _).trans (fl_o (by decide) (up_o (by decide) ((hr831 _ (by decide) _).trans (fl_o (by decide) (up_o (by decide) ((hr830 _ (by decide) _).trans (fl_o (by decide) (up_o (by decide) ((hr829 _ (by decide) _).trans (fl_o (by decide) up_s))))))))))))))))))))))))).trans rfl
      · exact ((up_o (by decide) ((hr840 _ (by decide) _).trans (fl_o (by decide) (up_o (by decide) ((hr838 _ (by decide) _).trans (fl_o (by decide) (up_o (by decide) ((hr836 _ (by decide) _).trans (fl_o (by decide) (up_o (by decide) ((hr834 _ (by decide) _).trans (fl_o (by decide) (up_o (by decide) ((hr832 _ (by decide) _).trans (fl_o (by decide) (up_o (by decide) ((hr831 _ (by decide) _).trans (fl_o (by decide) (up_o (by decide) ((hr830 _ (by decide) _).trans (fl_o (by decide) up_s)))))))))))))))))))))).trans rfl
      · exact ((up_o (by decide) ((hr840 _ (by decide) _).trans (fl_o (by decide) (up_o (by decide) ((hr838 _ (by decide) _).trans (fl_o (by decide) (up_o (by decide) ((hr836 _ (by decide) _).trans (fl_o (by decide) (up_o (by decide) ((hr834 _ (by decide) _).trans (fl_o (by decide) (up_o (by decide) ((hr832 _ (by decide) _).trans (fl_o (by decide) (up_o (by decide) ((hr831 _ (by decide) _).trans (fl_o (by decide) up_s))))))))))))))))))).trans rfl
      · exact ((up_o (by decide) ((hr840 _ (by decide) _).trans (fl_o (by decide) (up_o (by decide) ((hr838 _ (by decide) _).trans (fl_o (by decide) (up_o (by decide) ((hr836 _ (by decide) _).trans (fl_o (by decide) (up_o (by decide) ((hr834 _ (by decide) _).trans (fl_o (by decide) (up_o (by decide) ((hr832 _ (by decide) _).trans (fl_o (by decide) up_s)))))))))))))))).trans rfl
      · exact ((up_o (by decide) ((hr840 _ (by decide) _).trans (fl_o (by decide) (up_o (by decide) ((hr838 _ (by decide) _).trans (fl_o (by decide) (up_o (by decide) ((hr836 _ (by decide) _).trans (fl_o (by decide) (up_o (by decide) ((hr834 _ (by decide) _).trans (fl_o (by decide) up_s))))))))))))).trans rfl
      · exact ((up_o (by decide) ((hr840 _ (by decide) _).trans (fl_o (by decide) (up_o (by decide) ((hr838 _ (by decide) _).trans (fl_o (by decide) (up_o (by decide) ((hr836 _ (by decide) _).trans (fl_o (by decide) (up_o (by decide) ((hr834 _ (by decide) _).trans (fl_o (by decide) (up_o (by decide) ((hr832 _ (by decide) _).trans (fl_o (by decide) (up_o (by decide) ((hr831 _ (by decide) _).trans (fl_o (by decide) (up_o (by decide) ((hr830 _ (by decide) _).trans (fl_o (by decide) (up_o (by decide) ((hr829 _ (by decide) _).trans (fl_o (by decide) (up_o (by decide) (fl_o (by decide) (hz 5)))))))))))))))))))))))))))).trans rfl
      · exact ((up_o (by decide) ((hr840 _ (by decide) _).trans (fl_o (by decide) (up_o (by decide) ((hr838 _ (by decide) _).trans (fl_o (by decide) (up_o (by decide) ((hr836 _ (by decide) _).trans (fl_o (by decide) (up_o (by decide) ((hr834 _ (by decide) _).trans (fl_o (by decide) (up_o (by decide) ((hr832 _ (by decide) _).trans (fl_o (by decide) (up_o (by decide) ((hr831 _ (by decide) _).trans (fl_o (by decide) (up_o (by decide) ((hr830 _ (by decide) _).trans (fl_o (by decide) (up_o (by decide) ((hr829 _ (by decide) _).trans (fl_o (by decide) (up_o (by decide) (fl_o (by decide) (hz 6)))))))))))))))))))))))))))).trans rfl
    · have hj2 : j < 4 := hj
      rcases (show j = 0 ∨ j = 1 ∨ j = 2 ∨ j = 3 by omega) with rfl | rfl | rfl | rfl
      · exact ((up_o (by decide) ((hr840 _ (by decide) _).trans (fl_o (by decide) (up_o (by decide) ((hr838 _ (by decide) _).trans (fl_o (by decide) (up_o (by decide) ((hr836 _ (by decide) _).trans (fl_o (by decide) up_s)))))))))).trans rfl
      · exact ((up_o (by decide) ((hr840 _ (by decide) _).trans (fl_o (by decide) (up_o (by decide) ((hr838 _ (by decide) _).trans (fl_o (by decide) up_s))))))).trans rfl
      · exact ((up_o (by decide) ((hr840 _ (by decide) _).trans (fl_o (by decide) up_s)))).trans rfl
      · exact (up_s).trans rfl
theorem c_X9_init {d : Nat} (hd : 1 ≤ d) {h0 : bf_Hp} (hz : ∀ j, h0 37 j = defaultValue (tyX9 j)) : bf_Cl d mX9_init [.ref 37] (38, h0) 57 (bf_Pi 37 57 h0) := by
  refine ci_of 0 hd mo_X9_init (show 38 ≤ 57 by decide) (by decide) (Nat.le_of_ble_eq_true rfl) (fun e he J r => ?_)
  show J 0 [some (.ref 37), none] [] (38, h0)
  refine bf_aload_n r.1 dX9_init_0 rfl ?_
  refine r.2.1.2.2.2.1 1 [some (.ref 37), none] [] (38, h0) 1 37 dX9_init_1 lw_X9_1 (Nat.le_of_ble_eq_true rfl) ?_
  show J 4 [some (.ref 37), none] [] (38, h0)
  refine bf_aload_n r.1 dX9_init_4 rfl ?_
  refine bf_iconst r.1 (v := nI 4) dX9_init_5 rfl ?_
  refine r.2.1.2.2.2.2.2.1 6 [some (.ref 37), none] [.ref 37] (38, h0) 4 (nI 4) dX9_init_6 rfl (by decide) rfl (show 38 < 57 by decide) ?_
  show J 8 [some (.ref 37), none] [.ref 38, .ref 37] (39, bf_fill (h0) 38 (fun _ => .int 0))
  refine r.2.2.1 8 [some (.ref 37), none] [] (39, bf_fill (h0) 38 (fun _ => .int 0)) 7 8 4 37 38 dX9_init_8 ff_X9_7 rfl rfl (show 37 < 39 by decide) ?_
  show J 11 [some (.ref 37), none] [] (39, bf_up (bf_fill (h0) 38 (fun _ => .int 0)) 37 4 (.ref 38))
  refine bf_aload_n r.1 dX9_init_11 rfl ?_
  refine bf_iconst r.1 (v := nI 4) dX9_init_12 rfl ?_
  refine r.2.1.2.2.2.2.2.1 13 [some (.ref 37), none] [.ref 37] (39, bf_up (bf_fill (h0) 38 (fun _ => .int 0)) 37 4 (.ref 38)) 4 (nI 4) dX9_init_13 rfl (by decide) rfl (show 39 < 57 by decide) ?_
  show J 15 [some (.ref 37), none] [.ref 39, .ref 37] (40, bf_fill (bf_up (bf_fill (h0) 38 (fun _ => .int 0)) 37 4 (.ref 38)) 39 (fun _ => .int 0))
  refine r.2.2.1 15 [some (.ref 37), none] [] (40, bf_fill (bf_up (bf_fill (h0) 38 (fun _ => .int 0)) 37 4 (.ref 38)) 39 (fun _ => .int 0)) 13 8 5 37 39 dX9_init_15 ff_X9_13 rfl rfl (show 37 < 40 by decide) ?_
  show J 18 [some (.ref 37), none] [] (40, bf_up (bf_fill (bf_up (bf_fill (h0) 38 (fun _ => .int 0)) 37 4 (.ref 38)) 39 (fun _ => .int 0)) 37 5 (.ref 39))
  refine bf_aload_n r.1 dX9_init_18 rfl ?_
  refine bf_iconst r.1 (v := nI 4) dX9_init_19 rfl ?_
  refine r.2.1.2.2.2.2.2.1 20 [some (.ref 37), none] [.ref 37] (40, bf_up (bf_fill (bf_up (bf_fill (h0) 38 (fun _ => .int 0)) 37 4 (.ref 38)) 39 (fun _ => .int 0)) 37 5 (.ref 39)) 4 (nI 4) dX9_init_20 rfl (by decide) rfl (show 40 < 57 by decide) ?_
  show J 22 [some (.ref 37), none] [.ref 40, .ref 37] (41, bf_fill (bf_up (bf_fill (bf_up (bf_fill (h0) 38 (fun _ => .int 0)) 37 4 (.ref 38)) 39 (fun _ => .int 0)) 37 5 (.ref 39)) 40 (fun _ => .int 0))
  refine r.2.2.1 22 [some (.ref 37), none] [] (41, bf_fill (bf_up (bf_fill (bf_up (bf_fill (h0) 38 (fun _ => .int 0)) 37 4 (.ref 38)) 39 (fun _ => .int 0)) 37 5 (.ref 39)) 40 (fun _ => .int 0)) 16 8 6 37 40 dX9_init_22 ff_X9_16 rfl rfl (show 37 < 41 by decide) ?_
  show J 25 [some (.ref 37), none] [] (41, bf_up (bf_fill (bf_up (bf_fill (bf_up (bf_fill (h0) 38 (fun _ => .int 0)) 37 4 (.ref 38)) 39 (fun _ => .int 0)) 37 5 (.ref 39)) 40 (fun _ => .int 0)) 37 6 (.ref 40))
  refine bf_aload_n r.1 dX9_init_25 rfl ?_
  refine bf_bipush r.1 (v := nI 28) dX9_init_26 rfl ?_
  refine r.2.1.2.2.2.2.2.1 28 [some (.ref 37), none] [.ref 37] (41, bf_up (bf_fill (bf_up (bf_fill (bf_up (bf_fill (h0) 38 (fun _ => .int 0)) 37 4 (.ref 38)) 39 (fun _ => .int 0)) 37 5 (.ref 39)) 40 (fun _ => .int 0)) 37 6 (.ref 40)) 28 (nI 28) dX9_init_28 rfl (by decide) rfl (show 41 < 57 by decide) ?_
  show J 30 [some (.ref 37), none] [.ref 41, .ref 37] (42, bf_fill (bf_up (bf_fill (bf_up (bf_fill (bf_up (bf_fill (h0) 38 (fun _ => .int 0)) 37 4 (.ref 38)) 39 (fun _ => .int 0)) 37 5 (.ref 39)) 40 (fun _ => .int 0)) 37 6 (.ref 40)) 41 (fun _ => .int 0))
  refine r.2.2.1 30 [some (.ref 37), none] [] (42, bf_fill (bf_up (bf_fill (bf_up (bf_fill (bf_up (bf_fill (h0) 38 (fun _ => .int 0)) 37 4 (.ref 38)) 39 (fun _ => .int 0)) 37 5 (.ref 39)) 40 (fun _ => .int 0)) 37 6 (.ref 40)) 41 (fun _ => .int 0)) 19 8 7 37 41 dX9_init_30 ff_X9_19 rfl rfl (show 37 < 42 by decide) ?_
  show J 33 [some (.ref 37), none] [] (42, bf_up (bf_fill (bf_up (bf_fill (bf_up (bf_fill (bf_up (bf_fill (h0) 38 (fun _ => .int 0)) 37 4 (.ref 38)) 39 (fun _ => .int 0)) 37 5 (.ref 39)) 40 (fun _ => .int 0)) 37 6 (.ref 40)) 41 (fun _ => .int 0)) 37 7 (.ref 41))
  refine bf_aload_n r.1 dX9_init_33 rfl ?_
  refine bf_iconst r.1 (v := nI 4) dX9_init_34 rfl ?_
  refine r.2.1.2.2.2.2.2.1 35 [some (.ref 37), none] [.ref 37] (42, bf_up (bf_fill (bf_up (bf_fill (bf_up (bf_fill (bf_up (bf_fill (h0) 38 (fun _ => .int 0)) 37 4 (.ref 38)) 39 (fun _ => .int 0)) 37 5 (.ref 39)) 40 (fun _ => .int 0)) 37 6 (.ref 40)) 41 (fun _ => .int 0)) 37 7 (.ref 41)) 4 (nI 4) dX9_init_35 rfl (by decide) rfl (show 42 < 57 by decide) ?_
  show J 37 [some (.ref 37), none] [.ref 42, .ref 37] (43, bf_fill (bf_up (bf_fill (bf_up (bf_fill (bf_up (bf_fill (bf_up (bf_fill (h0) 38 (fun _ => .int 0)) 37 4 (.ref 38)) 39 (fun _ => .int 0)) 37 5 (.ref 39)) 40 (fun _ => .int 0)) 37 6 (.ref 40)) 41 (fun _ => .int 0)) 37 7 (.ref 41)) 42 (fun _ => .int 0))
  refine r.2.2.1 37 [some (.ref 37), none] [] (43, bf_fill (bf_up (bf_fill (bf_up (bf_fill (bf_up (bf_fill (bf_up (bf_fill (h0) 38 (fun _ => .int 0)) 37 4 (.ref 38)) 39 (fun _ => .int 0)) 37 5 (.ref 39)) 40 (fun _ => .int 0)) 37 6 (.ref 40)) 41 (fun _ => .int 0)) 37 7 (.ref 41)) 42 (fun _ => .int 0)) 22 8 10 37 42 dX9_init_37 ff_X9_22 rfl rfl (show 37 < 43 by decide) ?_
  show J 40 [some (.ref 37), none] [] (43, bf_up (bf_fill (bf_up (bf_fill (bf_up (bf_fill (bf_up (bf_fill (bf_up (bf_fill (h0) 38 (fun _ => .int 0)) 37 4 (.ref 38)) 39 (fun _ => .int 0)) 37 5 (.ref 39)) 40 (fun _ => .int 0)) 37 6 (.ref 40)) 41 (fun _ => .int 0)) 37 7 (.ref 41)) 42 (fun _ => .int 0)) 37 10 (.ref 42))
  refine bf_aload_n r.1 dX9_init_40 rfl ?_
  refine bf_iconst r.1 (v := nI 4) dX9_init_41 rfl ?_
  refine r.2.1.2.2.2.2.2.1 42 [some (.ref 37), none] [.ref 37] (43, bf_up (bf_fill (bf_up (bf_fill (bf_up (bf_fill (bf_up (bf_fill (bf_up (bf_fill (h0) 38 (fun _ => .int 0)) 37 4 (.ref 38)) 39 (fun _ => .int 0)) 37 5 (.ref 39)) 40 (fun _ => .int 0)) 37 6 (.ref 40)) 41 (fun _ => .int 0)) 37 7 (.ref 41)) 42 (fun _ => .int 0)) 37 10 (.ref 42)) 4 (nI 4) dX9_init_42 rfl (by decide) rfl (show 43 < 57 by decide) ?_
  show J 44 [some (.ref 37), none] [.ref 43, .ref 37] (44, bf_fill (bf_up (bf_fill (bf_up (bf_fill (bf_up (bf_fill (bf_up (bf_fill (bf_up (bf_fill (h0) 38 (fun _ => .int 0)) 37 4 (.ref 38)) 39 (fun _ => .int 0)) 37 5 (.ref 39)) 40 (fun _ => .int 0)) 37 6 (.ref 40)) 41 (fun _ => .int 0)) 37 7 (.ref 41)) 42 (fun _ => .int 0)) 37 10 (.ref 42)) 43 (fun _ => .int 0))
  refine r.2.2.1 44 [some (.ref 37), none] [] (44, bf_fill (bf_up (bf_fill (bf_up (bf_fill (bf_up (bf_fill (bf_up (bf_fill (bf_up (bf_fill (h0) 38 (fun _ => .int 0)) 37 4 (.ref 38)) 39 (fun _ => .int 0)) 37 5 (.ref 39)) 40 (fun _ => .int 0)) 37 6 (.ref 40)) 41 (fun _ => .int 0)) 37 7 (.ref 41)) 42 (fun _ => .int 0)) 37 10 (.ref 42)) 43 (fun _ => .int 0)) 25 8 11 37 43 dX9_init_44 ff_X9_25 rfl rfl (show 37 < 44 by decide) ?_
  show J 47 [some (.ref 37), none] [] (44, bf_up (bf_fill (bf_up (bf_fill (bf_up (bf_fill (bf_up (bf_fill (bf_up (bf_fill (bf_up (bf_fill (h0) 38 (fun _ => .int 0)) 37 4 (.ref 38)) 39 (fun _ => .int 0)) 37 5 (.ref 39)) 40 (fun _ => .int 0)) 37 6 (.ref 40)) 41 (fun _ => .int 0)) 37 7 (.ref 41)) 42 (fun _ => .int 0)) 37 10 (.ref 42)) 43 (fun _ => .int 0)) 37 11 (.ref 43))
  refine bf_aload_n r.1 dX9_init_47 rfl ?_
  refine bf_iconst r.1 (v := nI 4) dX9_init_48 rfl ?_
  refine r.2.1.2.2.2.2.2.1 49 [some (.ref 37), none] [.ref 37] (44, bf_up (bf_fill (bf_up (bf_fill (bf_up (bf_fill (bf_up (bf_fill (bf_up (bf_fill (bf_up (bf_fill (h0) 38 (fun _ => .int 0)) 37 4 (.ref 38)) 39 (fun _ => .int 0)) 37 5 (.ref 39)) 40 (fun _ => .int 0)) 37 6 (.ref 40)) 41 (fun _ => .int 0)) 37 7 (.ref 41)) 42 (fun _ => .int 0)) 37 10 (.ref 42)) 43 (fun _ => .int 0)) 37 11 (.ref 43)) 4 (nI 4) dX9_init_49 rfl (by decide) rfl (show 44 < 57 by decide) ?_
  show J 51 [some (.ref 37), none] [.ref 44, .ref 37] (45, bf_fill (bf_up (bf_fill (bf_up (bf_fill (bf_up (bf_fill (bf_up (bf_fill (bf_up (bf_fill (bf_up (bf_fill (h0) 38 (fun _ => .int 0)) 37 4 (.ref 38)) 39 (fun _ => .int 0)) 37 5 (.ref 39)) 40 (fun _ => .int 0)) 37 6 (.ref 40)) 41 (fun _ => .int 0)) 37 7 (.ref 41)) 42 (fun _ => .int 0)) 37 10 (.ref 42)) 43 (fun _ => .int 0)) 37 11 (.ref 43)) 44 (fun _ => .int 0))
  refine r.2.2.1 51 [some (.ref 37), none] [] (45, bf_fill (bf_up (bf_fill (bf_up (bf_fill (bf_up (bf_fill (bf_up (bf_fill (bf_up (bf_fill (bf_up (bf_fill (h0) 38 (fun _ => .int 0)) 37 4 (.ref 38)) 39 (fun _ => .int 0)) 37 5 (.ref 39)) 40 (fun _ => .int 0)) 37 6 (.ref 40)) 41 (fun _ => .int 0)) 37 7 (.ref 41)) 42 (fun _ => .int 0)) 37 10 (.ref 42)) 43 (fun _ => .int 0)) 37 11 (.ref 43)) 44 (fun _ => .int 0)) 28 8 12 37 44 dX9_init_51 ff_X9_28 rfl rfl (show 37 < 45 by decide) ?_
  show J 54 [some (.ref 37), none] [] (45, bf_up (bf_fill (bf_up (bf_fill (bf_up (bf_fill (bf_up (bf_fill (bf_up (bf_fill (bf_up (bf_fill (bf_up (bf_fill (h0) 38 (fun _ => .int 0)) 37 4 (.ref 38)) 39 (fun _ => .int 0)) 37 5 (.ref 39)) 40 (fun _ => .int 0)) 37 6 (.ref 40)) 41 (fun _ => .int 0)) 37 7 (.ref 41)) 42 (fun _ => .int 0)) 37 10 (.ref 42)) 43 (fun _ => .int 0)) 37 11 (.ref 43)) 44 (fun _ => .int 0)) 37 12 (.ref 44))
  refine bf_aload_n r.1 dX9_init_54 rfl ?_
  refine bf_iconst r.1 (v := nI 4) dX9_init_55 rfl ?_
  refine r.2.1.2.2.2.2.2.1 56 [some (.ref 37), none] [.ref 37] (45, bf_up (bf_fill (bf_up (bf_fill (bf_up (bf_fill (bf_up (bf_fill (bf_up (bf_fill (bf_up (bf_fill (bf_up (bf_fill (h0) 38 (fun _ => .int 0)) 37 4 (.ref 38)) 39 (fun _ => .int 0)) 37 5 (.ref 39)) 40 (fun _ => .int 0)) 37 6 (.ref 40)) 41 (fun _ => .int 0)) 37 7 (.ref 41)) 42 (fun _ => .int 0)) 37 10 (.ref 42)) 43 (fun _ => .int 0)) 37 11 (.ref 43)) 44 (fun _ => .int 0)) 37 12 (.ref 44)) 4 (nI 4) dX9_init_56 rfl (by decide) rfl (show 45 < 57 by decide) ?_
  show J 58 [some (.ref 37), none] [.ref 45, .ref 37] (46, bf_fill (bf_up (bf_fill (bf_up (bf_fill (bf_up (bf_fill (bf_up (bf_fill (bf_up (bf_fill (bf_up (bf_fill (bf_up (bf_fill (h0) 38 (fun _ => .int 0)) 37 4 (.ref 38)) 39 (fun _ => .int 0)) 37 5 (.ref 39)) 40 (fun _ => .int 0)) 37 6 (.ref 40)) 41 (fun _ => .int 0)) 37 7 (.ref 41)) 42 (fun _ => .int 0)) 37 10 (.ref 42)) 43 (fun _ => .int 0)) 37 11 (.ref 43)) 44 (fun _ => .int 0)) 37 12 (.ref 44)) 45 (fun _ => .int 0))
  refine r.2.2.1 58 [some (.ref 37), none] [] (46, bf_fill (bf_up (bf_fill (bf_up (bf_fill (bf_up (bf_fill (bf_up (bf_fill (bf_up (bf_fill (bf_up (bf_fill (bf_up (bf_fill (h0) 38 (fun _ => .int 0)) 37 4 (.ref 38)) 39 (fun _ => .int 0)) 37 5 (.ref 39)) 40 (fun _ => .int 0)) 37 6 (.ref 40)) 41 (fun _ => .int 0)) 37 7 (.ref 41)) 42 (fun _ => .int 0)) 37 10 (.ref 42)) 43 (fun _ => .int 0)) 37 11 (.ref 43)) 44 (fun _ => .int 0)) 37 12 (.ref 44)) 45 (fun _ => .int 0)) 31 8 14 37 45 dX9_init_58 ff_X9_31 rfl rfl (show 37 < 46 by decide) ?_
  show J 61 [some (.ref 37), none] [] (46, bf_up (bf_fill (bf_up (bf_fill (bf_up (bf_fill (bf_up (bf_fill (bf_up (bf_fill (bf_up (bf_fill (bf_up (bf_fill (bf_up (bf_fill (h0) 38 (fun _ => .int 0)) 37 4 (.ref 38)) 39 (fun _ => .int 0)) 37 5 (.ref 39)) 40 (fun _ => .int 0)) 37 6 (.ref 40)) 41 (fun _ => .int 0)) 37 7 (.ref 41)) 42 (fun _ => .int 0)) 37 10 (.ref 42)) 43 (fun _ => .int 0)) 37 11 (.ref 43)) 44 (fun _ => .int 0)) 37 12 (.ref 44)) 45 (fun _ => .int 0)) 37 14 (.ref 45))
  refine bf_aload_n r.1 dX9_init_61 rfl ?_
  refine bf_bipush r.1 (v := nI 28) dX9_init_62 rfl ?_
  refine r.2.1.2.2.2.2.2.1 64 [some (.ref 37), none] [.ref 37] (46, bf_up (bf_fill (bf_up (bf_fill (bf_up (bf_fill (bf_up (bf_fill (bf_up (bf_fill (bf_up (bf_fill (bf_up (bf_fill (bf_up (bf_fill (h0) 38 (fun _ => .int 0)) 37 4 (.ref 38)) 39 (fun _ => .int 0)) 37 5 (.ref 39)) 40 (fun _ => .int 0)) 37 6 (.ref 40)) 41 (fun _ => .int 0)) 37 7 (.ref 41)) 42 (fun _ => .int 0)) 37 10 (.ref 42)) 43 (fun _ => .int 0)) 37 11 (.ref 43)) 44 (fun _ => .int 0)) 37 12 (.ref 44)) 45 (fun _ => .int 0)) 37 14 (.ref 45)) 28 (nI 28) dX9_init_64 rfl (by decide) rfl (show 46 < 57 by decide) ?_
  show J 66 [some (.ref 37), none] [.ref 46, .ref 37] (47, bf_fill (bf_up (bf_fill (bf_up (bf_fill (bf_up (bf_fill (bf_up (bf_fill (bf_up (bf_fill (bf_up (bf_fill (bf_up (bf_fill (bf_up (bf_fill (h0) 38 (fun _ => .int 0)) 37 4 (.ref 38)) 39 (fun _ => .int 0)) 37 5 (.ref 39)) 40 (fun _ => .int 0)) 37 6 (.ref 40)) 41 (fun _ => .int 0)) 37 7 (.ref 41)) 42 (fun _ => .int 0)) 37 10 (.ref 42)) 43 (fun _ => .int 0)) 37 11 (.ref 43)) 44 (fun _ => .int 0)) 37 12 (.ref 44)) 45 (fun _ => .int 0)) 37 14 (.ref 45)) 46 (fun _ => .int 0))
  refine r.2.2.1 66 [some (.ref 37), none] [] (47, bf_fill (bf_up (bf_fill (bf_up (bf_fill (bf_up (bf_fill (bf_up (bf_fill (bf_up (bf_fill (bf_up (bf_fill (bf_up (bf_fill (bf_up (bf_fill (h0) 38 (fun _ => .int 0)) 37 4 (.ref 38)) 39 (fun _ => .int 0)) 37 5 (.ref 39)) 40 (fun _ => .int 0)) 37 6 (.ref 40)) 41 (fun _ => .int 0)) 37 7 (.ref 41)) 42 (fun _ => .int 0)) 37 10 (.ref 42)) 43 (fun _ => .int 0)) 37 11 (.ref 43)) 44 (fun _ => .int 0)) 37 12 (.ref 44)) 45 (fun _ => .int 0)) 37 14 (.ref 45)) 46 (fun _ => .int 0)) 34 8 15 37 46 dX9_init_66 ff_X9_34 rfl rfl (show 37 < 47 by decide) ?_
  show J 69 [some (.ref 37), none] [] (47, bf_up (bf_fill (bf_up (bf_fill (bf_up (bf_fill (bf_up (bf_fill (bf_up (bf_fill (bf_up (bf_fill (bf_up (bf_fill (bf_up (bf_fill (bf_up (bf_fill (h0) 38 (fun _ => .int 0)) 37 4 (.ref 38)) 39 (fun _ => .int 0)) 37 5 (.ref 39)) 40 (fun _ => .int 0)) 37 6 (.ref 40)) 41 (fun _ => .int 0)) 37 7 (.ref 41)) 42 (fun _ => .int 0)) 37 10 (.ref 42)) 43 (fun _ => .int 0)) 37 11 (.ref 43)) 44 (fun _ => .int 0)) 37 12 (.ref 44)) 45 (fun _ => .int 0)) 37 14 (.ref 45)) 46 (fun _ => .int 0)) 37 15 (.ref 46))
  refine bf_aload_n r.1 dX9_init_69 rfl ?_
  refine bf_bipush r.1 (v := nI 36) dX9_init_70 rfl ?_
  refine r.2.1.2.2.2.2.2.1 72 [some (.ref 37), none] [.ref 37] (47, bf_up (bf_fill (bf_up (bf_fill (bf_up (bf_fill (bf_up (bf_fill (bf_up (bf_fill (bf_up (bf_fill (bf_up (bf_fill (bf_up (bf_fill (bf_up (bf_fill (h0) 38 (fun _ => .int 0)) 37 4 (.ref 38)) 39 (fun _ => .int 0)) 37 5 (.ref 39)) 40 (fun _ => .int 0)) 37 6 (.ref 40)) 41 (fun _ => .int 0)) 37 7 (.ref 41)) 42 (fun _ => .int 0)) 37 10 (.ref 42)) 43 (fun _ => .int 0)) 37 11 (.ref 43)) 44 (fun _ => .int 0)) 37 12 (.ref 44)) 45 (fun _ => .int 0)) 37 14 (.ref 45)) 46 (fun _ => .int 0)) 37 15 (.ref 46)) 36 (nI 36) dX9_init_72 rfl (by decide) rfl (show 47 < 57 by decide) ?_
  show J 74 [some (.ref 37), none] [.ref 47, .ref 37] (48, bf_fill (bf_up (bf_fill (bf_up (bf_fill (bf_up (bf_fill (bf_up (bf_fill (bf_up (bf_fill (bf_up (bf_fill (bf_up (bf_fill (bf_up (bf_fill (bf_up (bf_fill (h0) 38 (fun _ => .int 0)) 37 4 (.ref 38)) 39 (fun _ => .int 0)) 37 5 (.ref 39)) 40 (fun _ => .int 0)) 37 6 (.ref 40)) 41 (fun _ => .int 0)) 37 7 (.ref 41)) 42 (fun _ => .int 0)) 37 10 (.ref 42)) 43 (fun _ => .int 0)) 37 11 (.ref 43)) 44 (fun _ => .int 0)) 37 12 (.ref 44)) 45 (fun _ => .int 0)) 37 14 (.ref 45)) 46 (fun _ => .int 0)) 37 15 (.ref 46)) 47 (fun _ => .int 0))
  refine r.2.2.1 74 [some (.ref 37), none] [] (48, bf_fill (bf_up (bf_fill (bf_up (bf_fill (bf_up (bf_fill (bf_up (bf_fill (bf_up (bf_fill (bf_up (bf_fill (bf_up (bf_fill (bf_up (bf_fill (bf_up (bf_fill (h0) 38 (fun _ => .int 0)) 37 4 (.ref 38)) 39 (fun _ => .int 0)) 37 5 (.ref 39)) 40 (fun _ => .int 0)) 37 6 (.ref 40)) 41 (fun _ => .int 0)) 37 7 (.ref 41)) 42 (fun _ => .int 0)) 37 10 (.ref 42)) 43 (fun _ => .int 0)) 37 11 (.ref 43)) 44 (fun _ => .int 0)) 37 12 (.ref 44)) 45 (fun _ => .int 0)) 37 14 (.ref 45)) 46 (fun _ => .int 0)) 37 15 (.ref 46)) 47 (fun _ => .int 0)) 37 8 16 37 47 dX9_init_74 ff_X9_37 rfl rfl (show 37 < 48 by decide) ?_
  show J 77 [some (.ref 37), none] [] (48, bf_up (bf_fill (bf_up (bf_fill (bf_up (bf_fill (bf_up (bf_fill (bf_up (bf_fill (bf_up (bf_fill (bf_up (bf_fill (bf_up (bf_fill (bf_up (bf_fill (bf_up (bf_fill (h0) 38 (fun _ => .int 0)) 37 4 (.ref 38)) 39 (fun _ => .int 0)) 37 5 (.ref 39)) 40 (fun _ => .int 0)) 37 6 (.ref 40)) 41 (fun _ => .int 0)) 37 7 (.ref 41)) 42 (fun _ => .int 0)) 37 10 (.ref 42)) 43 (fun _ => .int 0)) 37 11 (.ref 43)) 44 (fun _ => .int 0)) 37 12 (.ref 44)) 45 (fun _ => .int 0)) 37 14 (.ref 45)) 46 (fun _ => .int 0)) 37 15 (.ref 46)) 47 (fun _ => .int 0)) 37 16 (.ref 47))
  refine bf_aload_n r.1 dX9_init_77 rfl ?_
  refine bf_bipush r.1 (v := nI 6) dX9_init_78 rfl ?_
  refine r.2.1.2.2.2.2.2.1 80 [some (.ref 37), none] [.ref 37] (48, bf_up (bf_fill (bf_up (bf_fill (bf_up (bf_fill (bf_up (bf_fill (bf_up (bf_fill (bf_up (bf_fill (bf_up (bf_fill (bf_up (bf_fill (bf_up (bf_fill (bf_up (bf_fill (h0) 38 (fun _ => .int 0)) 37 4 (.ref 38)) 39 (fun _ => .int 0)) 37 5 (.ref 39)) 40 (fun _ => .int 0)) 37 6 (.ref 40)) 41 (fun _ => .int 0)) 37 7 (.ref 41)) 42 (fun _ => .int 0)) 37 10 (.ref 42)) 43 (fun _ => .int 0)) 37 11 (.ref 43)) 44 (fun _ => .int 0)) 37 12 (.ref 44)) 45 (fun _ => .int 0)) 37 14 (.ref 45)) 46 (fun _ => .int 0)) 37 15 (.ref 46)) 47 (fun _ => .int 0)) 37 16 (.ref 47)) 6 (nI 6) dX9_init_80 rfl (by decide) rfl (show 48 < 57 by decide) ?_
  show J 82 [some (.ref 37), none] [.ref 48, .ref 37] (49, bf_fill (bf_up (bf_fill (bf_up (bf_fill (bf_up (bf_fill (bf_up (bf_fill (bf_up (bf_fill (bf_up (bf_fill (bf_up (bf_fill (bf_up (bf_fill (bf_up (bf_fill (bf_up (bf_fill (h0) 38 (fun _ => .int 0)) 37 4 (.ref 38)) 39 (fun _ => .int 0)) 37 5 (.ref 39)) 40 (fun _ => .int 0)) 37 6 (.ref 40)) 41 (fun _ => .int 0)) 37 7 (.ref 41)) 42 (fun _ => .int 0)) 37 10 (.ref 42)) 43 (fun _ => .int 0)) 37 11 (.ref 43)) 44 (fun _ => .int 0)) 37 12 (.ref 44)) 45 (fun _ => .int 0)) 37 14 (.ref 45)) 46 (fun _ => .int 0)) 37 15 (.ref 46)) 47 (fun _ => .int 0)) 37 16 (.ref 47)) 48 (fun _ => .int 0))
  refine r.2.2.1 82 [some (.ref 37), none] [] (49, bf_fill (bf_up (bf_fill (bf_up (bf_fill (bf_up (bf_fill (bf_up (bf_fill (bf_up (bf_fill (bf_up (bf_fill (bf_up (bf_fill (bf_up (bf_fill (bf_up (bf_fill (bf_up (bf_fill (h0) 38 (fun _ => .int 0)) 37 4 (.ref 38)) 39 (fun _ => .int 0)) 37 5 (.ref 39)) 40 (fun _ => .int 0)) 37 6 (.ref 40)) 41 (fun _ => .int 0)) 37 7 (.ref 41)) 42 (fun _ => .int 0)) 37 10 (.ref 42)) 43 (fun _ => .int 0)) 37 11 (.ref 43)) 44 (fun _ => .int 0)) 37 12 (.ref 44)) 45 (fun _ => .int 0)) 37 14 (.ref 45)) 46 (fun _ => .int 0)) 37 15 (.ref 46)) 47 (fun _ => .int 0)) 37 16 (.ref 47)) 48 (fun _ => .int 0)) 40 8 17 37 48 dX9_init_82 ff_X9_40 rfl rfl (show 37 < 49 by decide) ?_
  show J 85 [some (.ref 37), none] [] (49, bf_up (bf_fill (bf_up (bf_fill (bf_up (bf_fill (bf_up (bf_fill (bf_up (bf_fill (bf_up (bf_fill (bf_up (bf_fill (bf_up (bf_fill (bf_up (bf_fill (bf_up (bf_fill (bf_up (bf_fill (h0) 38 (fun _ => .int 0)) 37 4 (.ref 38)) 39 (fun _ => .int 0)) 37 5 (.ref 39)) 40 (fun _ => .int 0)) 37 6 (.ref 40)) 41 (fun _ => .int 0)) 37 7 (.ref 41)) 42 (fun _ => .int 0)) 37 10 (.ref 42)) 43 (fun _ => .int 0)) 37 11 (.ref 43)) 44 (fun _ => .int 0)) 37 12 (.ref 44)) 45 (fun _ => .int 0)) 37 14 (.ref 45)) 46 (fun _ => .int 0)) 37 15 (.ref 46)) 47 (fun _ => .int 0)) 37 16 (.ref 47)) 48 (fun _ => .int 0)) 37 17 (.ref 48))
  refine bf_aload_n r.1 dX9_init_85 rfl ?_
  refine bf_bipush r.1 (v := nI 6) dX9_init_86 rfl ?_
  refine r.2.1.2.2.2.2.2.1 88 [some (.ref 37), none] [.ref 37] (49, bf_up (bf_fill (bf_up (bf_fill (bf_up (bf_fill (bf_up (bf_fill (bf_up (bf_fill (bf_up (bf_fill (bf_up (bf_fill (bf_up (bf_fill (bf_up (bf_fill (bf_up (bf_fill (bf_up (bf_fill (h0) 38 (fun _ => .int 0)) 37 4 (.ref 38)) 39 (fun _ => .int 0)) 37 5 (.ref 39)) 40 (fun _ => .int 0)) 37 6 (.ref 40)) 41 (fun _ => .int 0)) 37 7 (.ref 41)) 42 (fun _ => .int 0)) 37 10 (.ref 42)) 43 (fun _ => .int 0)) 37 11 (.ref 43)) 44 (fun _ => .int 0)) 37 12 (.ref 44)) 45 (fun _ => .int 0)) 37 14 (.ref 45)) 46 (fun _ => .int 0)) 37 15 (.ref 46)) 47 (fun _ => .int 0)) 37 16 (.ref 47)) 48 (fun _ => .int 0)) 37 17 (.ref 48)) 6 (nI 6) dX9_init_88 rfl (by decide) rfl (show 49 < 57 by decide) ?_
  show J 90 [some (.ref 37), none] [.ref 49, .ref 37] (50, bf_fill (bf_up (bf_fill (bf_up (bf_fill (bf_up (bf_fill (bf_up (bf_fill (bf_up (bf_fill (bf_up (bf_fill (bf_up (bf_fill (bf_up (bf_fill (bf_up (bf_fill (bf_up (bf_fill (bf_up (bf_fill (h0) 38 (fun _ => .int 0)) 37 4 (.ref 38)) 39 (fun _ => .int 0)) 37 5 (.ref 39)) 40 (fun _ => .int 0)) 37 6 (.ref 40)) 41 (fun _ => .int 0)) 37 7 (.ref 41)) 42 (fun _ => .int 0)) 37 10 (.ref 42)) 43 (fun _ => .int 0)) 37 11 (.ref 43)) 44 (fun _ => .int 0)) 37 12 (.ref 44)) 45 (fun _ => .int 0)) 37 14 (.ref 45)) 46 (fun _ => .int 0)) 37 15 (.ref 46)) 47 (fun _ => .int 0)) 37 16 (.ref 47)) 48 (fun _ => .int 0)) 37 17 (.ref 48)) 49 (fun _ => .int 0))
  refine r.2.2.1 90 [some (.ref 37), none] [] (50, bf_fill (bf_up (bf_fill (bf_up (bf_fill (bf_up (bf_fill (bf_up (bf_fill (bf_up (bf_fill (bf_up (bf_fill (bf_up (bf_fill (bf_up (bf_fill (bf_up (bf_fill (bf_up (bf_fill (bf_up (bf_fill (h0) 38 (fun _ => .int 0)) 37 4 (.ref 38)) 39 (fun _ => .int 0)) 37 5 (.ref 39)) 40 (fun _ => .int 0)) 37 6 (.ref 40)) 41 (fun _ => .int 0)) 37 7 (.ref 41)) 42 (fun _ => .int 0)) 37 10 (.ref 42)) 43 (fun _ => .int 0)) 37 11 (.ref 43)) 44 (fun _ => .int 0)) 37 12 (.ref 44)) 45 (fun _ => .int 0)) 37 14 (.ref 45)) 46 (fun _ => .int 0)) 37 15 (.ref 46)) 47 (fun _ => .int 0)) 37 16 (.ref 47)) 48 (fun _ => .int 0)) 37 17 (.ref 48)) 49 (fun _ => .int 0)) 43 8 18 37 49 dX9_init_90 ff_X9_43 rfl rfl (show 37 < 50 by decide) ?_
  show J 93 [some (.ref 37), none] [] (50, bf_up (bf_fill (bf_up (bf_fill (bf_up (bf_fill (bf_up (bf_fill (bf_up (bf_fill (bf_up (bf_fill (bf_up (bf_fill (bf_up (bf_fill (bf_up (bf_fill (bf_up (bf_fill (bf_up (bf_fill (bf_up (bf_fill (h0) 38 (fun _ => .int 0)) 37 4 (.ref 38)) 39 (fun _ => .int 0)) 37 5 (.ref 39)) 40 (fun _ => .int 0)) 37 6 (.ref 40)) 41 (fun _ => .int 0)) 37 7 (.ref 41)) 42 (fun _ => .int 0)) 37 10 (.ref 42)) 43 (fun _ => .int 0)) 37 11 (.ref 43)) 44 (fun _ => .int 0)) 37 12 (.ref 44)) 45 (fun _ => .int 0)) 37 14 (.ref 45)) 46 (fun _ => .int 0)) 37 15 (.ref 46)) 47 (fun _ => .int 0)) 37 16 (.ref 47)) 48 (fun _ => .int 0)) 37 17 (.ref 48)) 49 (fun _ => .int 0)) 37 18 (.ref 49))
  refine bf_aload_n r.1 dX9_init_93 rfl ?_
  refine bf_bipush r.1 (v := nI 8) dX9_init_94 rfl ?_
  refine r.2.1.2.2.2.2.2.1 96 [some (.ref 37), none] [.ref 37] (50, bf_up (bf_fill (bf_up (bf_fill (bf_up (bf_fill (bf_up (bf_fill (bf_up (bf_fill (bf_up (bf_fill (bf_up (bf_fill (bf_up (bf_fill (bf_up (bf_fill (bf_up (bf_fill (bf_up (bf_fill (bf_up (bf_fill (h0) 38 (fun _ => .int 0)) 37 4 (.ref 38)) 39 (fun _ => .int 0)) 37 5 (.ref 39)) 40 (fun _ => .int 0)) 37 6 (.ref 40)) 41 (fun _ => .int 0)) 37 7 (.ref 41)) 42 (fun _ => .int 0)) 37 10 (.ref 42)) 43 (fun _ => .int 0)) 37 11 (.ref 43)) 44 (fun _ => .int 0)) 37 12 (.ref 44)) 45 (fun _ => .int 0)) 37 14 (.ref 45)) 46 (fun _ => .int 0)) 37 15 (.ref 46)) 47 (fun _ => .int 0)) 37 16 (.ref 47)) 48 (fun _ => .int 0)) 37 17 (.ref 48)) 49 (fun _ => .int 0)) 37 18 (.ref 49)) 8 (nI 8) dX9_init_96 rfl (by decide) rfl (show 50 < 57 by decide) ?_
  show J 98 [some (.ref 37), none] [.ref 50, .ref 37] (51, bf_fill (bf_up (bf_fill (bf_up (bf_fill (bf_up (bf_fill (bf_up (bf_fill (bf_up (bf_fill (bf_up (bf_fill (bf_up (bf_fill (bf_up (bf_fill (bf_up (bf_fill (bf_up (bf_fill (bf_up (bf_fill (bf_up (bf_fill (h0) 38 (fun _ => .int 0)) 37 4 (.ref 38)) 39 (fun _ => .int 0)) 37 5 (.ref 39)) 40 (fun _ => .int 0)) 37 6 (.ref 40)) 41 (fun _ => .int 0)) 37 7 (.ref 41)) 42 (fun _ => .int 0)) 37 10 (.ref 42)) 43 (fun _ => .int 0)) 37 11 (.ref 43)) 44 (fun _ => .int 0)) 37 12 (.ref 44)) 45 (fun _ => .int 0)) 37 14 (.ref 45)) 46 (fun _ => .int 0)) 37 15 (.ref 46)) 47 (fun _ => .int 0)) 37 16 (.ref 47)) 48 (fun _ => .int 0)) 37 17 (.ref 48)) 49 (fun _ => .int 0)) 37 18 (.ref 49)) 50 (fun _ => .int 0))
  refine r.2.2.1 98 [some (.ref 37), none] [] (51, bf_fill (bf_up (bf_fill (bf_up (bf_fill (bf_up (bf_fill (bf_up (bf_fill (bf_up (bf_fill (bf_up (bf_fill (bf_up (bf_fill (bf_up (bf_fill (bf_up (bf_fill (bf_up (bf_fill (bf_up (bf_fill (bf_up (bf_fill (h0) 38 (fun _ => .int 0)) 37 4 (.ref 38)) 39 (fun _ => .int 0)) 37 5 (.ref 39)) 40 (fun _ => .int 0)) 37 6 (.ref 40)) 41 (fun _ => .int 0)) 37 7 (.ref 41)) 42 (fun _ => .int 0)) 37 10 (.ref 42)) 43 (fun _ => .int 0)) 37 11 (.ref 43)) 44 (fun _ => .int 0)) 37 12 (.ref 44)) 45 (fun _ => .int 0)) 37 14 (.ref 45)) 46 (fun _ => .int 0)) 37 15 (.ref 46)) 47 (fun _ => .int 0)) 37 16 (.ref 47)) 48 (fun _ => .int 0)) 37 17 (.ref 48)) 49 (fun _ => .int 0)) 37 18 (.ref 49)) 50 (fun _ => .int 0)) 46 8 20 37 50 dX9_init_98 ff_X9_46 rfl rfl (show 37 < 51 by decide) ?_
  show J 101 [some (.ref 37), none] [] (51, bf_up (bf_fill (bf_up (bf_fill (bf_up (bf_fill (bf_up (bf_fill (bf_up (bf_fill (bf_up (bf_fill (bf_up (bf_fill (bf_up (bf_fill (bf_up (bf_fill (bf_up (bf_fill (bf_up (bf_fill (bf_up (bf_fill (bf_up (bf_fill (h0) 38 (fun _ => .int 0)) 37 4 (.ref 38)) 39 (fun _ => .int 0)) 37 5 (.ref 39)) 40 (fun _ => .int 0)) 37 6 (.ref 40)) 41 (fun _ => .int 0)) 37 7 (.ref 41)) 42 (fun _ => .int 0)) 37 10 (.ref 42)) 43 (fun _ => .int 0)) 37 11 (.ref 43)) 44 (fun _ => .int 0)) 37 12 (.ref 44)) 45 (fun _ => .int 0)) 37 14 (.ref 45)) 46 (fun _ => .int 0)) 37 15 (.ref 46)) 47 (fun _ => .int 0)) 37 16 (.ref 47)) 48 (fun _ => .int 0)) 37 17 (.ref 48)) 49 (fun _ => .int 0)) 37 18 (.ref 49)) 50 (fun _ => .int 0)) 37 20 (.ref 50))
  refine bf_aload_n r.1 dX9_init_101 rfl ?_
  refine bf_bipush r.1 (v := nI 8) dX9_init_102 rfl ?_
  refine r.2.1.2.2.2.2.2.1 104 [some (.ref 37), none] [.ref 37] (51, bf_up (bf_fill (bf_up (bf_fill (bf_up (bf_fill (bf_up (bf_fill (bf_up (bf_fill (bf_up (bf_fill (bf_up (bf_fill (bf_up (bf_fill (bf_up (bf_fill (bf_up (bf_fill (bf_up (bf_fill (bf_up (bf_fill (bf_up (bf_fill (h0) 38 (fun _ => .int 0)) 37 4 (.ref 38)) 39 (fun _ => .int 0)) 37 5 (.ref 39)) 40 (fun _ => .int 0)) 37 6 (.ref 40)) 41 (fun _ => .int 0)) 37 7 (.ref 41)) 42 (fun _ => .int 0)) 37 10 (.ref 42)) 43 (fun _ => .int 0)) 37 11 (.ref 43)) 44 (fun _ => .int 0)) 37 12 (.ref 44)) 45 (fun _ => .int 0)) 37 14 (.ref 45)) 46 (fun _ => .int 0)) 37 15 (.ref 46)) 47 (fun _ => .int 0)) 37 16 (.ref 47)) 48 (fun _ => .int 0)) 37 17 (.ref 48)) 49 (fun _ => .int 0)) 37 18 (.ref 49)) 50 (fun _ => .int 0)) 37 20 (.ref 50)) 8 (nI 8) dX9_init_104 rfl (by decide) rfl (show 51 < 57 by decide) ?_
  show J 106 [some (.ref 37), none] [.ref 51, .ref 37] (52, bf_fill (bf_up (bf_fill (bf_up (bf_fill (bf_up (bf_fill (bf_up (bf_fill (bf_up (bf_fill (bf_up (bf_fill (bf_up (bf_fill (bf_up (bf_fill (bf_up (bf_fill (bf_up (bf_fill (bf_up (bf_fill (bf_up (bf_fill (bf_up (bf_fill (h0) 38 (fun _ => .int 0)) 37 4 (.ref 38)) 39 (fun _ => .int 0)) 37 5 (.ref 39)) 40 (fun _ => .int 0)) 37 6 (.ref 40)) 41 (fun _ => .int 0)) 37 7 (.ref 41)) 42 (fun _ => .int 0)) 37 10 (.ref 42)) 43 (fun _ => .int 0)) 37 11 (.ref 43)) 44 (fun _ => .int 0)) 37 12 (.ref 44)) 45 (fun _ => .int 0)) 37 14 (.ref 45)) 46 (fun _ => .int 0)) 37 15 (.ref 46)) 47 (fun _ => .int 0)) 37 16 (.ref 47)) 48 (fun _ => .int 0)) 37 17 (.ref 48)) 49 (fun _ => .int 0)) 37 18 (.ref 49)) 50 (fun _ => .int 0)) 37 20 (.ref 50)) 51 (fun _ => .int 0))
  refine r.2.2.1 106 [some (.ref 37), none] [] (52, bf_fill (bf_up (bf_fill (bf_up (bf_fill (bf_up (bf_fill (bf_up (bf_fill (bf_up (bf_fill (bf_up (bf_fill (bf_up (bf_fill (bf_up (bf_fill (bf_up (bf_fill (bf_up (bf_fill (bf_up (bf_fill (bf_up (bf_fill (bf_up (bf_fill (h0) 38 (fun _ => .int 0)) 37 4 (.ref 38)) 39 (fun _ => .int 0)) 37 5 (.ref 39)) 40 (fun _ => .int 0)) 37 6 (.ref 40)) 41 (fun _ => .int 0)) 37 7 (.ref 41)) 42 (fun _ => .int 0)) 37 10 (.ref 42)) 43 (fun _ => .int 0)) 37 11 (.ref 43)) 44 (fun _ => .int 0)) 37 12 (.ref 44)) 45 (fun _ => .int 0)) 37 14 (.ref 45)) 46 (fun _ => .int 0)) 37 15 (.ref 46)) 47 (fun _ => .int 0)) 37 16 (.ref 47)) 48 (fun _ => .int 0)) 37 17 (.ref 48)) 49 (fun _ => .int 0)) 37 18 (.ref 49)) 50 (fun _ => .int 0)) 37 20 (.ref 50)) 51 (fun _ => .int 0)) 49 8 21 37 51 dX9_init_106 ff_X9_49 rfl rfl (show 37 < 52 by decide) ?_
  show J 109 [some (.ref 37), none] [] (52, bf_up (bf_fill (bf_up (bf_fill (bf_up (bf_fill (bf_up (bf_fill (bf_up (bf_fill (bf_up (bf_fill (bf_up (bf_fill (bf_up (bf_fill (bf_up (bf_fill (bf_up (bf_fill (bf_up (bf_fill (bf_up (bf_fill (bf_up (bf_fill (bf_up (bf_fill (h0) 38 (fun _ => .int 0)) 37 4 (.ref 38)) 39 (fun _ => .int 0)) 37 5 (.ref 39)) 40 (fun _ => .int 0)) 37 6 (.ref 40)) 41 (fun _ => .int 0)) 37 7 (.ref 41)) 42 (fun _ => .int 0)) 37 10 (.ref 42)) 43 (fun _ => .int 0)) 37 11 (.ref 43)) 44 (fun _ => .int 0)) 37 12 (.ref 44)) 45 (fun _ => .int 0)) 37 14 (.ref 45)) 46 (fun _ => .int 0)) 37 15 (.ref 46)) 47 (fun _ => .int 0)) 37 16 (.ref 47)) 48 (fun _ => .int 0)) 37 17 (.ref 48)) 49 (fun _ => .int 0)) 37 18 (.ref 49)) 50 (fun _ => .int 0)) 37 20 (.ref 50)) 51 (fun _ => .int 0)) 37 21 (.ref 51))
  refine bf_aload_n r.1 dX9_init_109 rfl ?_
  refine bf_bipush r.1 (v := nI 8) dX9_init_110 rfl ?_
  refine r.2.1.2.2.2.2.2.1 112 [some (.ref 37), none] [.ref 37] (52, bf_up (bf_fill (bf_up (bf_fill (bf_up (bf_fill (bf_up (bf_fill (bf_up (bf_fill (bf_up (bf_fill (bf_up (bf_fill (bf_up (bf_fill (bf_up (bf_fill (bf_up (bf_fill (bf_up (bf_fill (bf_up (bf_fill (bf_up (bf_fill (bf_up (bf_fill (h0) 38 (fun _ => .int 0)) 37 4 (.ref 38)) 39 (fun _ => .int 0)) 37 5 (.ref 39)) 40 (fun _ => .int 0)) 37 6 (.ref 40)) 41 (fun _ => .int 0)) 37 7 (.ref 41)) 42 (fun _ => .int 0)) 37 10 (.ref 42)) 43 (fun _ => .int 0)) 37 11 (.ref 43)) 44 (fun _ => .int 0)) 37 12 (.ref 44)) 45 (fun _ => .int 0)) 37 14 (.ref 45)) 46 (fun _ => .int 0)) 37 15 (.ref 46)) 47 (fun _ => .int 0)) 37 16 (.ref 47)) 48 (fun _ => .int 0)) 37 17 (.ref 48)) 49 (fun _ => .int 0)) 37 18 (.ref 49)) 50 (fun _ => .int 0)) 37 20 (.ref 50)) 51 (fun _ => .int 0)) 37 21 (.ref 51)) 8 (nI 8) dX9_init_112 rfl (by decide) rfl (show 52 < 57 by decide) ?_
  show J 114 [some (.ref 37), none] [.ref 52, .ref 37] (53, bf_fill (bf_up (bf_fill (bf_up (bf_fill (bf_up (bf_fill (bf_up (bf_fill (bf_up (bf_fill (bf_up (bf_fill (bf_up (bf_fill (bf_up (bf_fill (bf_up (bf_fill (bf_up (bf_fill (bf_up (bf_fill (bf_up (bf_fill (bf_up (bf_fill (bf_up (bf_fill (h0) 38 (fun _ => .int 0)) 37 4 (.ref 38)) 39 (fun _ => .int 0)) 37 5 (.ref 39)) 40 (fun _ => .int 0)) 37 6 (.ref 40)) 41 (fun _ => .int 0)) 37 7 (.ref 41)) 42 (fun _ => .int 0)) 37 10 (.ref 42)) 43 (fun _ => .int 0)) 37 11 (.ref 43)) 44 (fun _ => .int 0)) 37 12 (.ref 44)) 45 (fun _ => .int 0)) 37 14 (.ref 45)) 46 (fun _ => .int 0)) 37 15 (.ref 46)) 47 (fun _ => .int 0)) 37 16 (.ref 47)) 48 (fun _ => .int 0)) 37 17 (.ref 48)) 49 (fun _ => .int 0)) 37 18 (.ref 49)) 50 (fun _ => .int 0)) 37 20 (.ref 50)) 51 (fun _ => .int 0)) 37 21 (.ref 51)) 52 (fun _ => .int 0))
  refine r.2.2.1 114 [some (.ref 37), none] [] (53, bf_fill (bf_up (bf_fill (bf_up (bf_fill (bf_up (bf_fill (bf_up (bf_fill (bf_up (bf_fill (bf_up (bf_fill (bf_up (bf_fill (bf_up (bf_fill (bf_up (bf_fill (bf_up (bf_fill (bf_up (bf_fill (bf_up (bf_fill (bf_up (bf_fill (bf_up (bf_fill (h0) 38 (fun _ => .int 0)) 37 4 (.ref 38)) 39 (fun _ => .int 0)) 37 5 (.ref 39)) 40 (fun _ => .int 0)) 37 6 (.ref 40)) 41 (fun _ => .int 0)) 37 7 (.ref 41)) 42 (fun _ => .int 0)) 37 10 (.ref 42)) 43 (fun _ => .int 0)) 37 11 (.ref 43)) 44 (fun _ => .int 0)) 37 12 (.ref 44)) 45 (fun _ => .int 0)) 37 14 (.ref 45)) 46 (fun _ => .int 0)) 37 15 (.ref 46)) 47 (fun _ => .int 0)) 37 16 (.ref 47)) 48 (fun _ => .int 0)) 37 17 (.ref 48)) 49 (fun _ => .int 0)) 37 18 (.ref 49)) 50 (fun _ => .int 0)) 37 20 (.ref 50)) 51 (fun _ => .int 0)) 37 21 (.ref 51)) 52 (fun _ => .int 0)) 52 8 22 37 52 dX9_init_114 ff_X9_52 rfl rfl (show 37 < 53 by decide) ?_
  show J 117 [some (.ref 37), none] [] (53, bf_up (bf_fill (bf_up (bf_fill (bf_up (bf_fill (bf_up (bf_fill (bf_up (bf_fill (bf_up (bf_fill (bf_up (bf_fill (bf_up (bf_fill (bf_up (bf_fill (bf_up (bf_fill (bf_up (bf_fill (bf_up (bf_fill (bf_up (bf_fill (bf_up (bf_fill (bf_up (bf_fill (h0) 38 (fun _ => .int 0)) 37 4 (.ref 38)) 39 (fun _ => .int 0)) 37 5 (.ref 39)) 40 (fun _ => .int 0)) 37 6 (.ref 40)) 41 (fun _ => .int 0)) 37 7 (.ref 41)) 42 (fun _ => .int 0)) 37 10 (.ref 42)) 43 (fun _ => .int 0)) 37 11 (.ref 43)) 44 (fun _ => .int 0)) 37 12 (.ref 44)) 45 (fun _ => .int 0)) 37 14 (.ref 45)) 46 (fun _ => .int 0)) 37 15 (.ref 46)) 47 (fun _ => .int 0)) 37 16 (.ref 47)) 48 (fun _ => .int 0)) 37 17 (.ref 48)) 49 (fun _ => .int 0)) 37 18 (.ref 49)) 50 (fun _ => .int 0)) 37 20 (.ref 50)) 51 (fun _ => .int 0)) 37 21 (.ref 51)) 52 (fun _ => .int 0)) 37 22 (.ref 52))
  refine bf_aload_n r.1 dX9_init_117 rfl ?_
  refine bf_iconst r.1 (v := nI 4) dX9_init_118 rfl ?_
  refine r.2.1.2.2.2.2.2.1 119 [some (.ref 37), none] [.ref 37] (53, bf_up (bf_fill (bf_up (bf_fill (bf_up (bf_fill (bf_up (bf_fill (bf_up (bf_fill (bf_up (bf_fill (bf_up (bf_fill (bf_up (bf_fill (bf_up (bf_fill (bf_up (bf_fill (bf_up (bf_fill (bf_up (bf_fill (bf_up (bf_fill (bf_up (bf_fill (bf_up (bf_fill (h0) 38 (fun _ => .int 0)) 37 4 (.ref 38)) 39 (fun _ => .int 0)) 37 5 (.ref 39)) 40 (fun _ => .int 0)) 37 6 (.ref 40)) 41 (fun _ => .int 0)) 37 7 (.ref 41)) 42 (fun _ => .int 0)) 37 10 (.ref 42)) 43 (fun _ => .int 0)) 37 11 (.ref 43)) 44 (fun _ => .int 0)) 37 12 (.ref 44)) 45 (fun _ => .int 0)) 37 14 (.ref 45)) 46 (fun _ => .int 0)) 37 15 (.ref 46)) 47 (fun _ => .int 0)) 37 16 (.ref 47)) 48 (fun _ => .int 0)) 37 17 (.ref 48)) 49 (fun _ => .int 0)) 37 18 (.ref 49)) 50 (fun _ => .int 0)) 37 20 (.ref 50)) 51 (fun _ => .int 0)) 37 21 (.ref 51)) 52 (fun _ => .int 0)) 37 22 (.ref 52)) 4 (nI 4) dX9_init_119 rfl (by decide) rfl (show 53 < 57 by decide) ?_
  show J 121 [some (.ref 37), none] [.ref 53, .ref 37] (54, bf_fill (bf_up (bf_fill (bf_up (bf_fill (bf_up (bf_fill (bf_up (bf_fill (bf_up (bf_fill (bf_up (bf_fill (bf_up (bf_fill (bf_up (bf_fill (bf_up (bf_fill (bf_up (bf_fill (bf_up (bf_fill (bf_up (bf_fill (bf_up (bf_fill (bf_up (bf_fill (bf_up (bf_fill (h0) 38 (fun _ => .int 0)) 37 4 (.ref 38)) 39 (fun _ => .int 0)) 37 5 (.ref 39)) 40 (fun _ => .int 0)) 37 6 (.ref 40)) 41 (fun _ => .int 0)) 37 7 (.ref 41)) 42 (fun _ => .int 0)) 37 10 (.ref 42)) 43 (fun _ => .int 0)) 37 11 (.ref 43)) 44 (fun _ => .int 0)) 37 12 (.ref 44)) 45 (fun _ => .int 0)) 37 14 (.ref 45)) 46 (fun _ => .int 0)) 37 15 (.ref 46)) 47 (fun _ => .int 0)) 37 16 (.ref 47)) 48 (fun _ => .int 0)) 37 17 (.ref 48)) 49 (fun _ => .int 0)) 37 18 (.ref 49)) 50 (fun _ => .int 0)) 37 20 (.ref 50)) 51 (fun _ => .int 0)) 37 21 (.ref 51)) 52 (fun _ => .int 0)) 37 22 (.ref 52)) 53 (fun _ => .int 0))
  refine r.2.2.1 121 [some (.ref 37), none] [] (54, bf_fill (bf_up (bf_fill (bf_up (bf_fill (bf_up (bf_fill (bf_up (bf_fill (bf_up (bf_fill (bf_up (bf_fill (bf_up (bf_fill (bf_up (bf_fill (bf_up (bf_fill (bf_up (bf_fill (bf_up (bf_fill (bf_up (bf_fill (bf_up (bf_fill (bf_up (bf_fill (bf_up (bf_fill (h0) 38 (fun _ => .int 0)) 37 4 (.ref 38)) 39 (fun _ => .int 0)) 37 5 (.ref 39)) 40 (fun _ => .int 0)) 37 6 (.ref 40)) 41 (fun _ => .int 0)) 37 7 (.ref 41)) 42 (fun _ => .int 0)) 37 10 (.ref 42)) 43 (fun _ => .int 0)) 37 11 (.ref 43)) 44 (fun _ => .int 0)) 37 12 (.ref 44)) 45 (fun _ => .int 0)) 37 14 (.ref 45)) 46 (fun _ => .int 0)) 37 15 (.ref 46)) 47 (fun _ => .int 0)) 37 16 (.ref 47)) 48 (fun _ => .int 0)) 37 17 (.ref 48)) 49 (fun _ => .int 0)) 37 18 (.ref 49)) 50 (fun _ => .int 0)) 37 20 (.ref 50)) 51 (fun _ => .int 0)) 37 21 (.ref 51)) 52 (fun _ => .int 0)) 37 22 (.ref 52)) 53 (fun _ => .int 0)) 55 8 23 37 53 dX9_init_121 ff_X9_55 rfl rfl (show 37 < 54 by decide) ?_
  show J 124 [some (.ref 37), none] [] (54, bf_up (bf_fill (bf_up (bf_fill (bf_up (bf_fill (bf_up (bf_fill (bf_up (bf_fill (bf_up (bf_fill (bf_up (bf_fill (bf_up (bf_fill (bf_up (bf_fill (bf_up (bf_fill (bf_up (bf_fill (bf_up (bf_fill (bf_up (bf_fill (bf_up (bf_fill (bf_up (bf_fill (bf_up (bf_fill (h0) 38 (fun _ => .int 0)) 37 4 (.ref 38)) 39 (fun _ => .int 0)) 37 5 (.ref 39)) 40 (fun _ => .int 0)) 37 6 (.ref 40)) 41 (fun _ => .int 0)) 37 7 (.ref 41)) 42 (fun _ => .int 0)) 37 10 (.ref 42)) 43 (fun _ => .int 0)) 37 11 (.ref 43)) 44 (fun _ => .int 0)) 37 12 (.ref 44)) 45 (fun _ => .int 0)) 37 14 (.ref 45)) 46 (fun _ => .int 0)) 37 15 (.ref 46)) 47 (fun _ => .int 0)) 37 16 (.ref 47)) 48 (fun _ => .int 0)) 37 17 (.ref 48)) 49 (fun _ => .int 0)) 37 18 (.ref 49)) 50 (fun _ => .int 0)) 37 20 (.ref 50)) 51 (fun _ => .int 0)) 37 21 (.ref 51)) 52 (fun _ => .int 0)) 37 22 (.ref 52)) 53 (fun _ => .int 0)) 37 23 (.ref 53))
  refine bf_aload_n r.1 dX9_init_124 rfl ?_
  refine bf_iconst r.1 (v := nI 4) dX9_init_125 rfl ?_
  refine r.2.1.2.2.2.2.2.1 126 [some (.ref 37), none] [.ref 37] (54, bf_up (bf_fill (bf_up (bf_fill (bf_up (bf_fill (bf_up (bf_fill (bf_up (bf_fill (bf_up (bf_fill (bf_up (bf_fill (bf_up (bf_fill (bf_up (bf_fill (bf_up (bf_fill (bf_up (bf_fill (bf_up (bf_fill (bf_up (bf_fill (bf_up (bf_fill (bf_up (bf_fill (bf_up (bf_fill (h0) 38 (fun _ => .int 0)) 37 4 (.ref 38)) 39 (fun _ => .int 0)) 37 5 (.ref 39)) 40 (fun _ => .int 0)) 37 6 (.ref 40)) 41 (fun _ => .int 0)) 37 7 (.ref 41)) 42 (fun _ => .int 0)) 37 10 (.ref 42)) 43 (fun _ => .int 0)) 37 11 (.ref 43)) 44 (fun _ => .int 0)) 37 12 (.ref 44)) 45 (fun _ => .int 0)) 37 14 (.ref 45)) 46 (fun _ => .int 0)) 37 15 (.ref 46)) 47 (fun _ => .int 0)) 37 16 (.ref 47)) 48 (fun _ => .int 0)) 37 17 (.ref 48)) 49 (fun _ => .int 0)) 37 18 (.ref 49)) 50 (fun _ => .int 0)) 37 20 (.ref 50)) 51 (fun _ => .int 0)) 37 21 (.ref 51)) 52 (fun _ => .int 0)) 37 22 (.ref 52)) 53 (fun _ => .int 0)) 37 23 (.ref 53)) 4 (nI 4) dX9_init_126 rfl (by decide) rfl (show 54 < 57 by decide) ?_
  show J 128 [some (.ref 37), none] [.ref 54, .ref 37] (55, bf_fill (bf_up (bf_fill (bf_up (bf_fill (bf_up (bf_fill (bf_up (bf_fill (bf_up (bf_fill (bf_up (bf_fill (bf_up (bf_fill (bf_up (bf_fill (bf_up (bf_fill (bf_up (bf_fill (bf_up (bf_fill (bf_up (bf_fill (bf_up (bf_fill (bf_up (bf_fill (bf_up (bf_fill (bf_up (bf_fill (h0) 38 (fun _ => .int 0)) 37 4 (.ref 38)) 39 (fun _ => .int 0)) 37 5 (.ref 39)) 40 (fun _ => .int 0)) 37 6 (.ref 40)) 41 (fun _ => .int 0)) 37 7 (.ref 41)) 42 (fun _ => .int 0)) 37 10 (.ref 42)) 43 (fun _ => .int 0)) 37 11 (.ref 43)) 44 (fun _ => .int 0)) 37 12 (.ref 44)) 45 (fun _ => .int 0)) 37 14 (.ref 45)) 46 (fun _ => .int 0)) 37 15 (.ref 46)) 47 (fun _ => .int 0)) 37 16 (.ref 47)) 48 (fun _ => .int 0)) 37 17 (.ref 48)) 49 (fun _ => .int 0)) 37 18 (.ref 49)) 50 (fun _ => .int 0)) 37 20 (.ref 50)) 51 (fun _ => .int 0)) 37 21 (.ref 51)) 52 (fun _ => .int 0)) 37 22 (.ref 52)) 53 (fun _ => .int 0)) 37 23 (.ref 53)) 54 (fun _ => .int 0))
  refine r.2.2.1 128 [some (.ref 37), none] [] (55, bf_fill (bf_up (bf_fill (bf_up (bf_fill (bf_up (bf_fill (bf_up (bf_fill (bf_up (bf_fill (bf_up (bf_fill (bf_up (bf_fill (bf_up (bf_fill (bf_up (bf_fill (bf_up (bf_fill (bf_up (bf_fill (bf_up (bf_fill (bf_up (bf_fill (bf_up (bf_fill (bf_up (bf_fill (bf_up (bf_fill (h0) 38 (fun _ => .int 0)) 37 4 (.ref 38)) 39 (fun _ => .int 0)) 37 5 (.ref 39)) 40 (fun _ => .int 0)) 37 6 (.ref 40)) 41 (fun _ => .int 0)) 37 7 (.ref 41)) 42 (fun _ => .int 0)) 37 10 (.ref 42)) 43 (fun _ => .int 0)) 37 11 (.ref 43)) 44 (fun _ => .int 0)) 37 12 (.ref 44)) 45 (fun _ => .int 0)) 37 14 (.ref 45)) 46 (fun _ => .int 0)) 37 15 (.ref 46)) 47 (fun _ => .int 0)) 37 16 (.ref 47)) 48 (fun _ => .int 0)) 37 17 (.ref 48)) 49 (fun _ => .int 0)) 37 18 (.ref 49)) 50 (fun _ => .int 0)) 37 20 (.ref 50)) 51 (fun _ => .int 0)) 37 21 (.ref 51)) 52 (fun _ => .int 0)) 37 22 (.ref 52)) 53 (fun _ => .int 0)) 37 23 (.ref 53)) 54 (fun _ => .int 0)) 58 8 24 37 54 dX9_init_128 ff_X9_58 rfl rfl (show 37 < 55 by decide) ?_
  show J 131 [some (.ref 37), none] [] (55, bf_up (bf_fill (bf_up (bf_fill (bf_up (bf_fill (bf_up (bf_fill (bf_up (bf_fill (bf_up (bf_fill (bf_up (bf_fill (bf_up (bf_fill (bf_up (bf_fill (bf_up (bf_fill (bf_up (bf_fill (bf_up (bf_fill (bf_up (bf_fill (bf_up (bf_fill (bf_up (bf_fill (bf_up (bf_fill (bf_up (bf_fill (h0) 38 (fun _ => .int 0)) 37 4 (.ref 38)) 39 (fun _ => .int 0)) 37 5 (.ref 39)) 40 (fun _ => .int 0)) 37 6 (.ref 40)) 41 (fun _ => .int 0)) 37 7 (.ref 41)) 42 (fun _ => .int 0)) 37 10 (.ref 42)) 43 (fun _ => .int 0)) 37 11 (.ref 43)) 44 (fun _ => .int 0)) 37 12 (.ref 44)) 45 (fun _ => .int 0)) 37 14 (.ref 45)) 46 (fun _ => .int 0)) 37 15 (.ref 46)) 47 (fun _ => .int 0)) 37 16 (.ref 47)) 48 (fun _ => .int 0)) 37 17 (.ref 48)) 49 (fun _ => .int 0)) 37 18 (.ref 49)) 50 (fun _ => .int 0)) 37 20 (.ref 50)) 51 (fun _ => .int 0)) 37 21 (.ref 51)) 52 (fun _ => .int 0)) 37 22 (.ref 52)) 53 (fun _ => .int 0)) 37 23 (.ref 53)) 54 (fun _ => .int 0)) 37 24 (.ref 54))
  refine bf_aload_n r.1 dX9_init_131 rfl ?_
  refine bf_sipush r.1 (v := nI 240) dX9_init_132 rfl ?_
  refine r.2.1.2.2.2.2.2.1 135 [some (.ref 37), none] [.ref 37] (55, bf_up (bf_fill (bf_up (bf_fill (bf_up (bf_fill (bf_up (bf_fill (bf_up (bf_fill (bf_up (bf_fill (bf_up (bf_fill (bf_up (bf_fill (bf_up (bf_fill (bf_up (bf_fill (bf_up (bf_fill (bf_up (bf_fill (bf_up (bf_fill (bf_up (bf_fill (bf_up (bf_fill (bf_up (bf_fill (bf_up (bf_fill (h0) 38 (fun _ => .int 0)) 37 4 (.ref 38)) 39 (fun _ => .int 0)) 37 5 (.ref 39)) 40 (fun _ => .int 0)) 37 6 (.ref 40)) 41 (fun _ => .int 0)) 37 7 (.ref 41)) 42 (fun _ => .int 0)) 37 10 (.ref 42)) 43 (fun _ => .int 0)) 37 11 (.ref 43)) 44 (fun _ => .int 0)) 37 12 (.ref 44)) 45 (fun _ => .int 0)) 37 14 (.ref 45)) 46 (fun _ => .int 0)) 37 15 (.ref 46)) 47 (fun _ => .int 0)) 37 16 (.ref 47)) 48 (fun _ => .int 0)) 37 17 (.ref 48)) 49 (fun _ => .int 0)) 37 18 (.ref 49)) 50 (fun _ => .int 0)) 37 20 (.ref 50)) 51 (fun _ => .int 0)) 37 21 (.ref 51)) 52 (fun _ => .int 0)) 37 22 (.ref 52)) 53 (fun _ => .int 0)) 37 23 (.ref 53)) 54 (fun _ => .int 0)) 37 24 (.ref 54)) 240 (nI 240) dX9_init_135 rfl (by decide) rfl (show 55 < 57 by decide) ?_
  show J 137 [some (.ref 37), none] [.ref 55, .ref 37] (56, bf_fill (bf_up (bf_fill (bf_up (bf_fill (bf_up (bf_fill (bf_up (bf_fill (bf_up (bf_fill (bf_up (bf_fill (bf_up (bf_fill (bf_up (bf_fill (bf_up (bf_fill (bf_up (bf_fill (bf_up (bf_fill (bf_up (bf_fill (bf_up (bf_fill (bf_up (bf_fill (bf_up (bf_fill (bf_up (bf_fill (bf_up (bf_fill (h0) 38 (fun _ => .int 0)) 37 4 (.ref 38)) 39 (fun _ => .int 0)) 37 5 (.ref 39)) 40 (fun _ => .int 0)) 37 6 (.ref 40)) 41 (fun _ => .int 0)) 37 7 (.ref 41)) 42 (fun _ => .int 0)) 37 10 (.ref 42)) 43 (fun _ => .int 0)) 37 11 (.ref 43)) 44 (fun _ => .int 0)) 37 12 (.ref 44)) 45 (fun _ => .int 0)) 37 14 (.ref 45)) 46 (fun _ => .int 0)) 37 15 (.ref 46)) 47 (fun _ => .int 0)) 37 16 (.ref 47)) 48 (fun _ => .int 0)) 37 17 (.ref 48)) 49 (fun _ => .int 0)) 37 18 (.ref 49)) 50 (fun _ => .int 0)) 37 20 (.ref 50)) 51 (fun _ => .int 0)) 37 21 (.ref 51)) 52 (fun _ => .int 0)) 37 22 (.ref 52)) 53 (fun _ => .int 0)) 37 23 (.ref 53)) 54 (fun _ => .int 0)) 37 24 (.ref 54)) 55 (fun _ => .int 0))
  refine r.2.2.1 137 [some (.ref 37), none] [] (56, bf_fill (bf_up (bf_fill (bf_up (bf_fill (bf_up (bf_fill (bf_up (bf_fill (bf_up (bf_fill (bf_up (bf_fill (bf_up (bf_fill (bf_up (bf_fill (bf_up (bf_fill (bf_up (bf_fill (bf_up (bf_fill (bf_up (bf_fill (bf_up (bf_fill (bf_up (bf_fill (bf_up (bf_fill (bf_up (bf_fill (bf_up (bf_fill (h0) 38 (fun _ => .int 0)) 37 4 (.ref 38)) 39 (fun _ => .int 0)) 37 5 (.ref 39)) 40 (fun _ => .int 0)) 37 6 (.ref 40)) 41 (fun _ => .int 0)) 37 7 (.ref 41)) 42 (fun _ => .int 0)) 37 10 (.ref 42)) 43 (fun _ => .int 0)) 37 11 (.ref 43)) 44 (fun _ => .int 0)) 37 12 (.ref 44)) 45 (fun _ => .int 0)) 37 14 (.ref 45)) 46 (fun _ => .int 0)) 37 15 (.ref 46)) 47 (fun _ => .int 0)) 37 16 (.ref 47)) 48 (fun _ => .int 0)) 37 17 (.ref 48)) 49 (fun _ => .int 0)) 37 18 (.ref 49)) 50 (fun _ => .int 0)) 37 20 (.ref 50)) 51 (fun _ => .int 0)) 37 21 (.ref 51)) 52 (fun _ => .int 0)) 37 22 (.ref 52)) 53 (fun _ => .int 0)) 37 23 (.ref 53)) 54 (fun _ => .int 0)) 37 24 (.ref 54)) 55 (fun _ => .int 0)) 61 8 25 37 55 dX9_init_137 ff_X9_61 rfl rfl (show 37 < 56 by decide) ?_
  show J 140 [some (.ref 37), none] [] (56, bf_up (bf_fill (bf_up (bf_fill (bf_up (bf_fill (bf_up (bf_fill (bf_up (bf_fill (bf_up (bf_fill (bf_up (bf_fill (bf_up (bf_fill (bf_up (bf_fill (bf_up (bf_fill (bf_up (bf_fill (bf_up (bf_fill (bf_up (bf_fill (bf_up (bf_fill (bf_up (bf_fill (bf_up (bf_fill (bf_up (bf_fill (bf_up (bf_fill (h0) 38 (fun _ => .int 0)) 37 4 (.ref 38)) 39 (fun _ => .int 0)) 37 5 (.ref 39)) 40 (fun _ => .int 0)) 37 6 (.ref 40)) 41 (fun _ => .int 0)) 37 7 (.ref 41)) 42 (fun _ => .int 0)) 37 10 (.ref 42)) 43 (fun _ => .int 0)) 37 11 (.ref 43)) 44 (fun _ => .int 0)) 37 12 (.ref 44)) 45 (fun _ => .int 0)) 37 14 (.ref 45)) 46 (fun _ => .int 0)) 37 15 (.ref 46)) 47 (fun _ => .int 0)) 37 16 (.ref 47)) 48 (fun _ => .int 0)) 37 17 (.ref 48)) 49 (fun _ => .int 0)) 37 18 (.ref 49)) 50 (fun _ => .int 0)) 37 20 (.ref 50)) 51 (fun _ => .int 0)) 37 21 (.ref 51)) 52 (fun _ => .int 0)) 37 22 (.ref 52)) 53 (fun _ => .int 0)) 37 23 (.ref 53)) 54 (fun _ => .int 0)) 37 24 (.ref 54)) 55 (fun _ => .int 0)) 37 25 (.ref 55))
  refine bf_aload_n r.1 dX9_init_140 rfl ?_
  refine bf_bipush r.1 (v := nI 60) dX9_init_141 rfl ?_
  refine r.2.1.2.2.2.2.2.1 143 [some (.ref 37), none] [.ref 37] (56, bf_up (bf_fill (bf_up (bf_fill (bf_up (bf_fill (bf_up (bf_fill (bf_up (bf_fill (bf_up (bf_fill (bf_up (bf_fill (bf_up (bf_fill (bf_up (bf_fill (bf_up (bf_fill (bf_up (bf_fill (bf_up (bf_fill (bf_up (bf_fill (bf_up (bf_fill (bf_up (bf_fill (bf_up (bf_fill (bf_up (bf_fill (bf_up (bf_fill (h0) 38 (fun _ => .int 0)) 37 4 (.ref 38)) 39 (fun _ => .int 0)) 37 5 (.ref 39)) 40 (fun _ => .int 0)) 37 6 (.ref 40)) 41 (fun _ => .int 0)) 37 7 (.ref 41)) 42 (fun _ => .int 0)) 37 10 (.ref 42)) 43 (fun _ => .int 0)) 37 11 (.ref 43)) 44 (fun _ => .int 0)) 37 12 (.ref 44)) 45 (fun _ => .int 0)) 37 14 (.ref 45)) 46 (fun _ => .int 0)) 37 15 (.ref 46)) 47 (fun _ => .int 0)) 37 16 (.ref 47)) 48 (fun _ => .int 0)) 37 17 (.ref 48)) 49 (fun _ => .int 0)) 37 18 (.ref 49)) 50 (fun _ => .int 0)) 37 20 (.ref 50)) 51 (fun _ => .int 0)) 37 21 (.ref 51)) 52 (fun _ => .int 0)) 37 22 (.ref 52)) 53 (fun _ => .int 0)) 37 23 (.ref 53)) 54 (fun _ => .int 0)) 37 24 (.ref 54)) 55 (fun _ => .int 0)) 37 25 (.ref 55)) 60 (nI 60) dX9_init_143 rfl (by decide) rfl (show 56 < 57 by decide) ?_
  show J 145 [some (.ref 37), none] [.ref 56, .ref 37] (57, bf_fill (bf_up (bf_fill (bf_up (bf_fill (bf_up (bf_fill (bf_up (bf_fill (bf_up (bf_fill (bf_up (bf_fill (bf_up (bf_fill (bf_up (bf_fill (bf_up (bf_fill (bf_up (bf_fill (bf_up (bf_fill (bf_up (bf_fill (bf_up (bf_fill (bf_up (bf_fill (bf_up (bf_fill (bf_up (bf_fill (bf_up (bf_fill (bf_up (bf_fill (h0) 38 (fun _ => .int 0)) 37 4 (.ref 38)) 39 (fun _ => .int 0)) 37 5 (.ref 39)) 40 (fun _ => .int 0)) 37 6 (.ref 40)) 41 (fun _ => .int 0)) 37 7 (.ref 41)) 42 (fun _ => .int 0)) 37 10 (.ref 42)) 43 (fun _ => .int 0)) 37 11 (.ref 43)) 44 (fun _ => .int 0)) 37 12 (.ref 44)) 45 (fun _ => .int 0)) 37 14 (.ref 45)) 46 (fun _ => .int 0)) 37 15 (.ref 46)) 47 (fun _ => .int 0)) 37 16 (.ref 47)) 48 (fun _ => .int 0)) 37 17 (.ref 48)) 49 (fun _ => .int 0)) 37 18 (.ref 49)) 50 (fun _ => .int 0)) 37 20 (.ref 50)) 51 (fun _ => .int 0)) 37 21 (.ref 51)) 52 (fun _ => .int 0)) 37 22 (.ref 52)) 53 (fun _ => .int 0)) 37 23 (.ref 53)) 54 (fun _ => .int 0)) 37 24 (.ref 54)) 55 (fun _ => .int 0)) 37 25 (.ref 55)) 56 (fun _ => .int 0))
  refine r.2.2.1 145 [some (.ref 37), none] [] (57, bf_fill (bf_up (bf_fill (bf_up (bf_fill (bf_up (bf_fill (bf_up (bf_fill (bf_up (bf_fill (bf_up (bf_fill (bf_up (bf_fill (bf_up (bf_fill (bf_up (bf_fill (bf_up (bf_fill (bf_up (bf_fill (bf_up (bf_fill (bf_up (bf_fill (bf_up (bf_fill (bf_up (bf_fill (bf_up (bf_fill (bf_up (bf_fill (bf_up (bf_fill (h0) 38 (fun _ => .int 0)) 37 4 (.ref 38)) 39 (fun _ => .int 0)) 37 5 (.ref 39)) 40 (fun _ => .int 0)) 37 6 (.ref 40)) 41 (fun _ => .int 0)) 37 7 (.ref 41)) 42 (fun _ => .int 0)) 37 10 (.ref 42)) 43 (fun _ => .int 0)) 37 11 (.ref 43)) 44 (fun _ => .int 0)) 37 12 (.ref 44)) 45 (fun _ => .int 0)) 37 14 (.ref 45)) 46 (fun _ => .int 0)) 37 15 (.ref 46)) 47 (fun _ => .int 0)) 37 16 (.ref 47)) 48 (fun _ => .int 0)) 37 17 (.ref 48)) 49 (fun _ => .int 0)) 37 18 (.ref 49)) 50 (fun _ => .int 0)) 37 20 (.ref 50)) 51 (fun _ => .int 0)) 37 21 (.ref 51)) 52 (fun _ => .int 0)) 37 22 (.ref 52)) 53 (fun _ => .int 0)) 37 23 (.ref 53)) 54 (fun _ => .int 0)) 37 24 (.ref 54)) 55 (fun _ => .int 0)) 37 25 (.ref 55)) 56 (fun _ => .int 0)) 64 8 26 37 56 dX9_init_145 ff_X9_64 rfl rfl (show 37 < 57 by decide) ?_
  show J 148 [some (.ref 37), none] [] (57, bf_up (bf_fill (bf_up (bf_fill (bf_up (bf_fill (bf_up (bf_fill (bf_up (bf_fill (bf_up (bf_fill (bf_up (bf_fill (bf_up (bf_fill (bf_up (bf_fill (bf_up (bf_fill (bf_up (bf_fill (bf_up (bf_fill (bf_up (bf_fill (bf_up (bf_fill (bf_up (bf_fill (bf_up (bf_fill (bf_up (bf_fill (bf_up (bf_fill (bf_up (bf_fill (h0) 38 (fun _ => .int 0)) 37 4 (.ref 38)) 39 (fun _ => .int 0)) 37 5 (.ref 39)) 40 (fun _ => .int 0)) 37 6 (.ref 40)) 41 (fun _ => .int 0)) 37 7 (.ref 41)) 42 (fun _ => .int 0)) 37 10 (.ref 42)) 43 (fun _ => .int 0)) 37 11 (.ref 43)) 44 (fun _ => .int 0)) 37 12 (.ref 44)) 45 (fun _ => .int 0)) 37 14 (.ref 45)) 46 (fun _ => .int 0)) 37 15 (.ref 46)) 47 (fun _ => .int 0)) 37 16 (.ref 47)) 48 (fun _ => .int 0)) 37 17 (.ref 48)) 49 (fun _ => .int 0)) 37 18 (.ref 49)) 50 (fun _ => .int 0)) 37 20 (.ref 50)) 51 (fun _ => .int 0)) 37 21 (.ref 51)) 52 (fun _ => .int 0)) 37 22 (.ref 52)) 53 (fun _ => .int 0)) 37 23 (.ref 53)) 54 (fun _ => .int 0)) 37 24 (.ref 54)) 55 (fun _ => .int 0)) 37 25 (.ref 55)) 56 (fun _ => .int 0)) 37 26 (.ref 56))
  refine bf_iconst r.1 (v := nI 0) dX9_init_148 rfl ?_
  refine bf_istore_n r.1 (L2 := [some (.ref 37), some (.int (nI 0))]) dX9_init_149 rfl ?_
  refine bf_iload_n r.1 dX9_init_150 rfl ?_
  refine bf_iconst r.1 (v := nI 4) dX9_init_151 rfl ?_
  refine bf_icmp_ge r.1 (tgt := 168) dX9_init_152 (by decide) (fun c842 => ?_) (fun c842 => ?_)
  · exact absurd c842 (by decide)
  refine bf_aload_n r.1 dX9_init_155 rfl ?_
  refine bf_get r.1 dX9_init_156 fl_X9_55 rfl (show 37 < 57 by decide) ?_
  refine eq_v (w := .ref 53) (show (bf_up (bf_fill (bf_up (bf_fill (bf_up (bf_fill (bf_up (bf_fill (bf_up (bf_fill (bf_up (bf_fill (bf_up (bf_fill (bf_up (bf_fill (bf_up (bf_fill (bf_up (bf_fill (bf_up (bf_fill (bf_up (bf_fill (bf_up (bf_fill (bf_up (bf_fill (bf_up (bf_fill (bf_up (bf_fill (bf_up (bf_fill (bf_up (bf_fill (bf_up (bf_fill (h0) 38 (fun _ => .int 0)) 37 4 (.ref 38)) 39 (fun _ => .int 0)) 37 5 (.ref 39)) 40 (fun _ => .int 0)) 37 6 (.ref 40)) 41 (fun _ => .int 0)) 37 7 (.ref 41)) 42 (fun _ => .int 0)) 37 10 (.ref 42)) 43 (fun _ => .int 0)) 37 11 (.ref 43)) 44 (fun _ => .int 0)) 37 12 (.ref 44)) 45 (fun _ => .int 0)) 37 14 (.ref 45)) 46 (fun _ => .int 0)) 37 15 (.ref 46)) 47 (fun _ => .int 0)) 37 16 (.ref 47)) 48 (fun _ => .int 0)) 37 17 (.ref 48)) 49 (fun _ => .int 0)) 37 18 (.ref 49)) 50 (fun _ => .int 0)) 37 20 (.ref 50)) 51 (fun _ => .int 0)) 37 21 (.ref 51)) 52 (fun _ => .int 0)) 37 22 (.ref 52)) 53 (fun _ => .int 0)) 37 23 (.ref 53)) 54 (fun _ => .int 0)) 37 24 (.ref 54)) 55 (fun _ => .int 0)) 37 25 (.ref 55)) 56 (fun _ => .int 0)) 37 26 (.ref 56)) 37 23 = .ref 53 from (up_o (by decide) (fl_o (by decide) (up_o (by decide) (fl_o (by decide) (up_o (by decide) (fl_o (by decide) up_s))))))) ?_
  refine bf_iload_n r.1 dX9_init_159 rfl ?_
  refine bf_iconst r.1 (v := -1) dX9_init_160 rfl ?_
  refine bf_iast r.1 (n := 4) dX9_init_161 rfl (show 53 < 57 by decide) (vp_in_nI (by decide) (by decide)) ?_
  show J 162 [some (.ref 37), some (.int (nI 0))] [] (57, bf_up (bf_up (bf_fill (bf_up (bf_fill (bf_up (bf_fill (bf_up (bf_fill (bf_up (bf_fill (bf_up (bf_fill (bf_up (bf_fill (bf_up (bf_fill (bf_up (bf_fill (bf_up (bf_fill (bf_up (bf_fill (bf_up (bf_fill (bf_up (bf_fill (bf_up (bf_fill (bf_up (bf_fill (bf_up (bf_fill (bf_up (bf_fill (bf_up (bf_fill (bf_up (bf_fill (h0) 38 (fun _ => .int 0)) 37 4 (.ref 38)) 39 (fun _ => .int 0)) 37 5 (.ref 39)) 40 (fun _ => .int 0)) 37 6 (.ref 40)) 41 (fun _ => .int 0)) 37 7 (.ref 41)) 42 (fun _ => .int 0)) 37 10 (.ref 42)) 43 (fun _ => .int 0)) 37 11 (.ref 43)) 44 (fun _ => .int 0)) 37 12 (.ref 44)) 45 (fun _ => .int 0)) 37 14 (.ref 45)) 46 (fun _ => .int 0)) 37 15 (.ref 46)) 47 (fun _ => .int 0)) 37 16 (.ref 47)) 48 (fun _ => .int 0)) 37 17 (.ref 48)) 49 (fun _ => .int 0)) 37 18 (.ref 49)) 50 (fun _ => .int 0)) 37 20 (.ref 50)) 51 (fun _ => .int 0)) 37 21 (.ref 51)) 52 (fun _ => .int 0)) 37 22 (.ref 52)) 53 (fun _ => .int 0)) 37 23 (.ref 53)) 54 (fun _ => .int 0)) 37 24 (.ref 54)) 55 (fun _ => .int 0)) 37 25 (.ref 55)) 56 (fun _ => .int 0)) 37 26 (.ref 56)) 53 0 (.int (-1)))
  refine bf_iinc r.1 (v := nI 1) (L2 := [some (.ref 37), some (.int (nI 1))]) dX9_init_162 rfl (by decide) rfl ?_
  refine bf_goto r.1 (tgt := 150) dX9_init_165 (by decide) ?_
  refine bf_iload_n r.1 dX9_init_150 rfl ?_
  refine bf_iconst r.1 (v := nI 4) dX9_init_151 rfl ?_
  refine bf_icmp_ge r.1 (tgt := 168) dX9_init_152 (by decide) (fun c843 => ?_) (fun c843 => ?_)
  · exact absurd c843 (by decide)
  refine bf_aload_n r.1 dX9_init_155 rfl ?_
  refine bf_get r.1 dX9_init_156 fl_X9_55 rfl (show 37 < 57 by decide) ?_
  refine eq_v (w := .ref 53) (show (bf_up (bf_up (bf_fill (bf_up (bf_fill (bf_up (bf_fill (bf_up (bf_fill (bf_up (bf_fill (bf_up (bf_fill (bf_up (bf_fill (bf_up (bf_fill (bf_up (bf_fill (bf_up (bf_fill (bf_up (bf_fill (bf_up (bf_fill (bf_up (bf_fill (bf_up (bf_fill (bf_up (bf_fill (bf_up (bf_fill (bf_up (bf_fill (bf_up (bf_fill (bf_up (bf_fill (h0) 38 (fun _ => .int 0)) 37 4 (.ref 38)) 39 (fun _ => .int 0)) 37 5 (.ref 39)) 40 (fun _ => .int 0)) 37 6 (.ref 40)) 41 (fun _ => .int 0)) 37 7 (.ref 41)) 42 (fun _ => .int 0)) 37 10 (.ref 42)) 43 (fun _ => .int 0)) 37 11 (.ref 43)) 44 (fun _ => .int 0)) 37 12 (.ref 44)) 45 (fun _ => .int 0)) 37 14 (.ref 45)) 46 (fun _ => .int 0)) 37 15 (.ref 46)) 47 (fun _ => .int 0)) 37 16 (.ref 47)) 48 (fun _ => .int 0)) 37 17 (.ref 48)) 49 (fun _ => .int 0)) 37 18 (.ref 49)) 50 (fun _ => .int 0)) 37 20 (.ref 50)) 51 (fun _ => .int 0)) 37 21 (.ref 51)) 52 (fun _ => .int 0)) 37 22 (.ref 52)) 53 (fun _ => .int 0)) 37 23 (.ref 53)) 54 (fun _ => .int 0)) 37 24 (.ref 54)) 55 (fun _ => .int 0)) 37 25 (.ref 55)) 56 (fun _ => .int 0)) 37 26 (.ref 56)) 53 0 (.int (-1))) 37 23 = .ref 53 from (up_o (by decide) (up_o (by decide) (fl_o (by decide) (up_o (by decide) (fl_o (by decide) (up_o (by decide) (fl_o (by decide) up_s)))))))) ?_
  refine bf_iload_n r.1 dX9_init_159 rfl ?_
  refine bf_iconst r.1 (v := -1) dX9_init_160 rfl ?_
  refine bf_iast r.1 (n := 4) dX9_init_161 rfl (show 53 < 57 by decide) (vp_in_nI (by decide) (by decide)) ?_
  show J 162 [some (.ref 37), some (.int (nI 1))] [] (57, bf_up (bf_up (bf_up (bf_fill (bf_up (bf_fill (bf_up (bf_fill (bf_up (bf_fill (bf_up (bf_fill (bf_up (bf_fill (bf_up (bf_fill (bf_up (bf_fill (bf_up (bf_fill (bf_up (bf_fill (bf_up (bf_fill (bf_up (bf_fill (bf_up (bf_fill (bf_up (bf_fill (bf_up (bf_fill (bf_up (bf_fill (bf_up (bf_fill (bf_up (bf_fill (bf_up (bf_fill (h0) 38 (fun _ => .int 0)) 37 4 (.ref 38)) 39 (fun _ => .int 0)) 37 5 (.ref 39)) 40 (fun _ => .int 0)) 37 6 (.ref 40)) 41 (fun _ => .int 0)) 37 7 (.ref 41)) 42 (fun _ => .int 0)) 37 10 (.ref 42)) 43 (fun _ => .int 0)) 37 11 (.ref 43)) 44 (fun _ => .int 0)) 37 12 (.ref 44)) 45 (fun _ => .int 0)) 37 14 (.ref 45)) 46 (fun _ => .int 0)) 37 15 (.ref 46)) 47 (fun _ => .int 0)) 37 16 (.ref 47)) 48 (fun _ => .int 0)) 37 17 (.ref 48)) 49 (fun _ => .int 0)) 37 18 (.ref 49)) 50 (fun _ => .int 0)) 37 20 (.ref 50)) 51 (fun _ => .int 0)) 37 21 (.ref 51)) 52 (fun _ => .int 0)) 37 22 (.ref 52)) 53 (fun _ => .int 0)) 37 23 (.ref 53)) 54 (fun _ => .int 0)) 37 24 (.ref 54)) 55 (fun _ => .int 0)) 37 25 (.ref 55)) 56 (fun _ => .int 0)) 37 26 (.ref 56)) 53 0 (.int (-1))) 53 1 (.int (-1)))
  refine bf_iinc r.1 (v := nI 2) (L2 := [some (.ref 37), some (.int (nI 2))]) dX9_init_162 rfl (by decide) rfl ?_
  refine bf_goto r.1 (tgt := 150) dX9_init_165 (by decide) ?_
  refine bf_iload_n r.1 dX9_init_150 rfl ?_
  refine bf_iconst r.1 (v := nI 4) dX9_init_151 rfl ?_
  refine bf_icmp_ge r.1 (tgt := 168) dX9_init_152 (by decide) (fun c844 => ?_) (fun c844 => ?_)
  · exact absurd c844 (by decide)
  refine bf_aload_n r.1 dX9_init_155 rfl ?_
  refine bf_get r.1 dX9_init_156 fl_X9_55 rfl (show 37 < 57 by decide) ?_
  refine eq_v (w := .ref 53) (show (bf_up (bf_up (bf_up (bf_fill (bf_up (bf_fill (bf_up (bf_fill (bf_up (bf_fill (bf_up (bf_fill (bf_up (bf_fill (bf_up (bf_fill (bf_up (bf_fill (bf_up (bf_fill (bf_up (bf_fill (bf_up (bf_fill (bf_up (bf_fill (bf_up (bf_fill (bf_up (bf_fill (bf_up (bf_fill (bf_up (bf_fill (bf_up (bf_fill (bf_up (bf_fill (bf_up (bf_fill (h0) 38 (fun _ => .int 0)) 37 4 (.ref 38)) 39 (fun _ => .int 0)) 37 5 (.ref 39)) 40 (fun _ => .int 0)) 37 6 (.ref 40)) 41 (fun _ => .int 0)) 37 7 (.ref 41)) 42 (fun _ => .int 0)) 37 10 (.ref 42)) 43 (fun _ => .int 0)) 37 11 (.ref 43)) 44 (fun _ => .int 0)) 37 12 (.ref 44)) 45 (fun _ => .int 0)) 37 14 (.ref 45)) 46 (fun _ => .int 0)) 37 15 (.ref 46)) 47 (fun _ => .int 0)) 37 16 (.ref 47)) 48 (fun _ => .int 0)) 37 17 (.ref 48)) 49 (fun _ => .int 0)) 37 18 (.ref 49)) 50 (fun _ => .int 0)) 37 20 (.ref 50)) 51 (fun _ => .int 0)) 37 21 (.ref 51)) 52 (fun _ => .int 0)) 37 22 (.ref 52)) 53 (fun _ => .int 0)) 37 23 (.ref 53)) 54 (fun _ => .int 0)) 37 24 (.ref 54)) 55 (fun _ => .int 0)) 37 25 (.ref 55)) 56 (fun _ => .int 0)) 37 26 (.ref 56)) 53 0 (.int (-1))) 53 1 (.int (-1))) 37 23 = .ref 53 from (up_o (by decide) (up_o (by decide) (up_o (by decide) (fl_o (by decide) (up_o (by decide) (fl_o (by decide) (up_o (by decide) (fl_o (by decide) up_s))))))))) ?_
  refine bf_iload_n r.1 dX9_init_159 rfl ?_
  refine bf_iconst r.1 (v := -1) dX9_init_160 rfl ?_
  refine bf_iast r.1 (n := 4) dX9_init_161 rfl (show 53 < 57 by decide) (vp_in_nI (by decide) (by decide)) ?_
  show J 162 [some (.ref 37), some (.int (nI 2))] [] (57, bf_up (bf_up (bf_up (bf_up (bf_fill (bf_up (bf_fill (bf_up (bf_fill (bf_up (bf_fill (bf_up (bf_fill (bf_up (bf_fill (bf_up (bf_fill (bf_up (bf_fill (bf_up (bf_fill (bf_up (bf_fill (bf_up (bf_fill (bf_up (bf_fill (bf_up (bf_fill (bf_up (bf_fill (bf_up (bf_fill (bf_up (bf_fill (bf_up (bf_fill (bf_up (bf_fill (bf_up (bf_fill (h0) 38 (fun _ => .int 0)) 37 4 (.ref 38)) 39 (fun _ => .int 0)) 37 5 (.ref 39)) 40 (fun _ => .int 0)) 37 6 (.ref 40)) 41 (fun _ => .int 0)) 37 7 (.ref 41)) 42 (fun _ => .int 0)) 37 10 (.ref 42)) 43 (fun _ => .int 0)) 37 11 (.ref 43)) 44 (fun _ => .int 0)) 37 12 (.ref 44)) 45 (fun _ => .int 0)) 37 14 (.ref 45)) 46 (fun _ => .int 0)) 37 15 (.ref 46)) 47 (fun _ => .int 0)) 37 16 (.ref 47)) 48 (fun _ => .int 0)) 37 17 (.ref 48)) 49 (fun _ => .int 0)) 37 18 (.ref 49)) 50 (fun _ => .int 0)) 37 20 (.ref 50)) 51 (fun _ => .int 0)) 37 21 (.ref 51)) 52 (fun _ => .int 0)) 37 22 (.ref 52)) 53 (fun _ => .int 0)) 37 23 (.ref 53)) 54 (fun _ => .int 0)) 37 24 (.ref 54)) 55 (fun _ => .int 0)) 37 25 (.ref 55)) 56 (fun _ => .int 0)) 37 26 (.ref 56)) 53 0 (.int (-1))) 53 1 (.int (-1))) 53 2 (.int (-1)))
  refine bf_iinc r.1 (v := nI 3) (L2 := [some (.ref 37), some (.int (nI 3))]) dX9_init_162 rfl (by decide) rfl ?_
  refine bf_goto r.1 (tgt := 150) dX9_init_165 (by decide) ?_
  refine bf_iload_n r.1 dX9_init_150 rfl ?_
  refine bf_iconst r.1 (v := nI 4) dX9_init_151 rfl ?_
  refine bf_icmp_ge r.1 (tgt := 168) dX9_init_152 (by decide) (fun c845 => ?_) (fun c845 => ?_)
  · exact absurd c845 (by decide)
  refine bf_aload_n r.1 dX9_init_155 rfl ?_
  refine bf_get r.1 dX9_init_156 fl_X9_55 rfl (show 37 < 57 by decide) ?_
  refine eq_v (w := .ref 53) (show (bf_up (bf_up (bf_up (bf_up (bf_fill (bf_up (bf_fill (bf_up (bf_fill (bf_up (bf_fill (bf_up (bf_fill (bf_up (bf_fill (bf_up (bf_fill (bf_up (bf_fill (bf_up (bf_fill (bf_up (bf_fill (bf_up (bf_fill (bf_up (bf_fill (bf_up (bf_fill (bf_up (bf_fill (bf_up (bf_fill (bf_up (bf_fill (bf_up (bf_fill (bf_up (bf_fill (bf_up (bf_fill (h0) 38 (fun _ => .int 0)) 37 4 (.ref 38)) 39 (fun _ => .int 0)) 37 5 (.ref 39)) 40 (fun _ => .int 0)) 37 6 (.ref 40)) 41 (fun _ => .int 0)) 37 7 (.ref 41)) 42 (fun _ => .int 0)) 37 10 (.ref 42)) 43 (fun _ => .int 0)) 37 11 (.ref 43)) 44 (fun _ => .int 0)) 37 12 (.ref 44)) 45 (fun _ => .int 0)) 37 14 (.ref 45)) 46 (fun _ => .int 0)) 37 15 (.ref 46)) 47 (fun _ => .int 0)) 37 16 (.ref 47)) 48 (fun _ => .int 0)) 37 17 (.ref 48)) 49 (fun _ => .int 0)) 37 18 (.ref 49)) 50 (fun _ => .int 0)) 37 20 (.ref 50)) 51 (fun _ => .int 0)) 37 21 (.ref 51)) 52 (fun _ => .int 0)) 37 22 (.ref 52)) 53 (fun _ => .int 0)) 37 23 (.ref 53)) 54 (fun _ => .int 0)) 37 24 (.ref 54)) 55 (fun _ => .int 0)) 37 25 (.ref 55)) 56 (fun _ => .int 0)) 37 26 (.ref 56)) 53 0 (.int (-1))) 53 1 (.int (-1))) 53 2 (.int (-1))) 37 23 = .ref 53 from (up_o (by decide) (up_o (by decide) (up_o (by decide) (up_o (by decide) (fl_o (by decide) (up_o (by decide) (fl_o (by decide) (up_o (by decide) (fl_o (by decide) up_s)))))))))) ?_
  refine bf_iload_n r.1 dX9_init_159 rfl ?_
  refine bf_iconst r.1 (v := -1) dX9_init_160 rfl ?_
  refine bf_iast r.1 (n := 4) dX9_init_161 rfl (show 53 < 57 by decide) (vp_in_nI (by decide) (by decide)) ?_
  show J 162 [some (.ref 37), some (.int (nI 3))] [] (57, bf_up (bf_up (bf_up (bf_up (bf_up (bf_fill (bf_up (bf_fill (bf_up (bf_fill (bf_up (bf_fill (bf_up (bf_fill (bf_up (bf_fill (bf_up (bf_fill (bf_up (bf_fill (bf_up (bf_fill (bf_up (bf_fill (bf_up (bf_fill (bf_up (bf_fill (bf_up (bf_fill (bf_up (bf_fill (bf_up (bf_fill (bf_up (bf_fill (bf_up (bf_fill (bf_up (bf_fill (bf_up (bf_fill (h0) 38 (fun _ => .int 0)) 37 4 (.ref 38)) 39 (fun _ => .int 0)) 37 5 (.ref 39)) 40 (fun _ => .int 0)) 37 6 (.ref 40)) 41 (fun _ => .int 0)) 37 7 (.ref 41)) 42 (fun _ => .int 0)) 37 10 (.ref 42)) 43 (fun _ => .int 0)) 37 11 (.ref 43)) 44 (fun _ => .int 0)) 37 12 (.ref 44)) 45 (fun _ => .int 0)) 37 14 (.ref 45)) 46 (fun _ => .int 0)) 37 15 (.ref 46)) 47 (fun _ => .int 0)) 37 16 (.ref 47)) 48 (fun _ => .int 0)) 37 17 (.ref 48)) 49 (fun _ => .int 0)) 37 18 (.ref 49)) 50 (fun _ => .int 0)) 37 20 (.ref 50)) 51 (fun _ => .int 0)) 37 21 (.ref 51)) 52 (fun _ => .int 0)) 37 22 (.ref 52)) 53 (fun _ => .int 0)) 37 23 (.ref 53)) 54 (fun _ => .int 0)) 37 24 (.ref 54)) 55 (fun _ => .int 0)) 37 25 (.ref 55)) 56 (fun _ => .int 0)) 37 26 (.ref 56)) 53 0 (.int (-1))) 53 1 (.int (-1))) 53 2 (.int (-1))) 53 3 (.int (-1)))
  refine bf_iinc r.1 (v := nI 4) (L2 := [some (.ref 37), some (.int (nI 4))]) dX9_init_162 rfl (by decide) rfl ?_
  refine bf_goto r.1 (tgt := 150) dX9_init_165 (by decide) ?_
  refine bf_iload_n r.1 dX9_init_150 rfl ?_
  refine bf_iconst r.1 (v := nI 4) dX9_init_151 rfl ?_
  refine bf_icmp_ge r.1 (tgt := 168) dX9_init_152 (by decide) (fun c846 => ?_) (fun c846 => ?_)
  rotate_left
  · exact absurd (by decide) c846
  refine r.2.2.2.2.2 168 _ (57, bf_up (bf_up (bf_up (bf_up (bf_up (bf_fill (bf_up (bf_fill (bf_up (bf_fill (bf_up (bf_fill (bf_up (bf_fill (bf_up (bf_fill (bf_up (bf_fill (bf_up (bf_fill (bf_up (bf_fill (bf_up (bf_fill (bf_up (bf_fill (bf_up (bf_fill (bf_up (bf_fill (bf_up (bf_fill (bf_up (bf_fill (bf_up (bf_fill (bf_up (bf_fill (bf_up (bf_fill (bf_up (bf_fill (h0) 38 (fun _ => .int 0)) 37 4 (.ref 38)) 39 (fun _ => .int 0)) 37 5 (.ref 39)) 40 (fun _ => .int 0)) 37 6 (.ref 40)) 41 (fun _ => .int 0)) 37 7 (.ref 41)) 42 (fun _ => .int 0)) 37 10 (.ref 42)) 43 (fun _ => .int 0)) 37 11 (.ref 43)) 44 (fun _ => .int 0)) 37 12 (.ref 44)) 45 (fun _ => .int 0)) 37 14 (.ref 45)) 46 (fun _ => .int 0)) 37 15 (.ref 46)) 47 (fun _ => .int 0)) 37 16 (.ref 47)) 48 (fun _ => .int 0)) 37 17 (.ref 48)) 49 (fun _ => .int 0)) 37 18 (.ref 49)) 50 (fun _ => .int 0)) 37 20 (.ref 50)) 51 (fun _ => .int 0)) 37 21 (.ref 51)) 52 (fun _ => .int 0)) 37 22 (.ref 52)) 53 (fun _ => .int 0)) 37 23 (.ref 53)) 54 (fun _ => .int 0)) 37 24 (.ref 54)) 55 (fun _ => .int 0)) 37 25 (.ref 55)) 56 (fun _ => .int 0)) 37 26 (.ref 56)) 53 0 (.int (-1))) 53 1 (.int (-1))) 53 2 (.int (-1))) 53 3 (.int (-1))) dX9_init_168 rfl rfl ⟨rfl, _, rfl, (FR_up (by decide) (FR_up (by decide) (FR_up (by decide) (FR_up (by decide) (FR_up (by decide) (FR_fl (by decide) (FR_up (by decide) (FR_fl (by decide) (FR_up (by decide) (FR_fl (by decide) (FR_up (by decide) (FR_fl (by decide) (FR_up (by decide) (FR_fl (by decide) (FR_up (by decide) (FR_fl (by decide) (FR_up (by decide) (FR_fl (by decide) (FR_up (by decide) (FR_fl (by decide) (FR_up (by decide) (FR_fl (by decide) (FR_up (by decide) (FR_fl (by decide) (FR_up (by decide) (FR_fl (by decide) (FR_up (by decide) (FR_fl (by decide) (FR_up (by decide) (FR_fl (by decide) (FR_up (by decide) (FR_fl (by decide) (FR_up (by decide) (FR_fl (by decide) (FR_up (by decide) (FR_fl (by decide) (FR_up (by decide) (FR_fl (by decide) (FR_up (by decide) (FR_fl (by decide) (FR_up (by decide) (FR_fl (by decide) FR_0)))))))))))))))))))))))))))))))))))))))))), fun b h1 h2 j hj => ?_⟩
  rcases (show b = 37 ∨ b = 38 ∨ b = 39 ∨ b = 40 ∨ b = 41 ∨ b = 42 ∨ b = 43 ∨ b = 44 ∨ b = 45 ∨ b = 46 ∨ b = 47 ∨ b = 48 ∨ b = 49 ∨ b = 50 ∨ b = 51 ∨ b = 52 ∨ b = 53 ∨ b = 54 ∨ b = 55 ∨ b = 56 by omega) with rfl | rfl | rfl | rfl | rfl | rfl | rfl | rfl | rfl | rfl | rfl | rfl | rfl | rfl | rfl | rfl | rfl | rfl | rfl | rfl
  · have hj2 : j < 28 := hj
    rcases (show j = 0 ∨ j = 1 ∨ j = 2 ∨ j = 3 ∨ j = 4 ∨ j = 5 ∨ j = 6 ∨ j = 7 ∨ j = 8 ∨ j = 9 ∨ j = 10 ∨ j = 11 ∨ j = 12 ∨ j = 13 ∨ j = 14 ∨ j = 15 ∨ j = 16 ∨ j = 17 ∨ j = 18 ∨ j = 19 ∨ j = 20 ∨ j = 21 ∨ j = 22 ∨ j = 23 ∨ j = 24 ∨ j = 25 ∨ j = 26 ∨ j = 27 by omega) with rfl | rfl | rfl | rfl | rfl | rfl | rfl | rfl | rfl | rfl | rfl | rfl | rfl | rfl | rfl | rfl | rfl | rfl | rfl | rfl | rfl | rfl | rfl | rfl | rfl | rfl | rfl | rfl
    · exact ((up_o (by decide) (up_o (by decide) (up_o (by decide) (up_o (by decide) (up_o (by decide) (fl_o (by decide) (up_o (by decide) (fl_o (by decide) (up_o (by decide) (fl_o (by decide) (up_o (by decide) (fl_o (by decide) (up_o (by decide) (fl_o (by decide) (up_o (by decide) (fl_o (by decide) (up_o (by decide) (fl_o (by decide) (up_o (by decide) (fl_o (by decide) (up_o (by decide) (fl_o (by decide) (up_o (by decide) (fl_o (by decide) (up_o (by decide) (fl_o (by decide) (up_o (by decide) (fl_o (by decide) (up_o (by decide) (fl_o (by decide) (up_o (by decide) (fl_o (by decide) (up_o (by decide) (fl_o (by decide) (up_o (by decide) (fl_o (by decide) (up_o (by decide) (fl_o (by decide) (up_o (by decide) (fl_o (by decide) (up_o (by decide) (fl_o (by decide) (hz 0)))))))))))))))))))))))))))))))))))))))))))).trans rfl
    · exact ((up_o (by decide) (up_o (by decide) (up_o (by decide) (up_o (by decide) (up_o (by decide) (fl_o (by decide) (up_o (by decide) (fl_o (by decide) (up_o (by decide) (fl_o (by decide) (up_o (by decide) (fl_o (by decide) (up_o (by decide) (fl_o (by decide) (up_o (by decide) (fl_o (by decide) (up_o (by decide) (fl_o (by decide) (up_o (by decide) (fl_o (by decide) (up_o (by decide) (fl_o (by decide) (up_o (by decide) (fl_o (by decide) (up_o (by decide) (fl_o (by decide) (up_o (by decide) (fl_o (by decide) (up_o (by decide) (fl_o (by decide) (up_o (by decide) (fl_o (by decide) (up_o (by decide) (fl_o (by decide) (up_o (by decide) (fl_o (by decide) (up_o (by decide) (fl_o (by decide) (up_o (by decide) (fl_o (by decide) (up_o (by decide) (fl_o (by decide) (hz 1)))))))))))))))))))))))))))))))))))))))))))).trans rfl
    · exact ((up_o (by decide) (up_o (by decide) (up_o (by decide) (up_o (by decide) (up_o (by decide) (fl_o (by decide) (up_o (by decide) (fl_o (by decide) (up_o (by decide) (fl_o (by decide) (up_o (by decide) (fl_o (by decide) (up_o (by decide) (fl_o (by decide) (up_o (by decide) (fl_o (by decide) (up_o (by decide) (fl_o (by decide) (up_o (by decide) (fl_o (by decide) (up_o (by decide) (fl_o (by decide) (up_o (by decide) (fl_o (by decide) (up_o (by decide) (fl_o (by decide) (up_o (by decide) (fl_o (by decide) (up_o (by decide) (fl_o (by decide) (up_o (by decide) (fl_o (by decide) (up_o (by decide) (fl_o (by decide) (up_o (by decide) (fl_o (by decide) (up_o (by decide) (fl_o (by decide) (up_o (by decide) (fl_o (by decide) (up_o (by decide) (fl_o (by decide) (hz 2)))))))))))))))))))))))))))))))))))))))))))).trans rfl
    · exact ((up_o (by decide) (up_o (by decide) (up_o (by decide) (up_o (by decide) (up_o (by decide) (fl_o (by decide) (up_o (by decide) (fl_o (by decide) (up_o (by decide) (fl_o (by decide) (up_o (by decide) (fl_o (by decide) (up_o (by decide) (fl_o (by decide) (up_o (by decide) (fl_o (by decide) (up_o (by decide) (fl_o (by decide) (up_o (by decide) (fl_o (by decide) (up_o (by decide) (fl_o (by decide) (up_o (by decide) (fl_o (by decide) (up_o (by decide) (fl_o (by decide) (up_o (by decide) (fl_o (by decide) (up_o (by decide) (fl_o (by decide) (up_o (by decide) (fl_o (by decide) (up_o (by decide) (fl_o (by decide) (up_o (by decide) (fl_o (by decide) (up_o (by decide) (fl_o (by decide) (up_o (by decide) (fl_o (by decide) (up_o (by decide) (fl_o (by decide) (hz 3)))))))))))))))))))))))))))))))))))))))))))).trans rfl
    · exact ((up_o (by decide) (up_o (by decide) (up_o (by decide) (up_o (by decide) (up_o (by decide) (fl_o (by decide) (up_o (by decide) (fl_o (by decide) (up_o (by decide) (fl_o (by decide) (up_o (by decide) (fl_o (by decide) (up_o (by decide) (fl_o (by decide) (up_o (by decide) (fl_o (by decide) (up_o (by decide) (fl_o (by decide) (up_o (by decide) (fl_o (by decide) (up_o (by decide) (fl_o (by decide) (up_o (by decide) (fl_o (by decide) (up_o (by decide) (fl_o (by decide) (up_o (by decide) (fl_o (by decide) (up_o (by decide) (fl_o (by decide) (up_o (by decide) (fl_o (by decide) (up_o (by decide) (fl_o (by decide) (up_o (by decide) (fl_o (by decide) (up_o (by decide) (fl_o (by decide) (up_o (by decide) (fl_o (by decide) up_s))))))))))))))))))))))))))))))))))))))))).trans rfl
    · exact ((up_o (by decide) (up_o (by decide) (up_o (by decide) (up_o (by decide) (up_o (by decide) (fl_o (by decide) (up_o (by decide) (fl_o (by decide) (up_o (by decide) (fl_o (by decide) (up_o (by decide) (fl_o (by decide) (up_o (by decide) (fl_o (by decide) (up_o (by decide) (fl_o (by decide) (up_o (by decide) (fl_o (by decide) (up_o (by decide) (fl_o (by decide) (up_o (by decide) (fl_o (by decide) (up_o (by decide) (fl_o (by decide) (up_o (by decide) (fl_o (by decide) (up_o (by decide) (fl_o (by decide) (up_o (by decide) (fl_o (by decide) (up_o (by decide) (fl_o (by decide) (up_o (by decide) (fl_o (by decide) (up_o (by decide) (fl_o (by decide) (up_o (by decide) (fl_o (by decide) up_s))))))))))))))))))))))))))))))))))))))).trans rfl
    · exact ((up_o (by decide) (up_o (by decide) (up_o (by decide) (up_o (by decide) (up_o (by decide) (fl_o (by decide) (up_o (by decide) (fl_o (by decide) (up_o (by decide) (fl_o (by decide) (up_o (by decide) (fl_o (by decide) (up_o (by decide) (fl_o (by decide) (up_o (by decide) (fl_o (by decide) (up_o (by decide) (fl_o (by decide) (up_o (by decide) (fl_o (by decide) (up_o (by decide) (fl_o (by decide) (up_o (by decide) (fl_o (by decide) (up_o (by decide) (fl_o (by decide) (up_o (by decide) (fl_o (by decide) (up_o (by decide) (fl_o (by decide) (up_o (by decide) (fl_o (by decide) (up_o (by decide) (fl_o (by decide) (up_o (by decide) (fl_o (by decide) up_s))))))))))))))))))))))))))))))))))))).trans rfl
    · exact ((up_o (by decide) (up_o (by decide) (up_o (by decide) (up_o (by decide) (up_o (by decide) (fl_o (by decide) (up_o (by decide) (fl_o (by decide) (up_o (by decide) (fl_o (by decide) (up_o (by decide) (fl_o (by decide) (up_o (by decide) (fl_o (by decide) (up_o (by decide) (fl_o (by decide) (up_o (by decide) (fl_o (by decide) (up_o (by decide) (fl_o (by decide) (up_o (by decide) (fl_o (by decide) (up_o (by decide) (fl_o (by decide) (up_o (by decide) (fl_o (by decide) (up_o (by decide) (fl_o (by decide) (up_o (by decide) (fl_o (by decide) (up_o (by decide) (fl_o (by decide) (up_o (by decide) (fl_o (by decide) up_s))))))))))))))))))))))))))))))))))).trans rfl
    · exact ((up_o (by decide) (up_o (by decide) (up_o (by decide) (up_o (by decide) (up_o (by decide) (fl_o (by decide) (up_o (by decide) (fl_o (by decide) (up_o (by decide) (fl_o (by decide) (up_o (by decide) (fl_o (by decide) (up_o (by decide) (fl_o (by decide) (up_o (by decide) (fl_o (by decide) (up_o (by decide) (fl_o (by decide) (up_o (by decide) (fl_o (by decide) (up_o (by decide) (fl_o (by decide) (up_o (by decide) (fl_o (by decide) (up_o (by decide) (fl_o (by decide) (up_o (by decide) (fl_o (by decide) (up_o (by decide) (fl_o (by decide) (up_o (by decide) (fl_o (by decide) (up_o (by decide) (fl_o (by decide) (up_o (by decide) (fl_o (by decide) (up_o (by decide) (fl_o (by decide) (up_o (by decide) (fl_o (by decide) (up_o (by decide) (fl_o (by decide) (hz 8)))))))))))))))))))))))))))))))))))))))))))).trans rfl
    · exact ((up_o (by decide) (up_o (by decide) (up_o (by decide) (up_o (by decide) (up_o (by decide) (fl_o (by decide) (up_o (by decide) (fl_o (by decide) (up_o (by decide) (fl_o (by decide) (up_o (by decide) (fl_o (by decide) (up_o (by decide) (fl_o (by decide) (up_o (by decide) (fl_o (by decide) (up_o (by decide) (fl_o (by decide) (up_o (by decide) (fl_o (by decide) (up_o (by decide) (fl_o (by decide) (up_o (by decide) (fl_o (by decide) (up_o (by decide) (fl_o (by decide) (up_o (by decide) (fl_o (by decide) (up_o (by decide) (fl_o (by decide) (up_o (by decide) (fl_o (by decide) (up_o (by decide) (fl_o (by decide) (up_o (by decide) (fl_o (by decide) (up_o (by decide) (fl_o (by decide) (up_o (by decide) (fl_o (by decide) (up_o (by decide) (fl_o (by decide) (hz 9)))))))))))))))))))))))))))))))))))))))))))).trans rfl
    · exact ((up_o (by decide) (up_o (by decide) (up_o (by decide) (up_o (by decide) (up_o (by decide) (fl_o (by decide) (up_o (by decide) (fl_o (by decide) (up_o (by decide) (fl_o (by decide) (up_o (by decide) (fl_o (by decide) (up_o (by decide) (fl_o (by decide) (up_o (by decide) (fl_o (by decide) (up_o (by decide) (fl_o (by decide) (up_o (by decide) (fl_o (by decide) (up_o (by decide) (fl_o (by decide) (up_o (by decide) (fl_o (by decide) (up_o (by decide) (fl_o (by decide) (up_o (by decide) (fl_o (by decide) (up_o (by decide) (fl_o (by decide) (up_o (by decide) (fl_o (by decide) up_s))))))))))))))))))))))))))))))))).trans rfl
    · exact ((up_o (by decide) (up_o (by decide) (up_o (by decide) (up_o (by decide) (up_o (by decide) (fl_o (by decide) (up_o (by decide) (fl_o (by decide) (up_o (by decide) (fl_o (by decide) (up_o (by decide) (fl_o (by decide) (up_o (by decide) (fl_o (by decide) (up_o (by decide) (fl_o (by decide) (up_o (by decide) (fl_o (by decide) (up_o (by decide) (fl_o (by decide) (up_o (by decide) (fl_o (by decide) (up_o (by decide) (fl_o (by decide) (up_o (by decide) (fl_o (by decide) (up_o (by decide) (fl_o (by decide) (up_o (by decide) (fl_o (by decide) up_s))))))))))))))))))))))))))))))).trans rfl
    · exact ((up_o (by decide) (up_o (by decide) (up_o (by decide) (up_o (by decide) (up_o (by decide) (fl_o (by decide) (up_o (by decide) (fl_o (by decide) (up_o (by decide) (fl_o (by decide) (up_o (by decide) (fl_o (by decide) (up_o (by decide) (fl_o (by decide) (up_o (by decide) (fl_o (by decide) (up_o (by decide) (fl_o (by decide) (up_o (by decide) (fl_o (by decide) (up_o (by decide) (fl_o (by decide) (up_o (by decide) (fl_o (by decide) (up_o (by decide) (fl_o (by decide) (up_o (by decide) (fl_o (by decide) up_s))))))))))))))))))))))))))))).trans rfl
    · exact ((up_o (by decide) (up_o (by decide) (up_o (by decide) (up_o (by decide) (up_o (by decide) (fl_o (by decide) (up_o (by decide) (fl_o (by decide) (up_o (by decide) (fl_o (by decide) (up_o (by decide) (fl_o (by decide) (up_o (by decide) (fl_o (by decide) (up_o (by decide) (fl_o (by decide) (up_o (by decide) (fl_o (by decide) (up_o (by decide) (fl_o (by decide) (up_o (by decide) (fl_o (by decide) (up_o (by decide) (fl_o (by decide) (up_o (by decide) (fl_o (by decide) (up_o (by decide) (fl_o (by decide) (up_o (by decide) (fl_o (by decide) (up_o (by decide) (fl_o (by decide) (up_o (by decide) (fl_o (by decide) (up_o (by decide) (fl_o (by decide) (up_o (by decide) (fl_o (by decide) (up_o (by decide) (fl_o (by decide) (up_o (by decide) (fl_o (by decide) (hz 13)))))))))))))))))))))))))))))))))))))))))))).trans rfl
    · exact ((up_o (by decide) (up_o (by decide) (up_o (by decide) (up_o (by decide) (up_o (by decide) (fl_o (by decide) (up_o (by decide) (fl_o (by decide) (up_o (by decide) (fl_o (by decide) (up_o (by decide) (fl_o (by decide) (up_o (by decide) (fl_o (by decide) (up_o (by decide) (fl_o (by decide) (up_o (by decide) (fl_o (by decide) (up_o (by decide) (fl_o (by decide) (up_o (by decide) (fl_o (by decide) (up_o (by decide) (fl_o (by decide) (up_o (by decide) (fl_o (by decide) up_s))))))))))))))))))))))))))).trans rfl
    · exact ((up_o (by decide) (up_o (by decide) (up_o (by decide) (up_o (by decide) (up_o (by decide) (fl_o (by decide) (up_o (by decide) (fl_o (by decide) (up_o (by decide) (fl_o (by decide) (up_o (by decide) (fl_o (by decide) (up_o (by decide) (fl_o (by decide) (up_o (by decide) (fl_o (by decide) (up_o (by decide) (fl_o (by decide) (up_o (by decide) (fl_o (by decide) (up_o (by decide) (fl_o (by decide) (up_o (by decide) (fl_o (by decide) up_s))))))))))))))))))))))))).trans rfl
    · exact ((up_o (by decide) (up_o (by decide) (up_o (by decide) (up_o (by decide) (up_o (by decide) (fl_o (by decide) (up_o (by decide) (fl_o (by decide) (up_o (by decide) (fl_o (by decide) (up_o (by decide) (fl_o (by decide) (up_o (by decide) (fl_o (by decide) (up_o (by decide) (fl_o (by decide) (up_o (by decide) (fl_o (by decide) (up_o (by decide) (fl_o (by decide) (up_o (by decide) (fl_o (by decide) up_s))))))))))))))))))))))).trans rfl
    · exact ((up_o (by decide) (up_o (by decide) (up_o (by decide) (up_o (by decide) (up_o (by decide) (fl_o (by decide) (up_o (by decide) (fl_o (by decide) (up_o (by decide) (fl_o (by decide) (up_o (by decide) (fl_o (by decide) (up_o (by decide) (fl_o (by decide) (up_o (by decide) (fl_o (by decide) (up_o (by decide) (fl_o (by decide) (up_o (by decide) (fl_o (by decide) up_s))))))))))))))))))))).trans rfl
    · exact ((up_o (by decide) (up_o (by decide) (up_o (by decide) (up_o (by decide) (up_o (by decide) (fl_o (by decide) (up_o (by decide) (fl_o (by decide) (up_o (by decide) (fl_o (by decide) (up_o (by decide) (fl_o (by decide) (up_o (by decide) (fl_o (by decide) (up_o (by decide) (fl_o (by decide) (up_o (by decide) (fl_o (by decide) up_s))))))))))))))))))).trans rfl
    · exact ((up_o (by decide) (up_o (by decide) (up_o (by decide) (up_o (by decide) (up_o (by decide) (fl_o (by decide) (up_o (by decide) (fl_o (by decide) (up_o (by decide) (fl_o (by decide) (up_o (by decide) (fl_o (by decide) (up_o (by decide) (fl_o (by decide) (up_o (by decide) (fl_o (by decide) (up_o (by decide) (fl_o (by decide) (up_o (by decide) (fl_o (by decide) (up_o (by decide) (fl_o (by decide) (up_o (by decide) (fl_o (by decide) (up_o (by decide) (fl_o (by decide) (up_o (by decide) (fl_o (by decide) (up_o (by decide) (fl_o (by decide) (up_o (by decide) (fl_o (by decide) (up_o (by decide) (fl_o (by decide) (up_o (by decide) (fl_o (by decide) (up_o (by decide) (fl_o (by decide) (up_o (by decide) (fl_o (by decide) (up_o (by decide) (fl_o (by decide) (hz 19)))))))))))))))))))))))))))))))))))))))))))).trans rfl
    · exact ((up_o (by decide) (up_o (by decide) (up_o (by decide) (up_o (by decide) (up_o (by decide) (fl_o (by decide) (up_o (by decide) (fl_o (by decide) (up_o (by decide) (fl_o (by decide) (up_o (by decide) (fl_o (by decide) (up_o (by decide) (fl_o (by decide) (up_o (by decide) (fl_o (by decide) up_s))))))))))))))))).trans rfl
    · exact ((up_o (by decide) (up_o (by decide) (up_o (by decide) (up_o (by decide) (up_o (by decide) (fl_o (by decide) (up_o (by decide) (fl_o (by decide) (up_o (by decide) (fl_o (by decide) (up_o (by decide) (fl_o (by decide) (up_o (by decide) (fl_o (by decide) up_s))))))))))))))).trans rfl
    · exact ((up_o (by decide) (up_o (by decide) (up_o (by decide) (up_o (by decide) (up_o (by decide) (fl_o (by decide) (up_o (by decide) (fl_o (by decide) (up_o (by decide) (fl_o (by decide) (up_o (by decide) (fl_o (by decide) up_s))))))))))))).trans rfl
    · exact ((up_o (by decide) (up_o (by decide) (up_o (by decide) (up_o (by decide) (up_o (by decide) (fl_o (by decide) (up_o (by decide) (fl_o (by decide) (up_o (by decide) (fl_o (by decide) up_s))))))))))).trans rfl
    · exact ((up_o (by decide) (up_o (by decide) (up_o (by decide) (up_o (by decide) (up_o (by decide) (fl_o (by decide) (up_o (by decide) (fl_o (by decide) up_s))))))))).trans rfl
    · exact ((up_o (by decide) (up_o (by decide) (up_o (by decide) (up_o (by decide) (up_o (by decide) (fl_o (by decide) up_s))))))).trans rfl
    · exact ((up_o (by decide) (up_o (by decide) (up_o (by decide) (up_o (by decide) up_s))))).trans rfl
    · exact ((up_o (by decide) (up_o (by decide) (up_o (by decide) (up_o (by decide) (up_o (by decide) (fl_o (by decide) (up_o (by decide) (fl_o (by decide) (up_o (by decide) (fl_o (by decide) (up_o (by decide) (fl_o (by decide) (up_o (by decide) (fl_o (by decide) (up_o (by decide) (fl_o (by decide) (up_o (by decide) (fl_o (by decide) (up_o (by decide) (fl_o (by decide) (up_o (by decide) (fl_o (by decide) (up_o (by decide) (fl_o (by decide) (up_o (by decide) (fl_o (by decide) (up_o (by decide) (fl_o (by decide) (up_o (by decide) (fl_o (by decide) (up_o (by decide) (fl_o (by decide) (up_o (by decide) (fl_o (by decide) (up_o (by decide) (fl_o (by decide) (up_o (by decide) (fl_o (by decide) (up_o (by decide) (fl_o (by decide) (up_o (by decide) (fl_o (by decide) (hz 27)))))))))))))))))))))))))))))))))))))))))))).trans rfl
  · exact ZR_m (n := 4) rfl (by decide) (fun _ => rfl) (ZR_up (by decide) (ZR_up (by decide) (ZR_up (by decide) (ZR_up (by decide) (ZR_up (by decide) (ZR_fl (by decide) (ZR_up (by decide) (ZR_fl (by decide) (ZR_up (by decide) (ZR_fl (by decide) (ZR_up (by decide) (ZR_fl (by decide) (ZR_up (by decide) (ZR_fl (by decide) (ZR_up (by decide) (ZR_fl (by decide) (ZR_up (by decide) (ZR_fl (by decide) (ZR_up (by decide) (ZR_fl (by decide) (ZR_up (by decide) (ZR_fl (by decide) (ZR_up (by decide) (ZR_fl (by decide) (ZR_up (by decide) (ZR_fl (by decide) (ZR_up (by decide) (ZR_fl (by decide) (ZR_up (by decide) (ZR_fl (by decide) (ZR_up (by decide) (ZR_fl (by decide) (ZR_up (by decide) (ZR_fl (by decide) (ZR_up (by decide) (ZR_fl (by decide) (ZR_up (by decide) (ZR_fl (by decide) (ZR_up (by decide) (ZR_fl (by decide) (ZR_up (by decide) ZR_s))))))))))))))))))))))))))))))))))))))))) j hj
  · exact ZR_m (n := 4) rfl (by decide) (fun _ => rfl) (ZR_up (by decide) (ZR_up (by decide) (ZR_up (by decide) (ZR_up (by decide) (ZR_up (by decide) (ZR_fl (by decide) (ZR_up (by decide) (ZR_fl (by decide) (ZR_up (by decide) (ZR_fl (by decide) (ZR_up (by decide) (ZR_fl (by decide) (ZR_up (by decide) (ZR_fl (by decide) (ZR_up (by decide) (ZR_fl (by decide) (ZR_up (by decide) (ZR_fl (by decide) (ZR_up (by decide) (ZR_fl (by decide) (ZR_up (by decide) (ZR_fl (by decide) (ZR_up (by decide) (ZR_fl (by decide) (ZR_up (by decide) (ZR_fl (by decide) (ZR_up (by decide) (ZR_fl (by decide) (ZR_up (by decide) (ZR_fl (by decide) (ZR_up (by decide) (ZR_fl (by decide) (ZR_up (by decide) (ZR_fl (by decide) (ZR_up (by decide) (ZR_fl (by decide) (ZR_up (by decide) (ZR_fl (by decide) (ZR_up (by decide) ZR_s))))))))))))))))))))))))))))))))))))))) j hj
  · exact ZR_m (n := 4) rfl (by decide) (fun _ => rfl) (ZR_up (by decide) (ZR_up (by decide) (ZR_up (by decide) (ZR_up (by decide) (ZR_up (by decide) (ZR_fl (by decide) (ZR_up (by decide) (ZR_fl (by decide) (ZR_up (by decide) (ZR_fl (by decide) (ZR_up (by decide) (ZR_fl (by decide) (ZR_up (by decide) (ZR_fl (by decide) (ZR_up (by decide) (ZR_fl (by decide) (ZR_up (by decide) (ZR_fl (by decide) (ZR_up (by decide) (ZR_fl (by decide) (ZR_up (by decide) (ZR_fl (by decide) (ZR_up (by decide) (ZR_fl (by decide) (ZR_up (by decide) (ZR_fl (by decide) (ZR_up (by decide) (ZR_fl (by decide) (ZR_up (by decide) (ZR_fl (by decide) (ZR_up (by decide) (ZR_fl (by decide) (ZR_up (by decide) (ZR_fl (by decide) (ZR_up (by decide) (ZR_fl (by decide) (ZR_up (by decide) ZR_s))))))))))))))))))))))))))))))))))))) j hj
  · exact ZR_m (n := 28) rfl (by decide) (fun _ => rfl) (ZR_up (by decide) (ZR_up (by decide) (ZR_up (by decide) (ZR_up (by decide) (ZR_up (by decide) (ZR_fl (by decide) (ZR_up (by decide) (ZR_fl (by decide) (ZR_up (by decide) (ZR_fl (by decide) (ZR_up (by decide) (ZR_fl (by decide) (ZR_up (by decide) (ZR_fl (by decide) (ZR_up (by decide) (ZR_fl (by decide) (ZR_up (by decide) (ZR_fl (by decide) (ZR_up (by decide) (ZR_fl (by decide) (ZR_up (by decide) (ZR_fl (by decide) (ZR_up (by decide) (ZR_fl (by decide) (ZR_up (by decide) (ZR_fl (by decide) (ZR_up (by decide) (ZR_fl (by decide) (ZR_up (by decide) (ZR_fl (by decide) (ZR_up (by decide) (ZR_fl (by decide) (ZR_up (by decide) (ZR_fl (by decide) (ZR_up (by decide) ZR_s))))))))))))))))))))))))))))))))))) j hj
  · exact ZR_m (n := 4) rfl (by decide) (fun _ => rfl) (ZR_up (by decide) (ZR_up (by decide) (ZR_up (by decide) (ZR_up (by decide) (ZR_up (by decide) (ZR_fl (by decide) (ZR_up (by decide) (ZR_fl (by decide) (ZR_up (by decide) (ZR_fl (by decide) (ZR_up (by decide) (ZR_fl (by decide) (ZR_up (by decide) (ZR_fl (by decide) (ZR_up (by decide) (ZR_fl (by decide) (ZR_up (by decide) (ZR_fl (by decide) (ZR_up (by decide) (ZR_fl (by decide) (ZR_up (by decide) (ZR_fl (by decide) (ZR_up (by decide) (ZR_fl (by decide) (ZR_up (by decide) (ZR_fl (by decide) (ZR_up (by decide) (ZR_fl (by decide) (ZR_up (by decide) (ZR_fl (by decide) (ZR_up (by decide) (ZR_fl (by decide) (ZR_up (by decide) ZR_s))))))))))))))))))))))))))))))))) j hj
  · exact ZR_m (n := 4) rfl (by decide) (fun _ => rfl) (ZR_up (by decide) (ZR_up (by decide) (ZR_up (by decide) (ZR_up (by decide) (ZR_up (by decide) (ZR_fl (by decide) (ZR_up (by decide) (ZR_fl (by decide) (ZR_up (by decide) (ZR_fl (by decide) (ZR_up (by decide) (ZR_fl (by decide) (ZR_up (by decide) (ZR_fl (by decide) (ZR_up (by decide) (ZR_fl (by decide) (ZR_up (by decide) (ZR_fl (by decide) (ZR_up (by decide) (ZR_fl (by decide) (ZR_up (by decide) (ZR_fl (by decide) (ZR_up (by decide) (ZR_fl (by decide) (ZR_up (by decide) (ZR_fl (by decide) (ZR_up (by decide) (ZR_fl (by decide) (ZR_up (by decide) (ZR_fl (by decide) (ZR_up (by decide) ZR_s))))))))))))))))))))))))))))))) j hj
  · exact ZR_m (n := 4) rfl (by decide) (fun _ => rfl) (ZR_up (by decide) (ZR_up (by decide) (ZR_up (by decide) (ZR_up (by decide) (ZR_up (by decide) (ZR_fl (by decide) (ZR_up (by decide) (ZR_fl (by decide) (ZR_up (by decide) (ZR_fl (by decide) (ZR_up (by decide) (ZR_fl (by decide) (ZR_up (by decide) (ZR_fl (by decide) (ZR_up (by decide) (ZR_fl (by decide) (ZR_up (by decide) (ZR_fl (by decide) (ZR_up (by decide) (ZR_fl (by decide) (ZR_up (by decide) (ZR_fl (by decide) (ZR_up (by decide) (ZR_fl (by decide) (ZR_up (by decide) (ZR_fl (by decide) (ZR_up (by decide) (ZR_fl (by decide) (ZR_up (by decide) ZR_s))))))))))))))))))))))))))))) j hj
  · exact ZR_m (n := 4) rfl (by decide) (fun _ => rfl) (ZR_up (by decide) (ZR_up (by decide) (ZR_up (by decide) (ZR_up (by decide) (ZR_up (by decide) (ZR_fl (by decide) (ZR_up (by decide) (ZR_fl (by decide) (ZR_up (by decide) (ZR_fl (by decide) (ZR_up (by decide) (ZR_fl (by decide) (ZR_up (by decide) (ZR_fl (by decide) (ZR_up (by decide) (ZR_fl (by decide) (ZR_up (by decide) (ZR_fl (by decide) (ZR_up (by decide) (ZR_fl (by decide) (ZR_up (by decide) (ZR_fl (by decide) (ZR_up (by decide) (ZR_fl (by decide) (ZR_up (by decide) (ZR_fl (by decide) (ZR_up (by decide) ZR_s))))))))))))))))))))))))))) j hj
  · exact ZR_m (n := 28) rfl (by decide) (fun _ => rfl) (ZR_up (by decide) (ZR_up (by decide) (ZR_up (by decide) (ZR_up (by decide) (ZR_up (by decide) (ZR_fl (by decide) (ZR_up (by decide) (ZR_fl (by decide) (ZR_up (by decide) (ZR_fl (by decide) (ZR_up (by decide) (ZR_fl (by decide) (ZR_up (by decide) (ZR_fl (by decide) (ZR_up (by decide) (ZR_fl (by decide) (ZR_up (by decide) (ZR_fl (by decide) (ZR_up (by decide) (ZR_fl (by decide) (ZR_up (by decide) (ZR_fl (by decide) (ZR_up (by decide) (ZR_fl (by decide) (ZR_up (by decide) ZR_s))))))))))))))))))))))))) j hj
  · exact ZR_m (n := 36) rfl (by decide) (fun _ => rfl) (ZR_up (by decide) (ZR_up (by decide) (ZR_up (by decide) (ZR_up (by decide) (ZR_up (by decide) (ZR_fl (by decide) (ZR_up (by decide) (ZR_fl (by decide) (ZR_up (by decide) (ZR_fl (by decide) (ZR_up (by decide) (ZR_fl (by decide) (ZR_up (by decide) (ZR_fl (by decide) (ZR_up (by decide) (ZR_fl (by decide) (ZR_up (by decide) (ZR_fl (by decide) (ZR_up (by decide) (ZR_fl (by decide) (ZR_up (by decide) (ZR_fl (by decide) (ZR_up (by decide) ZR_s))))))))))))))))))))))) j hj
  · exact ZR_m (n := 6) rfl (by decide) (fun _ => rfl) (ZR_up (by decide) (ZR_up (by decide) (ZR_up (by decide) (ZR_up (by decide) (ZR_up (by decide) (ZR_fl (by decide) (ZR_up (by decide) (ZR_fl (by decide) (ZR_up (by decide) (ZR_fl (by decide) (ZR_up (by decide) (ZR_fl (by decide) (ZR_up (by decide) (ZR_fl (by decide) (ZR_up (by decide) (ZR_fl (by decide) (ZR_up (by decide) (ZR_fl (by decide) (ZR_up (by decide) (ZR_fl (by decide) (ZR_up (by decide) ZR_s))))))))))))))))))))) j hj
  · exact ZR_m (n := 6) rfl (by decide) (fun _ => rfl) (ZR_up (by decide) (ZR_up (by decide) (ZR_up (by decide) (ZR_up (by decide) (ZR_up (by decide) (ZR_fl (by decide) (ZR_up (by decide) (ZR_fl (by decide) (ZR_up (by decide) (ZR_fl (by decide) (ZR_up (by decide) (ZR_fl (by decide) (ZR_up (by decide) (ZR_fl (by decide) (ZR_up (by decide) (ZR_fl (by decide) (ZR_up (by decide) (ZR_fl (by decide) (ZR_up (by decide) ZR_s))))))))))))))))))) j hj
  · exact ZR_m (n := 8) rfl (by decide) (fun _ => rfl) (ZR_up (by decide) (ZR_up (by decide) (ZR_up (by decide) (ZR_up (by decide) (ZR_up (by decide) (ZR_fl (by decide) (ZR_up (by decide) (ZR_fl (by decide) (ZR_up (by decide) (ZR_fl (by decide) (ZR_up (by decide) (ZR_fl (by decide) (ZR_up (by decide) (ZR_fl (by decide) (ZR_up (by decide) (ZR_fl (by decide) (ZR_up (by decide) ZR_s))))))))))))))))) j hj
  · exact ZR_m (n := 8) rfl (by decide) (fun _ => rfl) (ZR_up (by decide) (ZR_up (by decide) (ZR_up (by decide) (ZR_up (by decide) (ZR_up (by decide) (ZR_fl (by decide) (ZR_up (by decide) (ZR_fl (by decide) (ZR_up (by decide) (ZR_fl (by decide) (ZR_up (by decide) (ZR_fl (by decide) (ZR_up (by decide) (ZR_fl (by decide) (ZR_up (by decide) ZR_s))))))))))))))) j hj
  · exact ZR_m (n := 8) rfl (by decide) (fun _ => rfl) (ZR_up (by decide) (ZR_up (by decide) (ZR_up (by decide) (ZR_up (by decide) (ZR_up (by decide) (ZR_fl (by decide) (ZR_up (by decide) (ZR_fl (by decide) (ZR_up (by decide) (ZR_fl (by decide) (ZR_up (by decide) (ZR_fl (by decide) (ZR_up (by decide) ZR_s))))))))))))) j hj
  · have hj2 : j < 4 := hj
    rcases (show j = 0 ∨ j = 1 ∨ j = 2 ∨ j = 3 by omega) with rfl | rfl | rfl | rfl
    · exact ((up_o (by decide) (up_o (by decide) (up_o (by decide) up_s)))).trans rfl
    · exact ((up_o (by decide) (up_o (by decide) up_s))).trans rfl
    · exact ((up_o (by decide) up_s)).trans rfl
    · exact (up_s).trans rfl
  · exact ZR_m (n := 4) rfl (by decide) (fun _ => rfl) (ZR_up (by decide) (ZR_up (by decide) (ZR_up (by decide) (ZR_up (by decide) (ZR_up (by decide) (ZR_fl (by decide) (ZR_up (by decide) (ZR_fl (by decide) (ZR_up (by decide) ZR_s))))))))) j hj
  · exact ZR_m (n := 240) rfl (by decide) (fun _ => rfl) (ZR_up (by decide) (ZR_up (by decide) (ZR_up (by decide) (ZR_up (by decide) (ZR_up (by decide) (ZR_fl (by decide) (ZR_up (by decide) ZR_s))))))) j hj
  · exact ZR_m (n := 60) rfl (by decide) (fun _ => rfl) (ZR_up (by decide) (ZR_up (by decide) (ZR_up (by decide) (ZR_up (by decide) (ZR_up (by decide) ZR_s))))) j hj
