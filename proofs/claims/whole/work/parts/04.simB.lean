/-- what holds in a method's walk -/
def bf_X (p : Program) (s : State) (m : MethodId) (args : Array Value) (c : Code) (E : bf_E) (nL : Nat) (y : bf_M) : Prop :=
  p.tables.exec = Jvm.exec ∧ c.code = y.2.1 ∧ c.maxLocals = nL ∧ s.vm.findClass y.1.cls = some m.cls ∧ (∀ w ∈ lw_tbl, goodWord w = true → w.before args s = true) ∧ bf_K E s ∧ bf_ST E s s.heap
def bf_JW (p : Program) (l : Launch) (e : Env) (R : Room) (s : State) (m : MethodId) (args : Array Value) (below : List Frame) (meth : Method) (c : Code) (E : bf_E) (nL N0 : Nat) (Q : State → Prop) : bf_J := fun pc L S G =>
  ∀ (H : Heap) (locs : List Loc) (ls : Array Slot), bf_HR E G H → va_S (bf_A E) s.heap H locs → bf_lr E nL L ls → N0 ≤ G.1 → W p l e R s m args below meth c H locs (G.1 - N0) (bf_SL G.1 - bf_SL N0) Q (F0 m pc ls (S.map (bf_cv (bf_ad E))))
theorem bf_gw {q : String} {T : u_T} {N : Nat} {w : Cond} (hw : w ∈ u_ws q T N) : goodWord w = true := by
  obtain ⟨k, -, rfl⟩ := List.mem_map.mp hw
  unfold u_lay
  split <;> rfl
theorem bf_kd_sz {a ci : Nat} {q : vw_C} (hk : (bf_kd a).1 = ci) (hq : vwCl[ci]? = some q) (ha : a < 57) : (bf_kd a).2 = q.2.2 := by
  have key : ∀ a, a < 57 → (vwCl[(bf_kd a).1]?).all (fun q => (bf_kd a).2 == q.2.2) = true := by decide +kernel
  have h := key a ha
  rw [hk, hq] at h
  simpa using h
theorem bf_mt {w : Cond} (i : Nat) (h : tables_1[i]? = some w) : w ∈ lw_tbl := List.mem_append_right _ (List.mem_of_getElem? h)
theorem bf_in0 : ∀ w ∈ u_ws RX0 TX0 1, w ∈ lw_tbl := by
  intro w hw
  obtain ⟨k, hk, rfl⟩ := List.mem_map.mp hw
  have hk := List.mem_range.mp hk
  match k, hk with
  | 0, _ => exact bf_mt 50 (by decide +kernel)
  | k + 1, h => omega
theorem bf_in1 : ∀ w ∈ u_ws RX1 TX1 6, w ∈ lw_tbl := by
  intro w hw
  obtain ⟨k, hk, rfl⟩ := List.mem_map.mp hw
  have hk := List.mem_range.mp hk
  match k, hk with
  | 0, _ => exact bf_mt 158 (by decide +kernel)
  | 1, _ => exact bf_mt 160 (by decide +kernel)
  | 2, _ => exact bf_mt 162 (by decide +kernel)
  | 3, _ => exact bf_mt 164 (by decide +kernel)
  | 4, _ => exact bf_mt 166 (by decide +kernel)
  | 5, _ => exact bf_mt 168 (by decide +kernel)
  | k + 6, h => omega
theorem bf_in2 : ∀ w ∈ u_ws RX2 TX2 5, w ∈ lw_tbl := by
  intro w hw
  obtain ⟨k, hk, rfl⟩ := List.mem_map.mp hw
  have hk := List.mem_range.mp hk
  match k, hk with
  | 0, _ => exact bf_mt 102 (by decide +kernel)
  | 1, _ => exact bf_mt 104 (by decide +kernel)
  | 2, _ => exact bf_mt 106 (by decide +kernel)
  | 3, _ => exact bf_mt 108 (by decide +kernel)
  | 4, _ => exact bf_mt 110 (by decide +kernel)
  | k + 5, h => omega
theorem bf_in3 : ∀ w ∈ u_ws RX3 TX3 6, w ∈ lw_tbl := by
  intro w hw
  obtain ⟨k, hk, rfl⟩ := List.mem_map.mp hw
  have hk := List.mem_range.mp hk
  match k, hk with
  | 0, _ => exact bf_mt 72 (by decide +kernel)
  | 1, _ => exact bf_mt 74 (by decide +kernel)
  | 2, _ => exact bf_mt 76 (by decide +kernel)
  | 3, _ => exact bf_mt 78 (by decide +kernel)
  | 4, _ => exact bf_mt 80 (by decide +kernel)
  | 5, _ => exact bf_mt 82 (by decide +kernel)
  | k + 6, h => omega
theorem bf_in4 : ∀ w ∈ u_ws RX4 TX4 4, w ∈ lw_tbl := by
  intro w hw
  obtain ⟨k, hk, rfl⟩ := List.mem_map.mp hw
  have hk := List.mem_range.mp hk
  match k, hk with
  | 0, _ => exact bf_mt 124 (by decide +kernel)
  | 1, _ => exact bf_mt 126 (by decide +kernel)
  | 2, _ => exact bf_mt 128 (by decide +kernel)
  | 3, _ => exact bf_mt 130 (by decide +kernel)
  | k + 4, h => omega
theorem bf_in5 : ∀ w ∈ u_ws RX5 TX5 3, w ∈ lw_tbl := by
  intro w hw
  obtain ⟨k, hk, rfl⟩ := List.mem_map.mp hw
  have hk := List.mem_range.mp hk
  match k, hk with
  | 0, _ => exact bf_mt 180 (by decide +kernel)
  | 1, _ => exact bf_mt 182 (by decide +kernel)
  | 2, _ => exact bf_mt 184 (by decide +kernel)
  | k + 3, h => omega
theorem bf_in6 : ∀ w ∈ u_ws RX6 TX6 2, w ∈ lw_tbl := by
  intro w hw
  obtain ⟨k, hk, rfl⟩ := List.mem_map.mp hw
  have hk := List.mem_range.mp hk
  match k, hk with
  | 0, _ => exact bf_mt 141 (by decide +kernel)
  | 1, _ => exact bf_mt 143 (by decide +kernel)
  | k + 2, h => omega
theorem bf_in7 : ∀ w ∈ u_ws RX8 TX8 7, w ∈ lw_tbl := by
  intro w hw
  obtain ⟨k, hk, rfl⟩ := List.mem_map.mp hw
  have hk := List.mem_range.mp hk
  match k, hk with
  | 0, _ => exact bf_mt 194 (by decide +kernel)
  | 1, _ => exact bf_mt 196 (by decide +kernel)
  | 2, _ => exact bf_mt 198 (by decide +kernel)
  | 3, _ => exact bf_mt 200 (by decide +kernel)
  | 4, _ => exact bf_mt 202 (by decide +kernel)
  | 5, _ => exact bf_mt 204 (by decide +kernel)
  | 6, _ => exact bf_mt 206 (by decide +kernel)
  | k + 7, h => omega
theorem bf_in8 : ∀ w ∈ u_ws RX9 TX9 28, w ∈ lw_tbl := by
  intro w hw
  obtain ⟨k, hk, rfl⟩ := List.mem_map.mp hw
  have hk := List.mem_range.mp hk
  match k, hk with
  | 0, _ => exact bf_mt 694 (by decide +kernel)
  | 1, _ => exact bf_mt 696 (by decide +kernel)
  | 2, _ => exact bf_mt 698 (by decide +kernel)
  | 3, _ => exact bf_mt 700 (by decide +kernel)
  | 4, _ => exact bf_mt 702 (by decide +kernel)
  | 5, _ => exact bf_mt 704 (by decide +kernel)
  | 6, _ => exact bf_mt 706 (by decide +kernel)
  | 7, _ => exact bf_mt 708 (by decide +kernel)
  | 8, _ => exact bf_mt 710 (by decide +kernel)
  | 9, _ => exact bf_mt 712 (by decide +kernel)
  | 10, _ => exact bf_mt 714 (by decide +kernel)
  | 11, _ => exact bf_mt 716 (by decide +kernel)
  | 12, _ => exact bf_mt 718 (by decide +kernel)
  | 13, _ => exact bf_mt 720 (by decide +kernel)
  | 14, _ => exact bf_mt 722 (by decide +kernel)
  | 15, _ => exact bf_mt 724 (by decide +kernel)
  | 16, _ => exact bf_mt 726 (by decide +kernel)
  | 17, _ => exact bf_mt 728 (by decide +kernel)
  | 18, _ => exact bf_mt 730 (by decide +kernel)
  | 19, _ => exact bf_mt 732 (by decide +kernel)
  | 20, _ => exact bf_mt 734 (by decide +kernel)
  | 21, _ => exact bf_mt 736 (by decide +kernel)
  | 22, _ => exact bf_mt 738 (by decide +kernel)
  | 23, _ => exact bf_mt 740 (by decide +kernel)
  | 24, _ => exact bf_mt 742 (by decide +kernel)
  | 25, _ => exact bf_mt 744 (by decide +kernel)
  | 26, _ => exact bf_mt 746 (by decide +kernel)
  | 27, _ => exact bf_mt 748 (by decide +kernel)
  | k + 28, h => omega
theorem bf_cls_of {ci : Nat} {q : vw_C} (h : vwCl[ci]? = some q) : ∃ ty0 : Nat → FieldType, (∀ w ∈ u_ws q.1 q.2.1 q.2.2, w ∈ lw_tbl) ∧ (∀ k, k < q.2.2 → parseFieldDescriptor (q.2.1 k).2.2.1 = some (ty0 k)) ∧ (∀ a, a < q.2.2 → ∀ b, b < q.2.2 → a ≠ b → (q.2.1 a).2.1 ≠ (q.2.1 b).2.1) := by
  match ci, h with
  | 0, h => cases h; exact ⟨tyX0, bf_in0, tyX0_ok, nmX0⟩
  | 1, h => cases h; exact ⟨tyX1, bf_in1, tyX1_ok, nmX1⟩
  | 2, h => cases h; exact ⟨tyX2, bf_in2, tyX2_ok, nmX2⟩
  | 3, h => cases h; exact ⟨tyX3, bf_in3, tyX3_ok, nmX3⟩
  | 4, h => cases h; exact ⟨tyX4, bf_in4, tyX4_ok, nmX4⟩
  | 5, h => cases h; exact ⟨tyX5, bf_in5, tyX5_ok, nmX5⟩
  | 6, h => cases h; exact ⟨tyX6, bf_in6, tyX6_ok, nmX6⟩
  | 7, h => cases h; exact ⟨tyX8, bf_in7, tyX8_ok, nmX8⟩
  | 8, h => cases h; exact ⟨tyX9, bf_in8, tyX9_ok, nmX9⟩
  | k + 9, h => simp [vwCl] at h
section bfW
variable {p : Program} {l : Launch} {e : Env} {R : Room} {s : State} {m : MethodId} {args : Array Value} {below : List Frame} {meth : Method} {c : Code} {E : bf_E} {nL N0 : Nat} {Q : State → Prop} {y : bf_M}
/-- getfield, whether the field is the own class's or a nest mate's -/
theorem jw_getp {H : Heap} {locs : List Loc} {ls : Array Slot} {G : bf_G} {cells slots pc i ci j a : Nat} {S : List Value} (X : bf_X p s m args c E nL y) (d : decode y.2.1 pc = .ok (.getfield i, 3)) (hf : bf_fl y.1.cls i ci j) (hk : (bf_kd a).1 = ci) (ha : a < G.1) (hH : bf_HR E G H)
    (k : W p l e R s m args below meth c H locs cells slots Q (F0 m (pc + 3) ls (bf_cv (bf_ad E) (G.2 a j) :: S))) : W p l e R s m args below meth c H locs cells slots Q (F0 m pc ls (.ref (bf_ad E a) :: S)) := by
  obtain ⟨q, hq, hj, hd, hw⟩ := hf
  have hci : ci < 9 := (List.getElem?_eq_some_iff.mp hq).1
  obtain ⟨cell, q1, q2, q3, q4⟩ := (hH.2.2 a ha).obj hk hci
  obtain ⟨ty0, hin, hty, hnm⟩ := bf_cls_of hq
  have hts := fun w hw => X.2.2.2.2.1 w (hin w hw) (bf_gw hw)
  have hn : (bf_kd a).2 = q.2.2 := bf_kd_sz hk hq (Nat.lt_of_lt_of_le ha hH.1)
  obtain ⟨hS, hfc, kC, hkC, hkind⟩ := X.2.2.2.2.2.1.1.1 ci _ hq
  obtain ⟨cf, kf, fi, f, hi, hsl⟩ := hS j hj
  have hst := (u_facts hfc hkC (u_lays (ws := u_ws q.1 q.2.1 q.2.2) hts (fun w h => h) hj) hi).1
  have hv : cell.slots[f.slot]? = some (bf_cv (bf_ad E) (G.2 a j)) := by rw [hsl]; exact q4 j (by rw [hn]; exact hj)
  rw [hd] at hi
  rcases hw with hw | ⟨host, hw⟩
  · exact W.getf X.1 X.2.1 X.2.2.2.1 (X.2.2.2.2.1 _ hw rfl) hi hst q1 (by rw [q3]; exact fun h => by cases h) hv rfl rfl d k
  · exact va_Wgetf X.1 X.2.1 X.2.2.2.1 (va_Nw.use rfl (X.2.2.2.2.2.1.2.1 _ hw rfl)) hi hst q1 (by rw [q3]; exact fun h => by cases h) hv rfl rfl d k
theorem bf_obj_set {G : bf_G} {H H1 : Heap} {a ci j : Nat} {q : vw_C} {ty0 : Nat → FieldType} {cell : Cell} {v : Value} (X : bf_X p s m args c E nL y) (hc : bf_cls ci q ty0) (hk : (bf_kd a).1 = ci) (hci : ci < 9) (ha : a < G.1) (hH : bf_HR E G H) (hj : j < q.2.2)
    (q2 : cell.cls = E.2.2.2.1 ci) (q3 : cell.vm = .none) (q4 : ∀ k, k < (bf_kd a).2 → cell.slots[E.2.2.2.2.1 ci k]? = some (bf_cv (bf_ad E) (G.2 a k))) (e1 : H1[bf_ad E a]? = some (cell.setSlot (E.2.2.2.2.1 ci j) (bf_cv (bf_ad E) v))) : bf_C E (bf_up G.2 a j v) a H1 := by
  have hn : (bf_kd a).2 = q.2.2 := bf_kd_sz hk hc.1 (Nat.lt_of_lt_of_le ha hH.1)
  have hts := fun w hw => X.2.2.2.2.1 w (hc.2.1 w hw) (bf_gw hw)
  have hap : ∀ x z, x < q.2.2 → z < q.2.2 → x ≠ z → E.2.2.2.2.1 ci x ≠ E.2.2.2.2.1 ci z := va_apart (own := q.1) (s := s) (args := args) (D := (E.2.2.2.1, E.2.2.2.2.1)) (cl := vwCl) (C := q.1) (T := q.2.1) (N := q.2.2) (Ts := u_ws q.1 q.2.1 q.2.2) hts (fun w h => h) ty0 hc.2.2.1 hc.2.2.2 X.2.2.2.2.2.1.1 hc.1
  unfold bf_C
  rw [hk, if_pos hci]
  refine ⟨_, e1, q2, q3, fun i hi => ?_⟩
  rw [t_set (V := fun k => bf_cv (bf_ad E) (G.2 a k)) (fun k hk2 => q4 k (by rw [hn]; exact hk2)) hap hj _ i (by rw [← hn]; exact hi)]
  by_cases e : i = j
  · simp [updV, bf_up, e]
  · simp [updV, bf_up, e]
theorem jw_putp {H : Heap} {locs : List Loc} {ls : Array Slot} {G : bf_G} {cells slots pc i ci j a : Nat} {S : List Value} {v : Int32} (X : bf_X p s m args c E nL y) (d : decode y.2.1 pc = .ok (.putfield i, 3)) (hf : bf_fp y.1.cls i ci j) (hk : (bf_kd a).1 = ci) (ha : a < G.1) (hH : bf_HR E G H) (hS0 : va_S (bf_A E) s.heap H locs)
    (k : ∀ (H1 : Heap) (locs1 : List Loc), bf_HR E (G.1, bf_up G.2 a j (.int v)) H1 → va_S (bf_A E) s.heap H1 locs1 → W p l e R s m args below meth c H1 locs1 cells slots Q (F0 m (pc + 3) ls S)) : W p l e R s m args below meth c H locs cells slots Q (F0 m pc ls (.int v :: .ref (bf_ad E a) :: S)) := by
  obtain ⟨q, hq, hj, hd, hfin, hI, hw⟩ := hf
  have hci : ci < 9 := (List.getElem?_eq_some_iff.mp hq).1
  obtain ⟨cell, q1, q2, q3, q4⟩ := (hH.2.2 a ha).obj hk hci
  obtain ⟨ty0, hin, hty, hnm⟩ := bf_cls_of hq
  have hts := fun w hw => X.2.2.2.2.1 w (hin w hw) (bf_gw hw)
  have hn : (bf_kd a).2 = q.2.2 := bf_kd_sz hk hq (Nat.lt_of_lt_of_le ha hH.1)
  obtain ⟨hS, hfc, kC, hkC, hkind⟩ := X.2.2.2.2.2.1.1.1 ci _ hq
  obtain ⟨cf, kf, fi, f, hi, hsl⟩ := hS j hj
  have hst := (u_facts hfc hkC (u_lays (ws := u_ws q.1 q.2.1 q.2.2) hts (fun w h => h) hj) hi).1
  have hlay := hts _ (u_in_lay (C := q.1) (T := q.2.1) hj)
  unfold u_lay at hlay
  rw [if_neg (by rw [hfin]; decide)] at hlay
  have h6 : k2_Sd s f (E.2.2.2.1 ci) (.int v) := u_store hfc hkC hkind hlay hi (ty := .int) (by rw [hI]; rfl) rfl rfl
  have hlt : f.slot < cell.slots.size := by rw [hsl]; exact k2_hasslot (q4 j (by rw [hn]; exact hj))
  have fin : ∀ H1 : Heap, H1[bf_ad E a]? = some (cell.setSlot f.slot (.int v)) → H1.size = H.size → (∀ q, q ≠ bf_ad E a → H1[q]? = H[q]?) → W p l e R s m args below meth c H1 (locs ++ [⟨bf_ad E a, f.slot⟩]) cells slots Q (F0 m (pc + 3) ls S) := by
    intro H1 e1 z1 o1
    refine k H1 _ (hH.put ha z1 o1 ?_ (fun b j hb => by simp [bf_up, hb])) (bf_S.put hS0 z1 o1 (Nat.lt_of_lt_of_le ha hH.1))
    rw [hsl] at e1
    exact bf_obj_set X ⟨hq, hin, hty, hnm⟩ hk hci ha hH hj q2 q3 q4 e1
  have hi2 : s.fieldFound? q.1 (q.2.1 j).2.1 (q.2.1 j).2.2.1 = some (cf, kf, fi, f) := by rw [← hd]; exact hi
  rcases hw with hw | ⟨host, hw⟩
  · exact W.putK X.1 X.2.1 (f := f) ⟨X.2.2.2.1, X.2.2.2.2.1 _ hw rfl, ⟨_, _, _, hi2⟩, hst⟩ (by rw [q2]; exact h6) q1 q3 hlt rfl rfl d fin
  · exact va_WputK X.1 X.2.1 (f := f) X.2.2.2.1 (va_Nw.use rfl (X.2.2.2.2.2.1.2.1 _ hw rfl)) hi2 hst (by rw [q2]; exact h6) q1 q3 hlt rfl rfl d fin
/-- rule -/
def bf_r_iconst (y : bf_M) (J : bf_J) : Prop := ∀ (pc : Nat) (L : bf_L) (S : List Value) (G : bf_G) (n : Int) (v : Int32), decode y.2.1 pc = .ok (.iconst n, 1) → Int32.ofInt n = v → J (pc + 1) L (.int v :: S) G → J pc L S G
theorem jw_iconst (X : bf_X p s m args c E nL y) : bf_r_iconst y (bf_JW p l e R s m args below meth c E nL N0 Q) := by
  intro pc L S G n v d hv k
  intro H locs ls hH hS hl hN
  exact lv_iconst X.1 X.2.1 d hv (k H locs ls hH hS hl hN)
/-- rule -/
def bf_r_bipush (y : bf_M) (J : bf_J) : Prop := ∀ (pc : Nat) (L : bf_L) (S : List Value) (G : bf_G) (n : Int) (v : Int32), decode y.2.1 pc = .ok (.bipush n, 2) → (Int8.ofInt n).toInt32 = v → J (pc + 2) L (.int v :: S) G → J pc L S G
theorem jw_bipush (X : bf_X p s m args c E nL y) : bf_r_bipush y (bf_JW p l e R s m args below meth c E nL N0 Q) := by
  intro pc L S G n v d hv k
  intro H locs ls hH hS hl hN
  exact lv_bipush X.1 X.2.1 d hv (k H locs ls hH hS hl hN)
/-- rule -/
def bf_r_sipush (y : bf_M) (J : bf_J) : Prop := ∀ (pc : Nat) (L : bf_L) (S : List Value) (G : bf_G) (n : Int) (v : Int32), decode y.2.1 pc = .ok (.sipush n, 3) → (Int16.ofInt n).toInt32 = v → J (pc + 3) L (.int v :: S) G → J pc L S G
theorem jw_sipush (X : bf_X p s m args c E nL y) : bf_r_sipush y (bf_JW p l e R s m args below meth c E nL N0 Q) := by
  intro pc L S G n v d hv k
  intro H locs ls hH hS hl hN
  exact lv_sipush X.1 X.2.1 d hv (k H locs ls hH hS hl hN)
/-- rule -/
def bf_r_lconst (y : bf_M) (J : bf_J) : Prop := ∀ (pc : Nat) (L : bf_L) (S : List Value) (G : bf_G) (n : Fin 2) (v : Int64), decode y.2.1 pc = .ok (.lconst n, 1) → Int64.ofNat (n : Nat) = v → J (pc + 1) L (.long v :: S) G → J pc L S G
theorem jw_lconst (X : bf_X p s m args c E nL y) : bf_r_lconst y (bf_JW p l e R s m args below meth c E nL N0 Q) := by
  intro pc L S G n v d hv k
  intro H locs ls hH hS hl hN
  exact lv_lconst X.1 X.2.1 d hv (k H locs ls hH hS hl hN)
/-- rule -/
def bf_r_ldcw (y : bf_M) (J : bf_J) : Prop := ∀ (pc : Nat) (L : bf_L) (S : List Value) (G : bf_G) (i : Nat) (v : Int32), decode y.2.1 pc = .ok (.ldc_w i, 3) → Cond.constant y.1.cls i v ∈ lw_tbl → J (pc + 3) L (.int v :: S) G → J pc L S G
theorem jw_ldcw (X : bf_X p s m args c E nL y) : bf_r_ldcw y (bf_JW p l e R s m args below meth c E nL N0 Q) := by
  intro pc L S G i v d hw k
  intro H locs ls hH hS hl hN
  exact lv_ldcw X.1 X.2.1 X.2.2.2.1 (X.2.2.2.2.1 _ hw rfl) d (k H locs ls hH hS hl hN)
/-- rule -/
def bf_r_ldc2 (y : bf_M) (J : bf_J) : Prop := ∀ (pc : Nat) (L : bf_L) (S : List Value) (G : bf_G) (i : Nat) (v : Int64), decode y.2.1 pc = .ok (.ldc2_w i, 3) → Cond.constantLong y.1.cls i v ∈ lw_tbl → J (pc + 3) L (.long v :: S) G → J pc L S G
theorem jw_ldc2 (X : bf_X p s m args c E nL y) : bf_r_ldc2 y (bf_JW p l e R s m args below meth c E nL N0 Q) := by
  intro pc L S G i v d hw k
  intro H locs ls hH hS hl hN
  exact lv_ldc2 X.1 X.2.1 X.2.2.2.1 (X.2.2.2.2.1 _ hw rfl) d (k H locs ls hH hS hl hN)
/-- rule -/
def bf_r_iload_n (y : bf_M) (J : bf_J) : Prop := ∀ (pc : Nat) (L : bf_L) (S : List Value) (G : bf_G) (i : Fin 4) (x : Int32), decode y.2.1 pc = .ok (.iload_n i, 1) → L[(i : Nat)]? = some (some (.int x)) → J (pc + 1) L (.int x :: S) G → J pc L S G
theorem jw_iload_n (X : bf_X p s m args c E nL y) : bf_r_iload_n y (bf_JW p l e R s m args below meth c E nL N0 Q) := by
  intro pc L S G i x d h k
  intro H locs ls hH hS hl hN
  exact lv_iload_n X.1 X.2.1 d rfl (hl.2.2.2 _ _ h) (k H locs ls hH hS hl hN)
/-- rule -/
def bf_r_iload (y : bf_M) (J : bf_J) : Prop := ∀ (pc : Nat) (L : bf_L) (S : List Value) (G : bf_G) (i : Nat) (x : Int32), decode y.2.1 pc = .ok (.iload i, 2) → L[i]? = some (some (.int x)) → J (pc + 2) L (.int x :: S) G → J pc L S G
theorem jw_iload (X : bf_X p s m args c E nL y) : bf_r_iload y (bf_JW p l e R s m args below meth c E nL N0 Q) := by
  intro pc L S G i x d h k
  intro H locs ls hH hS hl hN
  exact lv_iload X.1 X.2.1 d (hl.2.2.2 _ _ h) (k H locs ls hH hS hl hN)
/-- rule -/
def bf_r_istore_n (y : bf_M) (J : bf_J) : Prop := ∀ (pc : Nat) (L : bf_L) (S : List Value) (G : bf_G) (i : Fin 4) (x : Int32) (L2 : bf_L), decode y.2.1 pc = .ok (.istore_n i, 1) → bf_s1 L i (.int x) = some L2 → J (pc + 1) L2 S G → J pc L (.int x :: S) G
theorem jw_istore_n (X : bf_X p s m args c E nL y) : bf_r_istore_n y (bf_JW p l e R s m args below meth c E nL N0 Q) := by
  intro pc L S G i x L2 d h k
  intro H locs ls hH hS hl hN
  exact lv_istore_n X.1 X.2.1 d rfl hl.has (Nat.lt_of_lt_of_le (bf_s1_lt h) hl.2.2.1) rfl (fun ls2 h2 => k H locs ls2 hH hS (bf_st1 hl h h2) hN)
/-- rule -/
def bf_r_istore (y : bf_M) (J : bf_J) : Prop := ∀ (pc : Nat) (L : bf_L) (S : List Value) (G : bf_G) (i : Nat) (x : Int32) (L2 : bf_L), decode y.2.1 pc = .ok (.istore i, 2) → bf_s1 L i (.int x) = some L2 → J (pc + 2) L2 S G → J pc L (.int x :: S) G
theorem jw_istore (X : bf_X p s m args c E nL y) : bf_r_istore y (bf_JW p l e R s m args below meth c E nL N0 Q) := by
  intro pc L S G i x L2 d h k
  intro H locs ls hH hS hl hN
  exact lv_istore X.1 X.2.1 d hl.has (Nat.lt_of_lt_of_le (bf_s1_lt h) hl.2.2.1) rfl (fun ls2 h2 => k H locs ls2 hH hS (bf_st1 hl h h2) hN)
/-- rule -/
def bf_r_aload_n (y : bf_M) (J : bf_J) : Prop := ∀ (pc : Nat) (L : bf_L) (S : List Value) (G : bf_G) (i : Fin 4) (x : Nat), decode y.2.1 pc = .ok (.aload_n i, 1) → L[(i : Nat)]? = some (some (.ref x)) → J (pc + 1) L (.ref x :: S) G → J pc L S G
theorem jw_aload_n (X : bf_X p s m args c E nL y) : bf_r_aload_n y (bf_JW p l e R s m args below meth c E nL N0 Q) := by
  intro pc L S G i x d h k
  intro H locs ls hH hS hl hN
  exact lv_aload_n X.1 X.2.1 d rfl (hl.2.2.2 _ _ h) (k H locs ls hH hS hl hN)
/-- rule -/
def bf_r_aload (y : bf_M) (J : bf_J) : Prop := ∀ (pc : Nat) (L : bf_L) (S : List Value) (G : bf_G) (i : Nat) (x : Nat), decode y.2.1 pc = .ok (.aload i, 2) → L[i]? = some (some (.ref x)) → J (pc + 2) L (.ref x :: S) G → J pc L S G
theorem jw_aload (X : bf_X p s m args c E nL y) : bf_r_aload y (bf_JW p l e R s m args below meth c E nL N0 Q) := by
  intro pc L S G i x d h k
  intro H locs ls hH hS hl hN
  exact lv_aload X.1 X.2.1 d (hl.2.2.2 _ _ h) (k H locs ls hH hS hl hN)
/-- rule -/
def bf_r_astore_n (y : bf_M) (J : bf_J) : Prop := ∀ (pc : Nat) (L : bf_L) (S : List Value) (G : bf_G) (i : Fin 4) (x : Nat) (L2 : bf_L), decode y.2.1 pc = .ok (.astore_n i, 1) → bf_s1 L i (.ref x) = some L2 → J (pc + 1) L2 S G → J pc L (.ref x :: S) G
theorem jw_astore_n (X : bf_X p s m args c E nL y) : bf_r_astore_n y (bf_JW p l e R s m args below meth c E nL N0 Q) := by
  intro pc L S G i x L2 d h k
  intro H locs ls hH hS hl hN
  exact lv_astore_n X.1 X.2.1 d rfl hl.has (Nat.lt_of_lt_of_le (bf_s1_lt h) hl.2.2.1) rfl (fun ls2 h2 => k H locs ls2 hH hS (bf_st1 hl h h2) hN)
/-- rule -/
def bf_r_astore (y : bf_M) (J : bf_J) : Prop := ∀ (pc : Nat) (L : bf_L) (S : List Value) (G : bf_G) (i : Nat) (x : Nat) (L2 : bf_L), decode y.2.1 pc = .ok (.astore i, 2) → bf_s1 L i (.ref x) = some L2 → J (pc + 2) L2 S G → J pc L (.ref x :: S) G
theorem jw_astore (X : bf_X p s m args c E nL y) : bf_r_astore y (bf_JW p l e R s m args below meth c E nL N0 Q) := by
  intro pc L S G i x L2 d h k
  intro H locs ls hH hS hl hN
  exact lv_astore X.1 X.2.1 d hl.has (Nat.lt_of_lt_of_le (bf_s1_lt h) hl.2.2.1) rfl (fun ls2 h2 => k H locs ls2 hH hS (bf_st1 hl h h2) hN)
/-- rule -/
def bf_r_lload_n (y : bf_M) (J : bf_J) : Prop := ∀ (pc : Nat) (L : bf_L) (S : List Value) (G : bf_G) (i : Fin 4) (x : Int64), decode y.2.1 pc = .ok (.lload_n i, 1) → L[(i : Nat)]? = some (some (.long x)) → J (pc + 1) L (.long x :: S) G → J pc L S G
theorem jw_lload_n (X : bf_X p s m args c E nL y) : bf_r_lload_n y (bf_JW p l e R s m args below meth c E nL N0 Q) := by
  intro pc L S G i x d h k
  intro H locs ls hH hS hl hN
  exact lv_lload_n X.1 X.2.1 d rfl (hl.2.2.2 _ _ h) (k H locs ls hH hS hl hN)
/-- rule -/
def bf_r_lload (y : bf_M) (J : bf_J) : Prop := ∀ (pc : Nat) (L : bf_L) (S : List Value) (G : bf_G) (i : Nat) (x : Int64), decode y.2.1 pc = .ok (.lload i, 2) → L[i]? = some (some (.long x)) → J (pc + 2) L (.long x :: S) G → J pc L S G
theorem jw_lload (X : bf_X p s m args c E nL y) : bf_r_lload y (bf_JW p l e R s m args below meth c E nL N0 Q) := by
  intro pc L S G i x d h k
  intro H locs ls hH hS hl hN
  exact lv_lload X.1 X.2.1 d (hl.2.2.2 _ _ h) (k H locs ls hH hS hl hN)
/-- rule -/
def bf_r_lstore_n (y : bf_M) (J : bf_J) : Prop := ∀ (pc : Nat) (L : bf_L) (S : List Value) (G : bf_G) (i : Fin 4) (x : Int64) (L2 : bf_L), decode y.2.1 pc = .ok (.lstore_n i, 1) → bf_s2 L i (.long x) = some L2 → J (pc + 1) L2 S G → J pc L (.long x :: S) G
theorem jw_lstore_n (X : bf_X p s m args c E nL y) : bf_r_lstore_n y (bf_JW p l e R s m args below meth c E nL N0 Q) := by
  intro pc L S G i x L2 d h k
  intro H locs ls hH hS hl hN
  exact lv_lstore_n X.1 X.2.1 d rfl hl.has (Nat.lt_of_lt_of_le (bf_s2_lt h) hl.2.2.1) rfl (fun ls2 h2 => k H locs ls2 hH hS (bf_st2 hl h h2) hN)
/-- rule -/
def bf_r_lstore (y : bf_M) (J : bf_J) : Prop := ∀ (pc : Nat) (L : bf_L) (S : List Value) (G : bf_G) (i : Nat) (x : Int64) (L2 : bf_L), decode y.2.1 pc = .ok (.lstore i, 2) → bf_s2 L i (.long x) = some L2 → J (pc + 2) L2 S G → J pc L (.long x :: S) G
theorem jw_lstore (X : bf_X p s m args c E nL y) : bf_r_lstore y (bf_JW p l e R s m args below meth c E nL N0 Q) := by
  intro pc L S G i x L2 d h k
  intro H locs ls hH hS hl hN
  exact lv_lstore X.1 X.2.1 d hl.has (Nat.lt_of_lt_of_le (bf_s2_lt h) hl.2.2.1) rfl (fun ls2 h2 => k H locs ls2 hH hS (bf_st2 hl h h2) hN)
/-- rule -/
def bf_r_iinc (y : bf_M) (J : bf_J) : Prop := ∀ (pc : Nat) (L : bf_L) (S : List Value) (G : bf_G) (i : Nat) (n : Int) (x v : Int32) (L2 : bf_L), decode y.2.1 pc = .ok (.iinc i n, 3) → L[i]? = some (some (.int x)) → x + Int32.ofInt n = v → bf_s1 L i (.int v) = some L2 → J (pc + 3) L2 S G → J pc L S G
theorem jw_iinc (X : bf_X p s m args c E nL y) : bf_r_iinc y (bf_JW p l e R s m args below meth c E nL N0 Q) := by
  intro pc L S G i n x v L2 d h1 hv h k
  intro H locs ls hH hS hl hN
  obtain ⟨k0, hk0⟩ := List.getElem?_of_mem (bf_ll_mem.mpr ⟨_, h1, rfl⟩ : (i, bf_cv (bf_ad E) (.int x)) ∈ bf_ll (bf_ad E) L)
  exact lv_iinc (k := k0) (x := x) X.1 X.2.1 d hl.has hk0 hv (Nat.lt_of_lt_of_le (bf_s1_lt h) hl.2.2.1) rfl (fun ls2 h2 => k H locs ls2 hH hS (bf_st1 hl h h2) hN)
/-- rule -/
def bf_r_iadd (y : bf_M) (J : bf_J) : Prop := ∀ (pc : Nat) (L : bf_L) (S : List Value) (G : bf_G) (x z : Int32), decode y.2.1 pc = .ok (.iadd, 1) → J (pc + 1) L (.int (x + z) :: S) G → J pc L (.int z :: .int x :: S) G
theorem jw_iadd (X : bf_X p s m args c E nL y) : bf_r_iadd y (bf_JW p l e R s m args below meth c E nL N0 Q) := by
  intro pc L S G x z d k
  intro H locs ls hH hS hl hN
  exact lv_iadd X.1 X.2.1 d (k H locs ls hH hS hl hN)
/-- rule -/
def bf_r_isub (y : bf_M) (J : bf_J) : Prop := ∀ (pc : Nat) (L : bf_L) (S : List Value) (G : bf_G) (x z : Int32), decode y.2.1 pc = .ok (.isub, 1) → J (pc + 1) L (.int (x - z) :: S) G → J pc L (.int z :: .int x :: S) G
theorem jw_isub (X : bf_X p s m args c E nL y) : bf_r_isub y (bf_JW p l e R s m args below meth c E nL N0 Q) := by
  intro pc L S G x z d k
  intro H locs ls hH hS hl hN
  exact lv_isub X.1 X.2.1 d (k H locs ls hH hS hl hN)
/-- rule -/
def bf_r_imul (y : bf_M) (J : bf_J) : Prop := ∀ (pc : Nat) (L : bf_L) (S : List Value) (G : bf_G) (x z : Int32), decode y.2.1 pc = .ok (.imul, 1) → J (pc + 1) L (.int (x * z) :: S) G → J pc L (.int z :: .int x :: S) G
theorem jw_imul (X : bf_X p s m args c E nL y) : bf_r_imul y (bf_JW p l e R s m args below meth c E nL N0 Q) := by
  intro pc L S G x z d k
  intro H locs ls hH hS hl hN
  exact lv_imul X.1 X.2.1 d (k H locs ls hH hS hl hN)
/-- rule -/
def bf_r_iand (y : bf_M) (J : bf_J) : Prop := ∀ (pc : Nat) (L : bf_L) (S : List Value) (G : bf_G) (x z : Int32), decode y.2.1 pc = .ok (.iand, 1) → J (pc + 1) L (.int (x &&& z) :: S) G → J pc L (.int z :: .int x :: S) G
theorem jw_iand (X : bf_X p s m args c E nL y) : bf_r_iand y (bf_JW p l e R s m args below meth c E nL N0 Q) := by
  intro pc L S G x z d k
  intro H locs ls hH hS hl hN
  exact lv_iand X.1 X.2.1 d (k H locs ls hH hS hl hN)
/-- rule -/
def bf_r_ior (y : bf_M) (J : bf_J) : Prop := ∀ (pc : Nat) (L : bf_L) (S : List Value) (G : bf_G) (x z : Int32), decode y.2.1 pc = .ok (.ior, 1) → J (pc + 1) L (.int (x ||| z) :: S) G → J pc L (.int z :: .int x :: S) G
theorem jw_ior (X : bf_X p s m args c E nL y) : bf_r_ior y (bf_JW p l e R s m args below meth c E nL N0 Q) := by
  intro pc L S G x z d k
  intro H locs ls hH hS hl hN
  exact lv_ior X.1 X.2.1 d (k H locs ls hH hS hl hN)
/-- rule -/
def bf_r_ixor (y : bf_M) (J : bf_J) : Prop := ∀ (pc : Nat) (L : bf_L) (S : List Value) (G : bf_G) (x z : Int32), decode y.2.1 pc = .ok (.ixor, 1) → J (pc + 1) L (.int (x ^^^ z) :: S) G → J pc L (.int z :: .int x :: S) G
theorem jw_ixor (X : bf_X p s m args c E nL y) : bf_r_ixor y (bf_JW p l e R s m args below meth c E nL N0 Q) := by
  intro pc L S G x z d k
  intro H locs ls hH hS hl hN
  exact lv_ixor X.1 X.2.1 d (k H locs ls hH hS hl hN)
/-- rule -/
def bf_r_ishl (y : bf_M) (J : bf_J) : Prop := ∀ (pc : Nat) (L : bf_L) (S : List Value) (G : bf_G) (x z : Int32), decode y.2.1 pc = .ok (.ishl, 1) → J (pc + 1) L (.int (x <<< (z &&& 31)) :: S) G → J pc L (.int z :: .int x :: S) G
theorem jw_ishl (X : bf_X p s m args c E nL y) : bf_r_ishl y (bf_JW p l e R s m args below meth c E nL N0 Q) := by
  intro pc L S G x z d k
  intro H locs ls hH hS hl hN
  exact lv_ishl X.1 X.2.1 d (k H locs ls hH hS hl hN)
/-- rule -/
def bf_r_ishr (y : bf_M) (J : bf_J) : Prop := ∀ (pc : Nat) (L : bf_L) (S : List Value) (G : bf_G) (x z : Int32), decode y.2.1 pc = .ok (.ishr, 1) → J (pc + 1) L (.int (x >>> (z &&& 31)) :: S) G → J pc L (.int z :: .int x :: S) G
theorem jw_ishr (X : bf_X p s m args c E nL y) : bf_r_ishr y (bf_JW p l e R s m args below meth c E nL N0 Q) := by
  intro pc L S G x z d k
  intro H locs ls hH hS hl hN
  exact lv_ishr X.1 X.2.1 d (k H locs ls hH hS hl hN)
/-- rule -/
def bf_r_iushr (y : bf_M) (J : bf_J) : Prop := ∀ (pc : Nat) (L : bf_L) (S : List Value) (G : bf_G) (x z v : Int32), decode y.2.1 pc = .ok (.iushr, 1) → (x.toUInt32 >>> (z.toUInt32 &&& Int32.toUInt32 31)).toInt32 = v → J (pc + 1) L (.int v :: S) G → J pc L (.int z :: .int x :: S) G
theorem jw_iushr (X : bf_X p s m args c E nL y) : bf_r_iushr y (bf_JW p l e R s m args below meth c E nL N0 Q) := by
  intro pc L S G x z v d hv k
  intro H locs ls hH hS hl hN
  exact lv_iushr X.1 X.2.1 d hv (k H locs ls hH hS hl hN)
/-- rule -/
def bf_r_idiv (y : bf_M) (J : bf_J) : Prop := ∀ (pc : Nat) (L : bf_L) (S : List Value) (G : bf_G) (x z : Int32), decode y.2.1 pc = .ok (.idiv, 1) → ¬ z = 0 → J (pc + 1) L (.int (x / z) :: S) G → J pc L (.int z :: .int x :: S) G
theorem jw_idiv (X : bf_X p s m args c E nL y) : bf_r_idiv y (bf_JW p l e R s m args below meth c E nL N0 Q) := by
  intro pc L S G x z d h k
  intro H locs ls hH hS hl hN
  exact lv_idiv X.1 X.2.1 d h (k H locs ls hH hS hl hN)
/-- rule -/
def bf_r_irem (y : bf_M) (J : bf_J) : Prop := ∀ (pc : Nat) (L : bf_L) (S : List Value) (G : bf_G) (x z : Int32), decode y.2.1 pc = .ok (.irem, 1) → ¬ z = 0 → J (pc + 1) L (.int (x - x / z * z) :: S) G → J pc L (.int z :: .int x :: S) G
theorem jw_irem (X : bf_X p s m args c E nL y) : bf_r_irem y (bf_JW p l e R s m args below meth c E nL N0 Q) := by
  intro pc L S G x z d h k
  intro H locs ls hH hS hl hN
  exact lv_irem X.1 X.2.1 d h (k H locs ls hH hS hl hN)
/-- rule -/
def bf_r_ladd (y : bf_M) (J : bf_J) : Prop := ∀ (pc : Nat) (L : bf_L) (S : List Value) (G : bf_G) (x z : Int64), decode y.2.1 pc = .ok (.ladd, 1) → J (pc + 1) L (.long (x + z) :: S) G → J pc L (.long z :: .long x :: S) G
theorem jw_ladd (X : bf_X p s m args c E nL y) : bf_r_ladd y (bf_JW p l e R s m args below meth c E nL N0 Q) := by
  intro pc L S G x z d k
  intro H locs ls hH hS hl hN
  exact lv_ladd X.1 X.2.1 d (k H locs ls hH hS hl hN)
/-- rule -/
def bf_r_lsub (y : bf_M) (J : bf_J) : Prop := ∀ (pc : Nat) (L : bf_L) (S : List Value) (G : bf_G) (x z : Int64), decode y.2.1 pc = .ok (.lsub, 1) → J (pc + 1) L (.long (x - z) :: S) G → J pc L (.long z :: .long x :: S) G
theorem jw_lsub (X : bf_X p s m args c E nL y) : bf_r_lsub y (bf_JW p l e R s m args below meth c E nL N0 Q) := by
  intro pc L S G x z d k
  intro H locs ls hH hS hl hN
  exact lv_lsub X.1 X.2.1 d (k H locs ls hH hS hl hN)
/-- rule -/
def bf_r_lmul (y : bf_M) (J : bf_J) : Prop := ∀ (pc : Nat) (L : bf_L) (S : List Value) (G : bf_G) (x z : Int64), decode y.2.1 pc = .ok (.lmul, 1) → J (pc + 1) L (.long (x * z) :: S) G → J pc L (.long z :: .long x :: S) G
theorem jw_lmul (X : bf_X p s m args c E nL y) : bf_r_lmul y (bf_JW p l e R s m args below meth c E nL N0 Q) := by
  intro pc L S G x z d k
  intro H locs ls hH hS hl hN
  exact lv_lmul X.1 X.2.1 d (k H locs ls hH hS hl hN)
/-- rule -/
def bf_r_ldiv (y : bf_M) (J : bf_J) : Prop := ∀ (pc : Nat) (L : bf_L) (S : List Value) (G : bf_G) (x z : Int64), decode y.2.1 pc = .ok (.ldiv, 1) → ¬ z = 0 → J (pc + 1) L (.long (x / z) :: S) G → J pc L (.long z :: .long x :: S) G
theorem jw_ldiv (X : bf_X p s m args c E nL y) : bf_r_ldiv y (bf_JW p l e R s m args below meth c E nL N0 Q) := by
  intro pc L S G x z d h k
  intro H locs ls hH hS hl hN
  exact lv_ldiv X.1 X.2.1 d h (k H locs ls hH hS hl hN)
/-- rule -/
def bf_r_lrem (y : bf_M) (J : bf_J) : Prop := ∀ (pc : Nat) (L : bf_L) (S : List Value) (G : bf_G) (x z : Int64), decode y.2.1 pc = .ok (.lrem, 1) → ¬ z = 0 → J (pc + 1) L (.long (x - x / z * z) :: S) G → J pc L (.long z :: .long x :: S) G
theorem jw_lrem (X : bf_X p s m args c E nL y) : bf_r_lrem y (bf_JW p l e R s m args below meth c E nL N0 Q) := by
  intro pc L S G x z d h k
  intro H locs ls hH hS hl hN
  exact lv_lrem X.1 X.2.1 d h (k H locs ls hH hS hl hN)
/-- rule -/
def bf_r_lcmp (y : bf_M) (J : bf_J) : Prop := ∀ (pc : Nat) (L : bf_L) (S : List Value) (G : bf_G) (x z : Int64), decode y.2.1 pc = .ok (.lcmp, 1) → J (pc + 1) L (.int (lg_cmp x z) :: S) G → J pc L (.long z :: .long x :: S) G
theorem jw_lcmp (X : bf_X p s m args c E nL y) : bf_r_lcmp y (bf_JW p l e R s m args below meth c E nL N0 Q) := by
  intro pc L S G x z d k
  intro H locs ls hH hS hl hN
  exact W.lcmp X.1 X.2.1 d (k H locs ls hH hS hl hN)
/-- rule -/
def bf_r_i2l (y : bf_M) (J : bf_J) : Prop := ∀ (pc : Nat) (L : bf_L) (S : List Value) (G : bf_G) (x : Int32), decode y.2.1 pc = .ok (.i2l, 1) → J (pc + 1) L (.long x.toInt64 :: S) G → J pc L (.int x :: S) G
theorem jw_i2l (X : bf_X p s m args c E nL y) : bf_r_i2l y (bf_JW p l e R s m args below meth c E nL N0 Q) := by
  intro pc L S G x d k
  intro H locs ls hH hS hl hN
  exact lv_i2l X.1 X.2.1 d rfl (k H locs ls hH hS hl hN)
/-- rule -/
def bf_r_i2b (y : bf_M) (J : bf_J) : Prop := ∀ (pc : Nat) (L : bf_L) (S : List Value) (G : bf_G) (x : Int32), decode y.2.1 pc = .ok (.i2b, 1) → J (pc + 1) L (.int x.toInt8.toInt32 :: S) G → J pc L (.int x :: S) G
theorem jw_i2b (X : bf_X p s m args c E nL y) : bf_r_i2b y (bf_JW p l e R s m args below meth c E nL N0 Q) := by
  intro pc L S G x d k
  intro H locs ls hH hS hl hN
  exact lv_i2b X.1 X.2.1 d rfl (k H locs ls hH hS hl hN)
/-- rule -/
def bf_r_i2s (y : bf_M) (J : bf_J) : Prop := ∀ (pc : Nat) (L : bf_L) (S : List Value) (G : bf_G) (x : Int32), decode y.2.1 pc = .ok (.i2s, 1) → J (pc + 1) L (.int x.toInt16.toInt32 :: S) G → J pc L (.int x :: S) G
theorem jw_i2s (X : bf_X p s m args c E nL y) : bf_r_i2s y (bf_JW p l e R s m args below meth c E nL N0 Q) := by
  intro pc L S G x d k
  intro H locs ls hH hS hl hN
  exact lv_i2s X.1 X.2.1 d rfl (k H locs ls hH hS hl hN)
/-- rule -/
def bf_r_dup (y : bf_M) (J : bf_J) : Prop := ∀ (pc : Nat) (L : bf_L) (S : List Value) (G : bf_G) (v : Value), decode y.2.1 pc = .ok (.dup, 1) → v.category = 1 → J (pc + 1) L (v :: v :: S) G → J pc L (v :: S) G
theorem jw_dup (X : bf_X p s m args c E nL y) : bf_r_dup y (bf_JW p l e R s m args below meth c E nL N0 Q) := by
  intro pc L S G v d h k
  intro H locs ls hH hS hl hN
  exact lv_dup X.1 X.2.1 d ((bf_cat _ v).trans h) (k H locs ls hH hS hl hN)
/-- rule -/
def bf_r_dup2 (y : bf_M) (J : bf_J) : Prop := ∀ (pc : Nat) (L : bf_L) (S : List Value) (G : bf_G) (v w : Value), decode y.2.1 pc = .ok (.dup2, 1) → v.category = 1 → w.category = 1 → J (pc + 1) L (v :: w :: v :: w :: S) G → J pc L (v :: w :: S) G
theorem jw_dup2 (X : bf_X p s m args c E nL y) : bf_r_dup2 y (bf_JW p l e R s m args below meth c E nL N0 Q) := by
  intro pc L S G v w d h h2 k
  intro H locs ls hH hS hl hN
  exact lv_dup2_11 X.1 X.2.1 d ((bf_cat _ v).trans h) ((bf_cat _ w).trans h2) (k H locs ls hH hS hl hN)
/-- rule -/
def bf_r_if_eq (y : bf_M) (J : bf_J) : Prop := ∀ (pc : Nat) (L : bf_L) (S : List Value) (G : bf_G) (x : Int32) (off : Int) (tgt : Nat), decode y.2.1 pc = .ok (.ifCond .eq off, 3) → (pc : Int) + off = (tgt : Int) → (x = 0 → J tgt L S G) → (¬ x = 0 → J (pc + 3) L S G) → J pc L (.int x :: S) G
theorem jw_if_eq (X : bf_X p s m args c E nL y) : bf_r_if_eq y (bf_JW p l e R s m args below meth c E nL N0 Q) := by
  intro pc L S G x off tgt d ht kt kf
  intro H locs ls hH hS hl hN
  exact lv_if_eq X.1 X.2.1 d ht (fun q => kt q H locs ls hH hS hl hN) (fun q => kf q H locs ls hH hS hl hN)
/-- rule -/
def bf_r_icmp_eq (y : bf_M) (J : bf_J) : Prop := ∀ (pc : Nat) (L : bf_L) (S : List Value) (G : bf_G) (x z : Int32) (off : Int) (tgt : Nat), decode y.2.1 pc = .ok (.if_icmp .eq off, 3) → (pc : Int) + off = (tgt : Int) → (x = z → J tgt L S G) → (¬ x = z → J (pc + 3) L S G) → J pc L (.int z :: .int x :: S) G
theorem jw_icmp_eq (X : bf_X p s m args c E nL y) : bf_r_icmp_eq y (bf_JW p l e R s m args below meth c E nL N0 Q) := by
  intro pc L S G x z off tgt d ht kt kf
  intro H locs ls hH hS hl hN
  exact lv_icmp_eq X.1 X.2.1 d ht (fun q => kt q H locs ls hH hS hl hN) (fun q => kf q H locs ls hH hS hl hN)
/-- rule -/
def bf_r_if_ne (y : bf_M) (J : bf_J) : Prop := ∀ (pc : Nat) (L : bf_L) (S : List Value) (G : bf_G) (x : Int32) (off : Int) (tgt : Nat), decode y.2.1 pc = .ok (.ifCond .ne off, 3) → (pc : Int) + off = (tgt : Int) → (¬ x = 0 → J tgt L S G) → (x = 0 → J (pc + 3) L S G) → J pc L (.int x :: S) G
theorem jw_if_ne (X : bf_X p s m args c E nL y) : bf_r_if_ne y (bf_JW p l e R s m args below meth c E nL N0 Q) := by
  intro pc L S G x off tgt d ht kt kf
  intro H locs ls hH hS hl hN
  exact lv_if_ne X.1 X.2.1 d ht (fun q => kt q H locs ls hH hS hl hN) (fun q => kf q H locs ls hH hS hl hN)
/-- rule -/
def bf_r_icmp_ne (y : bf_M) (J : bf_J) : Prop := ∀ (pc : Nat) (L : bf_L) (S : List Value) (G : bf_G) (x z : Int32) (off : Int) (tgt : Nat), decode y.2.1 pc = .ok (.if_icmp .ne off, 3) → (pc : Int) + off = (tgt : Int) → (¬ x = z → J tgt L S G) → (x = z → J (pc + 3) L S G) → J pc L (.int z :: .int x :: S) G
theorem jw_icmp_ne (X : bf_X p s m args c E nL y) : bf_r_icmp_ne y (bf_JW p l e R s m args below meth c E nL N0 Q) := by
  intro pc L S G x z off tgt d ht kt kf
  intro H locs ls hH hS hl hN
  exact lv_icmp_ne X.1 X.2.1 d ht (fun q => kt q H locs ls hH hS hl hN) (fun q => kf q H locs ls hH hS hl hN)
/-- rule -/
def bf_r_if_lt (y : bf_M) (J : bf_J) : Prop := ∀ (pc : Nat) (L : bf_L) (S : List Value) (G : bf_G) (x : Int32) (off : Int) (tgt : Nat), decode y.2.1 pc = .ok (.ifCond .lt off, 3) → (pc : Int) + off = (tgt : Int) → (x < 0 → J tgt L S G) → (¬ x < 0 → J (pc + 3) L S G) → J pc L (.int x :: S) G
theorem jw_if_lt (X : bf_X p s m args c E nL y) : bf_r_if_lt y (bf_JW p l e R s m args below meth c E nL N0 Q) := by
  intro pc L S G x off tgt d ht kt kf
  intro H locs ls hH hS hl hN
  exact lv_if_lt X.1 X.2.1 d ht (fun q => kt q H locs ls hH hS hl hN) (fun q => kf q H locs ls hH hS hl hN)
/-- rule -/
def bf_r_icmp_lt (y : bf_M) (J : bf_J) : Prop := ∀ (pc : Nat) (L : bf_L) (S : List Value) (G : bf_G) (x z : Int32) (off : Int) (tgt : Nat), decode y.2.1 pc = .ok (.if_icmp .lt off, 3) → (pc : Int) + off = (tgt : Int) → (x < z → J tgt L S G) → (¬ x < z → J (pc + 3) L S G) → J pc L (.int z :: .int x :: S) G
theorem jw_icmp_lt (X : bf_X p s m args c E nL y) : bf_r_icmp_lt y (bf_JW p l e R s m args below meth c E nL N0 Q) := by
  intro pc L S G x z off tgt d ht kt kf
  intro H locs ls hH hS hl hN
  exact lv_icmp_lt X.1 X.2.1 d ht (fun q => kt q H locs ls hH hS hl hN) (fun q => kf q H locs ls hH hS hl hN)
/-- rule -/
def bf_r_if_ge (y : bf_M) (J : bf_J) : Prop := ∀ (pc : Nat) (L : bf_L) (S : List Value) (G : bf_G) (x : Int32) (off : Int) (tgt : Nat), decode y.2.1 pc = .ok (.ifCond .ge off, 3) → (pc : Int) + off = (tgt : Int) → (0 ≤ x → J tgt L S G) → (¬ 0 ≤ x → J (pc + 3) L S G) → J pc L (.int x :: S) G
theorem jw_if_ge (X : bf_X p s m args c E nL y) : bf_r_if_ge y (bf_JW p l e R s m args below meth c E nL N0 Q) := by
  intro pc L S G x off tgt d ht kt kf
  intro H locs ls hH hS hl hN
  exact lv_if_ge X.1 X.2.1 d ht (fun q => kt q H locs ls hH hS hl hN) (fun q => kf q H locs ls hH hS hl hN)
/-- rule -/
def bf_r_icmp_ge (y : bf_M) (J : bf_J) : Prop := ∀ (pc : Nat) (L : bf_L) (S : List Value) (G : bf_G) (x z : Int32) (off : Int) (tgt : Nat), decode y.2.1 pc = .ok (.if_icmp .ge off, 3) → (pc : Int) + off = (tgt : Int) → (z ≤ x → J tgt L S G) → (¬ z ≤ x → J (pc + 3) L S G) → J pc L (.int z :: .int x :: S) G
theorem jw_icmp_ge (X : bf_X p s m args c E nL y) : bf_r_icmp_ge y (bf_JW p l e R s m args below meth c E nL N0 Q) := by
  intro pc L S G x z off tgt d ht kt kf
  intro H locs ls hH hS hl hN
  exact lv_icmp_ge X.1 X.2.1 d ht (fun q => kt q H locs ls hH hS hl hN) (fun q => kf q H locs ls hH hS hl hN)
/-- rule -/
def bf_r_if_gt (y : bf_M) (J : bf_J) : Prop := ∀ (pc : Nat) (L : bf_L) (S : List Value) (G : bf_G) (x : Int32) (off : Int) (tgt : Nat), decode y.2.1 pc = .ok (.ifCond .gt off, 3) → (pc : Int) + off = (tgt : Int) → (0 < x → J tgt L S G) → (¬ 0 < x → J (pc + 3) L S G) → J pc L (.int x :: S) G
theorem jw_if_gt (X : bf_X p s m args c E nL y) : bf_r_if_gt y (bf_JW p l e R s m args below meth c E nL N0 Q) := by
  intro pc L S G x off tgt d ht kt kf
  intro H locs ls hH hS hl hN
  exact lv_if_gt X.1 X.2.1 d ht (fun q => kt q H locs ls hH hS hl hN) (fun q => kf q H locs ls hH hS hl hN)
/-- rule -/
def bf_r_icmp_gt (y : bf_M) (J : bf_J) : Prop := ∀ (pc : Nat) (L : bf_L) (S : List Value) (G : bf_G) (x z : Int32) (off : Int) (tgt : Nat), decode y.2.1 pc = .ok (.if_icmp .gt off, 3) → (pc : Int) + off = (tgt : Int) → (z < x → J tgt L S G) → (¬ z < x → J (pc + 3) L S G) → J pc L (.int z :: .int x :: S) G
theorem jw_icmp_gt (X : bf_X p s m args c E nL y) : bf_r_icmp_gt y (bf_JW p l e R s m args below meth c E nL N0 Q) := by
  intro pc L S G x z off tgt d ht kt kf
  intro H locs ls hH hS hl hN
  exact lv_icmp_gt X.1 X.2.1 d ht (fun q => kt q H locs ls hH hS hl hN) (fun q => kf q H locs ls hH hS hl hN)
/-- rule -/
def bf_r_if_le (y : bf_M) (J : bf_J) : Prop := ∀ (pc : Nat) (L : bf_L) (S : List Value) (G : bf_G) (x : Int32) (off : Int) (tgt : Nat), decode y.2.1 pc = .ok (.ifCond .le off, 3) → (pc : Int) + off = (tgt : Int) → (x ≤ 0 → J tgt L S G) → (¬ x ≤ 0 → J (pc + 3) L S G) → J pc L (.int x :: S) G
theorem jw_if_le (X : bf_X p s m args c E nL y) : bf_r_if_le y (bf_JW p l e R s m args below meth c E nL N0 Q) := by
  intro pc L S G x off tgt d ht kt kf
  intro H locs ls hH hS hl hN
  exact lv_if_le X.1 X.2.1 d ht (fun q => kt q H locs ls hH hS hl hN) (fun q => kf q H locs ls hH hS hl hN)
/-- rule -/
def bf_r_icmp_le (y : bf_M) (J : bf_J) : Prop := ∀ (pc : Nat) (L : bf_L) (S : List Value) (G : bf_G) (x z : Int32) (off : Int) (tgt : Nat), decode y.2.1 pc = .ok (.if_icmp .le off, 3) → (pc : Int) + off = (tgt : Int) → (x ≤ z → J tgt L S G) → (¬ x ≤ z → J (pc + 3) L S G) → J pc L (.int z :: .int x :: S) G
theorem jw_icmp_le (X : bf_X p s m args c E nL y) : bf_r_icmp_le y (bf_JW p l e R s m args below meth c E nL N0 Q) := by
  intro pc L S G x z off tgt d ht kt kf
  intro H locs ls hH hS hl hN
  exact lv_icmp_le X.1 X.2.1 d ht (fun q => kt q H locs ls hH hS hl hN) (fun q => kf q H locs ls hH hS hl hN)
/-- rule -/
def bf_r_goto (y : bf_M) (J : bf_J) : Prop := ∀ (pc : Nat) (L : bf_L) (S : List Value) (G : bf_G) (off : Int) (tgt : Nat), decode y.2.1 pc = .ok (.goto off, 3) → (pc : Int) + off = (tgt : Int) → J tgt L S G → J pc L S G
theorem jw_goto (X : bf_X p s m args c E nL y) : bf_r_goto y (bf_JW p l e R s m args below meth c E nL N0 Q) := by
  intro pc L S G off tgt d ht k
  intro H locs ls hH hS hl hN
  exact lv_goto X.1 X.2.1 d ht (k H locs ls hH hS hl hN)
/-- rule -/
def bf_r_tabIn (y : bf_M) (J : bf_J) : Prop := ∀ (pc : Nat) (L : bf_L) (S : List Value) (G : bf_G) (df lo hi : Int) (offs : Array Int) (len : Nat) (x : Int32) (off : Int) (tgt : Nat), decode y.2.1 pc = .ok (.tableswitch df lo hi offs, len) → ¬ x.toInt < lo → ¬ hi < x.toInt → offs[(x.toInt - lo).toNat]? = some off → (pc : Int) + off = (tgt : Int) → J tgt L S G → J pc L (.int x :: S) G
theorem jw_tabIn (X : bf_X p s m args c E nL y) : bf_r_tabIn y (bf_JW p l e R s m args below meth c E nL N0 Q) := by
  intro pc L S G df lo hi offs len x off tgt d h1 h2 ho ht k
  intro H locs ls hH hS hl hN
  exact lv_tableIn X.1 X.2.1 d h1 h2 ho ht (k H locs ls hH hS hl hN)
/-- rule -/
def bf_r_tabOut (y : bf_M) (J : bf_J) : Prop := ∀ (pc : Nat) (L : bf_L) (S : List Value) (G : bf_G) (df lo hi : Int) (offs : Array Int) (len : Nat) (x : Int32) (tgt : Nat), decode y.2.1 pc = .ok (.tableswitch df lo hi offs, len) → x.toInt < lo ∨ hi < x.toInt → (pc : Int) + df = (tgt : Int) → J tgt L S G → J pc L (.int x :: S) G
theorem jw_tabOut (X : bf_X p s m args c E nL y) : bf_r_tabOut y (bf_JW p l e R s m args below meth c E nL N0 Q) := by
  intro pc L S G df lo hi offs len x tgt d h1 ht k
  intro H locs ls hH hS hl hN
  exact lv_tableOut X.1 X.2.1 d h1 ht (k H locs ls hH hS hl hN)
/-- rule -/
def bf_r_lookup (y : bf_M) (J : bf_J) : Prop := ∀ (pc : Nat) (L : bf_L) (S : List Value) (G : bf_G) (df : Int) (ps : Array (Int × Int)) (len : Nat) (x : Int32) (off : Int) (tgt : Nat), decode y.2.1 pc = .ok (.lookupswitch df ps, len) → (ps.toList.zip (ps.toList.drop 1)).all (fun (a, next) => a.1 < next.1) = true → Op.lookupswitch.offset ps.toList df x.toInt = off → (pc : Int) + off = (tgt : Int) → J tgt L S G → J pc L (.int x :: S) G
theorem jw_lookup (X : bf_X p s m args c E nL y) : bf_r_lookup y (bf_JW p l e R s m args below meth c E nL N0 Q) := by
  intro pc L S G df ps len x off tgt d hp ho ht k
  intro H locs ls hH hS hl hN
  exact lv_lookup X.1 X.2.1 d hp ho ht (k H locs ls hH hS hl hN)
/-- rule -/
def bf_r_get (y : bf_M) (J : bf_J) : Prop := ∀ (pc : Nat) (L : bf_L) (S : List Value) (G : bf_G) (i ci j a : Nat), decode y.2.1 pc = .ok (.getfield i, 3) → bf_fl y.1.cls i ci j → (bf_kd a).1 = ci → a < G.1 → J (pc + 3) L (G.2 a j :: S) G → J pc L (.ref a :: S) G
theorem jw_get (X : bf_X p s m args c E nL y) : bf_r_get y (bf_JW p l e R s m args below meth c E nL N0 Q) := by
  intro pc L S G i ci j a d hf hk ha k
  intro H locs ls hH hS hl hN
  exact jw_getp X d hf hk ha hH (k H locs ls hH hS hl hN)
/-- rule -/
def bf_r_put (y : bf_M) (J : bf_J) : Prop := ∀ (pc : Nat) (L : bf_L) (S : List Value) (G : bf_G) (i ci j a : Nat) (v : Int32), decode y.2.1 pc = .ok (.putfield i, 3) → bf_fp y.1.cls i ci j → (bf_kd a).1 = ci → a < G.1 → J (pc + 3) L S (G.1, bf_up G.2 a j (.int v)) → J pc L (.int v :: .ref a :: S) G
theorem jw_put (X : bf_X p s m args c E nL y) : bf_r_put y (bf_JW p l e R s m args below meth c E nL N0 Q) := by
  intro pc L S G i ci j a v d hf hk ha k
  intro H locs ls hH hS hl hN
  exact jw_putp X d hf hk ha hH hS (fun H1 locs1 h1 h2 => k H1 locs1 ls h1 h2 hl hN)
/-- rule -/
def bf_r_iald (y : bf_M) (J : bf_J) : Prop := ∀ (pc : Nat) (L : bf_L) (S : List Value) (G : bf_G) (a n : Nat) (i : Int32), decode y.2.1 pc = .ok (.iaload, 1) → bf_kd a = (9, n) → a < G.1 → vp_in i n → J (pc + 1) L (G.2 a i.toNatClampNeg :: S) G → J pc L (.int i :: .ref a :: S) G
theorem jw_iald (X : bf_X p s m args c E nL y) : bf_r_iald y (bf_JW p l e R s m args below meth c E nL N0 Q) := by
  intro pc L S G a n i d hk ha hi k
  intro H locs ls hH hS hl hN
  have hc := (hH.2.2 a ha).arr hk (by decide)
  exact W.iald (v := bf_cv (bf_ad E) (G.2 a i.toNatClampNeg)) X.1 X.2.1 hc ((X.2.2.2.2.2.1.1.2 0 _ rfl).1 n _) (fun q => by cases q) (by rw [arrV_size]; exact hi) (by rw [arrV_read _ _ (Nat.not_le.mp fun q => hi (Or.inr q))]) rfl rfl d (k H locs ls hH hS hl hN)
/-- rule -/
def bf_r_iast (y : bf_M) (J : bf_J) : Prop := ∀ (pc : Nat) (L : bf_L) (S : List Value) (G : bf_G) (a n : Nat) (i v : Int32), decode y.2.1 pc = .ok (.iastore, 1) → bf_kd a = (9, n) → a < G.1 → vp_in i n → J (pc + 1) L S (G.1, bf_up G.2 a i.toNatClampNeg (.int v)) → J pc L (.int v :: .int i :: .ref a :: S) G
theorem jw_iast (X : bf_X p s m args c E nL y) : bf_r_iast y (bf_JW p l e R s m args below meth c E nL N0 Q) := by
  intro pc L S G a n i v d hk ha hi k
  intro H locs ls hH hS hl hN
  have hc := (hH.2.2 a ha).arr hk (by decide)
  refine W.iast X.1 X.2.1 hc ((X.2.2.2.2.2.1.1.2 0 _ rfl).1 n _) (fun q => by cases q) (by rw [arrV_size]; exact hi) rfl rfl d (fun H1 e1 z1 o1 => ?_)
  refine k H1 _ ls (hH.put ha z1 o1 ?_ (fun b j hb => by simp [bf_up, hb])) (bf_S.put hS z1 o1 (Nat.lt_of_lt_of_le ha hH.1)) hl hN
  unfold bf_C
  rw [hk, if_neg (by simp), e1, arrV_store]
  congr 2
  funext j
  by_cases hj : j = i.toNatClampNeg
  · simp [updV, bf_up, hj, bf_cv]
  · simp [updV, bf_up, hj]
/-- rule -/
def bf_r_aald (y : bf_M) (J : bf_J) : Prop := ∀ (pc : Nat) (L : bf_L) (S : List Value) (G : bf_G) (a ci n b : Nat) (i : Int32), decode y.2.1 pc = .ok (.aaload, 1) → ci = 10 ∨ ci = 11 → bf_kd a = (ci, n) → a < G.1 → vp_in i n → G.2 a i.toNatClampNeg = .ref b → J (pc + 1) L (.ref b :: S) G → J pc L (.int i :: .ref a :: S) G
theorem jw_aald (X : bf_X p s m args c E nL y) : bf_r_aald y (bf_JW p l e R s m args below meth c E nL N0 Q) := by
  intro pc L S G a ci n b i d hc hk ha hi hb k
  intro H locs ls hH hS hl hN
  have hcc := (hH.2.2 a ha).arr hk (by omega)
  have hk2 := k H locs ls hH hS hl hN
  rcases hc with rfl | rfl
  · exact W.aald (ty := .object RX3) (v := .ref (bf_ad E b)) X.1 X.2.1 hcc ((X.2.2.2.2.2.1.1.2 1 _ rfl).1 n _) rfl (fun q => by cases q) (by rw [arrV_size]; exact hi) (by rw [arrV_read _ _ (Nat.not_le.mp fun q => hi (Or.inr q)), hb]; rfl) rfl rfl d hk2
  · exact W.aald (ty := .object RX5) (v := .ref (bf_ad E b)) X.1 X.2.1 hcc ((X.2.2.2.2.2.1.1.2 2 _ rfl).1 n _) rfl (fun q => by cases q) (by rw [arrV_size]; exact hi) (by rw [arrV_read _ _ (Nat.not_le.mp fun q => hi (Or.inr q)), hb]; rfl) rfl rfl d hk2
/-- rule -/
def bf_r_alen (y : bf_M) (J : bf_J) : Prop := ∀ (pc : Nat) (L : bf_L) (S : List Value) (G : bf_G) (a n : Nat) (v : Int32), decode y.2.1 pc = .ok (.arraylength, 1) → bf_kd a = (9, n) → a < G.1 → Int32.ofNat n = v → J (pc + 1) L (.int v :: S) G → J pc L (.ref a :: S) G
theorem jw_alen (X : bf_X p s m args c E nL y) : bf_r_alen y (bf_JW p l e R s m args below meth c E nL N0 Q) := by
  intro pc L S G a n v d hk ha hv k
  intro H locs ls hH hS hl hN
  have hc := (hH.2.2 a ha).arr hk (by decide)
  exact W.alen X.1 X.2.1 hc ((X.2.2.2.2.2.1.1.2 0 _ rfl).1 n _) (by rw [arrV_size]; exact hv) rfl rfl d (k H locs ls hH hS hl hN)
/-- rule -/
def bf_r_gsF (y : bf_M) (J : bf_J) : Prop := ∀ (pc : Nat) (L : bf_L) (S : List Value) (G : bf_G) (i : Nat), decode y.2.1 pc = .ok (.getstatic i, 3) → Cond.fieldLink y.1.cls i RX0 "FIGURES" "[I" ∈ lw_tbl → J (pc + 3) L (.ref 100 :: S) G → J pc L S G
theorem jw_gsF (X : bf_X p s m args c E nL y) : bf_r_gsF y (bf_JW p l e R s m args below meth c E nL N0 Q) := by
  intro pc L S G i d hw k
  intro H locs ls hH hS hl hN
  exact va_gets X.1 X.2.1 X.2.2.2.2.2.2.1.1 hS X.2.2.2.1 (X.2.2.2.2.1 _ hw rfl) (fun _ h => h) d (k H locs ls hH hS hl hN)
/-- rule -/
def bf_r_gsG (y : bf_M) (J : bf_J) : Prop := ∀ (pc : Nat) (L : bf_L) (S : List Value) (G : bf_G) (i : Nat), decode y.2.1 pc = .ok (.getstatic i, 3) → Cond.fieldLink y.1.cls i RX7 "GREATEST" "[I" ∈ lw_tbl → J (pc + 3) L (.ref 101 :: S) G → J pc L S G
theorem jw_gsG (X : bf_X p s m args c E nL y) : bf_r_gsG y (bf_JW p l e R s m args below meth c E nL N0 Q) := by
  intro pc L S G i d hw k
  intro H locs ls hH hS hl hN
  exact va_gets X.1 X.2.1 X.2.2.2.2.2.2.2.1 hS X.2.2.2.1 (X.2.2.2.2.1 _ hw rfl) (fun _ h => h) d (k H locs ls hH hS hl hN)
/-- rule -/
def bf_r_ldF (y : bf_M) (J : bf_J) : Prop := ∀ (pc : Nat) (L : bf_L) (S : List Value) (G : bf_G) (i : Int32), decode y.2.1 pc = .ok (.iaload, 1) → vp_in i 10 → J (pc + 1) L (.int (bf_fig i.toNatClampNeg) :: S) G → J pc L (.int i :: .ref 100 :: S) G
theorem jw_ldF (X : bf_X p s m args c E nL y) : bf_r_ldF y (bf_JW p l e R s m args below meth c E nL N0 Q) := by
  intro pc L S G i d hi k
  intro H locs ls hH hS hl hN
  exact va_ti X.1 X.2.1 X.2.2.2.2.2.2.1.2 hS hi rfl d (k H locs ls hH hS hl hN)
/-- rule -/
def bf_r_ldG (y : bf_M) (J : bf_J) : Prop := ∀ (pc : Nat) (L : bf_L) (S : List Value) (G : bf_G) (i : Int32), decode y.2.1 pc = .ok (.iaload, 1) → vp_in i 3 → J (pc + 1) L (.int (bf_gre i.toNatClampNeg) :: S) G → J pc L (.int i :: .ref 101 :: S) G
theorem jw_ldG (X : bf_X p s m args c E nL y) : bf_r_ldG y (bf_JW p l e R s m args below meth c E nL N0 Q) := by
  intro pc L S G i d hi k
  intro H locs ls hH hS hl hN
  exact va_ti X.1 X.2.1 X.2.2.2.2.2.2.2.2 hS hi rfl d (k H locs ls hH hS hl hN)
/-- rule -/
def bf_r_lenG (y : bf_M) (J : bf_J) : Prop := ∀ (pc : Nat) (L : bf_L) (S : List Value) (G : bf_G), decode y.2.1 pc = .ok (.arraylength, 1) → J (pc + 1) L (.int 3 :: S) G → J pc L (.ref 101 :: S) G
theorem jw_lenG (X : bf_X p s m args c E nL y) : bf_r_lenG y (bf_JW p l e R s m args below meth c E nL N0 Q) := by
  intro pc L S G d k
  intro H locs ls hH hS hl hN
  exact va_tlen X.1 X.2.1 X.2.2.2.2.2.2.2.2 hS rfl d (k H locs ls hH hS hl hN)
/-- rule -/
def bf_r_name (y : bf_M) (J : bf_J) : Prop := ∀ (pc : Nat) (L : bf_L) (S : List Value) (G : bf_G) (x : Int32), (∀ z : Int32, z = x → J pc L (.int z :: S) G) → J pc L (.int x :: S) G
theorem jw_name (X : bf_X p s m args c E nL y) : bf_r_name y (bf_JW p l e R s m args below meth c E nL N0 Q) := by
  intro pc L S G x k
  intro H locs ls hH hS hl hN
  exact k x rfl H locs ls hH hS hl hN
/-- rule -/
def bf_r_fgt (y : bf_M) (J : bf_J) : Prop := ∀ (pc : Nat) (L : bf_L) (S : List Value) (G : bf_G) (i : Nat) (L2 : bf_L), L.set i none = L2 → J pc L2 S G → J pc L S G
theorem jw_fgt (X : bf_X p s m args c E nL y) : bf_r_fgt y (bf_JW p l e R s m args below meth c E nL N0 Q) := by
  intro pc L S G i L2 h k
  intro H locs ls hH hS hl hN
  subst h
  refine k H locs ls hH hS ⟨hl.1, hl.2.1, by rw [List.length_set]; exact hl.2.2.1, fun q v hq => hl.2.2.2 q v ?_⟩ hN
  by_cases e : i = q
  · subst e
    rw [List.getElem?_set] at hq
    split at hq
    · split at hq
      · cases hq
      · cases hq
    · exact hq
  · rw [List.getElem?_set_ne e] at hq
    exact hq
end bfW
def bf_Ru (y : bf_M) (J : bf_J) : Prop := bf_r_iconst y J ∧ bf_r_bipush y J ∧ bf_r_sipush y J ∧ bf_r_lconst y J ∧ bf_r_ldcw y J ∧ bf_r_ldc2 y J ∧ bf_r_iload_n y J ∧ bf_r_iload y J ∧ bf_r_istore_n y J ∧ bf_r_istore y J ∧ bf_r_aload_n y J ∧ bf_r_aload y J ∧ bf_r_astore_n y J ∧ bf_r_astore y J ∧ bf_r_lload_n y J ∧ bf_r_lload y J ∧ bf_r_lstore_n y J ∧ bf_r_lstore y J ∧ bf_r_iinc y J ∧ bf_r_iadd y J ∧ bf_r_isub y J ∧ bf_r_imul y J ∧ bf_r_iand y J ∧ bf_r_ior y J ∧ bf_r_ixor y J ∧ bf_r_ishl y J ∧ bf_r_ishr y J ∧ bf_r_iushr y J ∧ bf_r_idiv y J ∧ bf_r_irem y J ∧ bf_r_ladd y J ∧ bf_r_lsub y J ∧ bf_r_lmul y J ∧ bf_r_ldiv y J ∧ bf_r_lrem y J ∧ bf_r_lcmp y J ∧ bf_r_i2l y J ∧ bf_r_i2b y J ∧ bf_r_i2s y J ∧ bf_r_dup y J ∧ bf_r_dup2 y J ∧ bf_r_if_eq y J ∧ bf_r_icmp_eq y J ∧ bf_r_if_ne y J ∧ bf_r_icmp_ne y J ∧ bf_r_if_lt y J ∧ bf_r_icmp_lt y J ∧ bf_r_if_ge y J ∧ bf_r_icmp_ge y J ∧ bf_r_if_gt y J ∧ bf_r_icmp_gt y J ∧ bf_r_if_le y J ∧ bf_r_icmp_le y J ∧ bf_r_goto y J ∧ bf_r_tabIn y J ∧ bf_r_tabOut y J ∧ bf_r_lookup y J ∧ bf_r_get y J ∧ bf_r_put y J ∧ bf_r_iald y J ∧ bf_r_iast y J ∧ bf_r_aald y J ∧ bf_r_alen y J ∧ bf_r_gsF y J ∧ bf_r_gsG y J ∧ bf_r_ldF y J ∧ bf_r_ldG y J ∧ bf_r_lenG y J ∧ bf_r_name y J ∧ bf_r_fgt y J
theorem jw_Ru {p : Program} {l : Launch} {e : Env} {R : Room} {s : State} {m : MethodId} {args : Array Value} {below : List Frame} {meth : Method} {c : Code} {E : bf_E} {nL N0 : Nat} {Q : State → Prop} {y : bf_M} (X : bf_X p s m args c E nL y) : bf_Ru y (bf_JW p l e R s m args below meth c E nL N0 Q) := ⟨jw_iconst X, jw_bipush X, jw_sipush X, jw_lconst X, jw_ldcw X, jw_ldc2 X, jw_iload_n X, jw_iload X, jw_istore_n X, jw_istore X, jw_aload_n X, jw_aload X, jw_astore_n X, jw_astore X, jw_lload_n X, jw_lload X, jw_lstore_n X, jw_lstore X, jw_iinc X, jw_iadd X, jw_isub X, jw_imul X, jw_iand X, jw_ior X, jw_ixor X, jw_ishl X, jw_ishr X, jw_iushr X, jw_idiv X, jw_irem X, jw_ladd X, jw_lsub X, jw_lmul X, jw_ldiv X, jw_lrem X, jw_lcmp X, jw_i2l X, jw_i2b X, jw_i2s X, jw_dup X, jw_dup2 X, jw_if_eq X, jw_icmp_eq X, jw_if_ne X, jw_icmp_ne X, jw_if_lt X, jw_icmp_lt X, jw_if_ge X, jw_icmp_ge X, jw_if_gt X, jw_icmp_gt X, jw_if_le X, jw_icmp_le X, jw_goto X, jw_tabIn X, jw_tabOut X, jw_lookup X, jw_get X, jw_put X, jw_iald X, jw_iast X, jw_aald X, jw_alen X, jw_gsF X, jw_gsG X, jw_ldF X, jw_ldG X, jw_lenG X, jw_name X, jw_fgt X⟩
section bfR
variable {y : bf_M} {J : bf_J}
theorem bf_iconst (r : bf_Ru y J) {pc : Nat} {L : bf_L} {S : List Value} {G : bf_G} {n : Int} {v : Int32} (d : decode y.2.1 pc = .ok (.iconst n, 1)) (hv : Int32.ofInt n = v) (k : J (pc + 1) L (.int v :: S) G) : J pc L S G := r.1 pc L S G n v d hv k
theorem bf_bipush (r : bf_Ru y J) {pc : Nat} {L : bf_L} {S : List Value} {G : bf_G} {n : Int} {v : Int32} (d : decode y.2.1 pc = .ok (.bipush n, 2)) (hv : (Int8.ofInt n).toInt32 = v) (k : J (pc + 2) L (.int v :: S) G) : J pc L S G := r.2.1 pc L S G n v d hv k
theorem bf_sipush (r : bf_Ru y J) {pc : Nat} {L : bf_L} {S : List Value} {G : bf_G} {n : Int} {v : Int32} (d : decode y.2.1 pc = .ok (.sipush n, 3)) (hv : (Int16.ofInt n).toInt32 = v) (k : J (pc + 3) L (.int v :: S) G) : J pc L S G := r.2.2.1 pc L S G n v d hv k
theorem bf_lconst (r : bf_Ru y J) {pc : Nat} {L : bf_L} {S : List Value} {G : bf_G} {n : Fin 2} {v : Int64} (d : decode y.2.1 pc = .ok (.lconst n, 1)) (hv : Int64.ofNat (n : Nat) = v) (k : J (pc + 1) L (.long v :: S) G) : J pc L S G := r.2.2.2.1 pc L S G n v d hv k
theorem bf_ldcw (r : bf_Ru y J) {pc : Nat} {L : bf_L} {S : List Value} {G : bf_G} {i : Nat} {v : Int32} (d : decode y.2.1 pc = .ok (.ldc_w i, 3)) (hw : Cond.constant y.1.cls i v ∈ lw_tbl) (k : J (pc + 3) L (.int v :: S) G) : J pc L S G := r.2.2.2.2.1 pc L S G i v d hw k
theorem bf_ldc2 (r : bf_Ru y J) {pc : Nat} {L : bf_L} {S : List Value} {G : bf_G} {i : Nat} {v : Int64} (d : decode y.2.1 pc = .ok (.ldc2_w i, 3)) (hw : Cond.constantLong y.1.cls i v ∈ lw_tbl) (k : J (pc + 3) L (.long v :: S) G) : J pc L S G := r.2.2.2.2.2.1 pc L S G i v d hw k
theorem bf_iload_n (r : bf_Ru y J) {pc : Nat} {L : bf_L} {S : List Value} {G : bf_G} {i : Fin 4} {x : Int32} (d : decode y.2.1 pc = .ok (.iload_n i, 1)) (h : L[(i : Nat)]? = some (some (.int x))) (k : J (pc + 1) L (.int x :: S) G) : J pc L S G := r.2.2.2.2.2.2.1 pc L S G i x d h k
theorem bf_iload (r : bf_Ru y J) {pc : Nat} {L : bf_L} {S : List Value} {G : bf_G} {i : Nat} {x : Int32} (d : decode y.2.1 pc = .ok (.iload i, 2)) (h : L[i]? = some (some (.int x))) (k : J (pc + 2) L (.int x :: S) G) : J pc L S G := r.2.2.2.2.2.2.2.1 pc L S G i x d h k
theorem bf_istore_n (r : bf_Ru y J) {pc : Nat} {L : bf_L} {S : List Value} {G : bf_G} {i : Fin 4} {x : Int32} {L2 : bf_L} (d : decode y.2.1 pc = .ok (.istore_n i, 1)) (h : bf_s1 L i (.int x) = some L2) (k : J (pc + 1) L2 S G) : J pc L (.int x :: S) G := r.2.2.2.2.2.2.2.2.1 pc L S G i x L2 d h k
theorem bf_istore (r : bf_Ru y J) {pc : Nat} {L : bf_L} {S : List Value} {G : bf_G} {i : Nat} {x : Int32} {L2 : bf_L} (d : decode y.2.1 pc = .ok (.istore i, 2)) (h : bf_s1 L i (.int x) = some L2) (k : J (pc + 2) L2 S G) : J pc L (.int x :: S) G := r.2.2.2.2.2.2.2.2.2.1 pc L S G i x L2 d h k
theorem bf_aload_n (r : bf_Ru y J) {pc : Nat} {L : bf_L} {S : List Value} {G : bf_G} {i : Fin 4} {x : Nat} (d : decode y.2.1 pc = .ok (.aload_n i, 1)) (h : L[(i : Nat)]? = some (some (.ref x))) (k : J (pc + 1) L (.ref x :: S) G) : J pc L S G := r.2.2.2.2.2.2.2.2.2.2.1 pc L S G i x d h k
theorem bf_aload (r : bf_Ru y J) {pc : Nat} {L : bf_L} {S : List Value} {G : bf_G} {i : Nat} {x : Nat} (d : decode y.2.1 pc = .ok (.aload i, 2)) (h : L[i]? = some (some (.ref x))) (k : J (pc + 2) L (.ref x :: S) G) : J pc L S G := r.2.2.2.2.2.2.2.2.2.2.2.1 pc L S G i x d h k
theorem bf_astore_n (r : bf_Ru y J) {pc : Nat} {L : bf_L} {S : List Value} {G : bf_G} {i : Fin 4} {x : Nat} {L2 : bf_L} (d : decode y.2.1 pc = .ok (.astore_n i, 1)) (h : bf_s1 L i (.ref x) = some L2) (k : J (pc + 1) L2 S G) : J pc L (.ref x :: S) G := r.2.2.2.2.2.2.2.2.2.2.2.2.1 pc L S G i x L2 d h k
theorem bf_astore (r : bf_Ru y J) {pc : Nat} {L : bf_L} {S : List Value} {G : bf_G} {i : Nat} {x : Nat} {L2 : bf_L} (d : decode y.2.1 pc = .ok (.astore i, 2)) (h : bf_s1 L i (.ref x) = some L2) (k : J (pc + 2) L2 S G) : J pc L (.ref x :: S) G := r.2.2.2.2.2.2.2.2.2.2.2.2.2.1 pc L S G i x L2 d h k
theorem bf_lload_n (r : bf_Ru y J) {pc : Nat} {L : bf_L} {S : List Value} {G : bf_G} {i : Fin 4} {x : Int64} (d : decode y.2.1 pc = .ok (.lload_n i, 1)) (h : L[(i : Nat)]? = some (some (.long x))) (k : J (pc + 1) L (.long x :: S) G) : J pc L S G := r.2.2.2.2.2.2.2.2.2.2.2.2.2.2.1 pc L S G i x d h k
theorem bf_lload (r : bf_Ru y J) {pc : Nat} {L : bf_L} {S : List Value} {G : bf_G} {i : Nat} {x : Int64} (d : decode y.2.1 pc = .ok (.lload i, 2)) (h : L[i]? = some (some (.long x))) (k : J (pc + 2) L (.long x :: S) G) : J pc L S G := r.2.2.2.2.2.2.2.2.2.2.2.2.2.2.2.1 pc L S G i x d h k
theorem bf_lstore_n (r : bf_Ru y J) {pc : Nat} {L : bf_L} {S : List Value} {G : bf_G} {i : Fin 4} {x : Int64} {L2 : bf_L} (d : decode y.2.1 pc = .ok (.lstore_n i, 1)) (h : bf_s2 L i (.long x) = some L2) (k : J (pc + 1) L2 S G) : J pc L (.long x :: S) G := r.2.2.2.2.2.2.2.2.2.2.2.2.2.2.2.2.1 pc L S G i x L2 d h k
theorem bf_lstore (r : bf_Ru y J) {pc : Nat} {L : bf_L} {S : List Value} {G : bf_G} {i : Nat} {x : Int64} {L2 : bf_L} (d : decode y.2.1 pc = .ok (.lstore i, 2)) (h : bf_s2 L i (.long x) = some L2) (k : J (pc + 2) L2 S G) : J pc L (.long x :: S) G := r.2.2.2.2.2.2.2.2.2.2.2.2.2.2.2.2.2.1 pc L S G i x L2 d h k
theorem bf_iinc (r : bf_Ru y J) {pc : Nat} {L : bf_L} {S : List Value} {G : bf_G} {i : Nat} {n : Int} {x v : Int32} {L2 : bf_L} (d : decode y.2.1 pc = .ok (.iinc i n, 3)) (h1 : L[i]? = some (some (.int x))) (hv : x + Int32.ofInt n = v) (h : bf_s1 L i (.int v) = some L2) (k : J (pc + 3) L2 S G) : J pc L S G := r.2.2.2.2.2.2.2.2.2.2.2.2.2.2.2.2.2.2.1 pc L S G i n x v L2 d h1 hv h k
theorem bf_iadd (r : bf_Ru y J) {pc : Nat} {L : bf_L} {S : List Value} {G : bf_G} {x z : Int32} (d : decode y.2.1 pc = .ok (.iadd, 1)) (k : J (pc + 1) L (.int (x + z) :: S) G) : J pc L (.int z :: .int x :: S) G := r.2.2.2.2.2.2.2.2.2.2.2.2.2.2.2.2.2.2.2.1 pc L S G x z d k
theorem bf_isub (r : bf_Ru y J) {pc : Nat} {L : bf_L} {S : List Value} {G : bf_G} {x z : Int32} (d : decode y.2.1 pc = .ok (.isub, 1)) (k : J (pc + 1) L (.int (x - z) :: S) G) : J pc L (.int z :: .int x :: S) G := r.2.2.2.2.2.2.2.2.2.2.2.2.2.2.2.2.2.2.2.2.1 pc L S G x z d k
theorem bf_imul (r : bf_Ru y J) {pc : Nat} {L : bf_L} {S : List Value} {G : bf_G} {x z : Int32} (d : decode y.2.1 pc = .ok (.imul, 1)) (k : J (pc + 1) L (.int (x * z) :: S) G) : J pc L (.int z :: .int x :: S) G := r.2.2.2.2.2.2.2.2.2.2.2.2.2.2.2.2.2.2.2.2.2.1 pc L S G x z d k
theorem bf_iand (r : bf_Ru y J) {pc : Nat} {L : bf_L} {S : List Value} {G : bf_G} {x z : Int32} (d : decode y.2.1 pc = .ok (.iand, 1)) (k : J (pc + 1) L (.int (x &&& z) :: S) G) : J pc L (.int z :: .int x :: S) G := r.2.2.2.2.2.2.2.2.2.2.2.2.2.2.2.2.2.2.2.2.2.2.1 pc L S G x z d k
theorem bf_ior (r : bf_Ru y J) {pc : Nat} {L : bf_L} {S : List Value} {G : bf_G} {x z : Int32} (d : decode y.2.1 pc = .ok (.ior, 1)) (k : J (pc + 1) L (.int (x ||| z) :: S) G) : J pc L (.int z :: .int x :: S) G := r.2.2.2.2.2.2.2.2.2.2.2.2.2.2.2.2.2.2.2.2.2.2.2.1 pc L S G x z d k
theorem bf_ixor (r : bf_Ru y J) {pc : Nat} {L : bf_L} {S : List Value} {G : bf_G} {x z : Int32} (d : decode y.2.1 pc = .ok (.ixor, 1)) (k : J (pc + 1) L (.int (x ^^^ z) :: S) G) : J pc L (.int z :: .int x :: S) G := r.2.2.2.2.2.2.2.2.2.2.2.2.2.2.2.2.2.2.2.2.2.2.2.2.1 pc L S G x z d k
theorem bf_ishl (r : bf_Ru y J) {pc : Nat} {L : bf_L} {S : List Value} {G : bf_G} {x z : Int32} (d : decode y.2.1 pc = .ok (.ishl, 1)) (k : J (pc + 1) L (.int (x <<< (z &&& 31)) :: S) G) : J pc L (.int z :: .int x :: S) G := r.2.2.2.2.2.2.2.2.2.2.2.2.2.2.2.2.2.2.2.2.2.2.2.2.2.1 pc L S G x z d k
theorem bf_ishr (r : bf_Ru y J) {pc : Nat} {L : bf_L} {S : List Value} {G : bf_G} {x z : Int32} (d : decode y.2.1 pc = .ok (.ishr, 1)) (k : J (pc + 1) L (.int (x >>> (z &&& 31)) :: S) G) : J pc L (.int z :: .int x :: S) G := r.2.2.2.2.2.2.2.2.2.2.2.2.2.2.2.2.2.2.2.2.2.2.2.2.2.2.1 pc L S G x z d k
theorem bf_iushr (r : bf_Ru y J) {pc : Nat} {L : bf_L} {S : List Value} {G : bf_G} {x z v : Int32} (d : decode y.2.1 pc = .ok (.iushr, 1)) (hv : (x.toUInt32 >>> (z.toUInt32 &&& Int32.toUInt32 31)).toInt32 = v) (k : J (pc + 1) L (.int v :: S) G) : J pc L (.int z :: .int x :: S) G := r.2.2.2.2.2.2.2.2.2.2.2.2.2.2.2.2.2.2.2.2.2.2.2.2.2.2.2.1 pc L S G x z v d hv k
theorem bf_idiv (r : bf_Ru y J) {pc : Nat} {L : bf_L} {S : List Value} {G : bf_G} {x z : Int32} (d : decode y.2.1 pc = .ok (.idiv, 1)) (h : ¬ z = 0) (k : J (pc + 1) L (.int (x / z) :: S) G) : J pc L (.int z :: .int x :: S) G := r.2.2.2.2.2.2.2.2.2.2.2.2.2.2.2.2.2.2.2.2.2.2.2.2.2.2.2.2.1 pc L S G x z d h k
theorem bf_irem (r : bf_Ru y J) {pc : Nat} {L : bf_L} {S : List Value} {G : bf_G} {x z : Int32} (d : decode y.2.1 pc = .ok (.irem, 1)) (h : ¬ z = 0) (k : J (pc + 1) L (.int (x - x / z * z) :: S) G) : J pc L (.int z :: .int x :: S) G := r.2.2.2.2.2.2.2.2.2.2.2.2.2.2.2.2.2.2.2.2.2.2.2.2.2.2.2.2.2.1 pc L S G x z d h k
theorem bf_ladd (r : bf_Ru y J) {pc : Nat} {L : bf_L} {S : List Value} {G : bf_G} {x z : Int64} (d : decode y.2.1 pc = .ok (.ladd, 1)) (k : J (pc + 1) L (.long (x + z) :: S) G) : J pc L (.long z :: .long x :: S) G := r.2.2.2.2.2.2.2.2.2.2.2.2.2.2.2.2.2.2.2.2.2.2.2.2.2.2.2.2.2.2.1 pc L S G x z d k
theorem bf_lsub (r : bf_Ru y J) {pc : Nat} {L : bf_L} {S : List Value} {G : bf_G} {x z : Int64} (d : decode y.2.1 pc = .ok (.lsub, 1)) (k : J (pc + 1) L (.long (x - z) :: S) G) : J pc L (.long z :: .long x :: S) G := r.2.2.2.2.2.2.2.2.2.2.2.2.2.2.2.2.2.2.2.2.2.2.2.2.2.2.2.2.2.2.2.1 pc L S G x z d k
theorem bf_lmul (r : bf_Ru y J) {pc : Nat} {L : bf_L} {S : List Value} {G : bf_G} {x z : Int64} (d : decode y.2.1 pc = .ok (.lmul, 1)) (k : J (pc + 1) L (.long (x * z) :: S) G) : J pc L (.long z :: .long x :: S) G := r.2.2.2.2.2.2.2.2.2.2.2.2.2.2.2.2.2.2.2.2.2.2.2.2.2.2.2.2.2.2.2.2.1 pc L S G x z d k
theorem bf_ldiv (r : bf_Ru y J) {pc : Nat} {L : bf_L} {S : List Value} {G : bf_G} {x z : Int64} (d : decode y.2.1 pc = .ok (.ldiv, 1)) (h : ¬ z = 0) (k : J (pc + 1) L (.long (x / z) :: S) G) : J pc L (.long z :: .long x :: S) G := r.2.2.2.2.2.2.2.2.2.2.2.2.2.2.2.2.2.2.2.2.2.2.2.2.2.2.2.2.2.2.2.2.2.1 pc L S G x z d h k
theorem bf_lrem (r : bf_Ru y J) {pc : Nat} {L : bf_L} {S : List Value} {G : bf_G} {x z : Int64} (d : decode y.2.1 pc = .ok (.lrem, 1)) (h : ¬ z = 0) (k : J (pc + 1) L (.long (x - x / z * z) :: S) G) : J pc L (.long z :: .long x :: S) G := r.2.2.2.2.2.2.2.2.2.2.2.2.2.2.2.2.2.2.2.2.2.2.2.2.2.2.2.2.2.2.2.2.2.2.1 pc L S G x z d h k
theorem bf_lcmp (r : bf_Ru y J) {pc : Nat} {L : bf_L} {S : List Value} {G : bf_G} {x z : Int64} (d : decode y.2.1 pc = .ok (.lcmp, 1)) (k : J (pc + 1) L (.int (lg_cmp x z) :: S) G) : J pc L (.long z :: .long x :: S) G := r.2.2.2.2.2.2.2.2.2.2.2.2.2.2.2.2.2.2.2.2.2.2.2.2.2.2.2.2.2.2.2.2.2.2.2.1 pc L S G x z d k
theorem bf_i2l (r : bf_Ru y J) {pc : Nat} {L : bf_L} {S : List Value} {G : bf_G} {x : Int32} (d : decode y.2.1 pc = .ok (.i2l, 1)) (k : J (pc + 1) L (.long x.toInt64 :: S) G) : J pc L (.int x :: S) G := r.2.2.2.2.2.2.2.2.2.2.2.2.2.2.2.2.2.2.2.2.2.2.2.2.2.2.2.2.2.2.2.2.2.2.2.2.1 pc L S G x d k
theorem bf_i2b (r : bf_Ru y J) {pc : Nat} {L : bf_L} {S : List Value} {G : bf_G} {x : Int32} (d : decode y.2.1 pc = .ok (.i2b, 1)) (k : J (pc + 1) L (.int x.toInt8.toInt32 :: S) G) : J pc L (.int x :: S) G := r.2.2.2.2.2.2.2.2.2.2.2.2.2.2.2.2.2.2.2.2.2.2.2.2.2.2.2.2.2.2.2.2.2.2.2.2.2.1 pc L S G x d k
theorem bf_i2s (r : bf_Ru y J) {pc : Nat} {L : bf_L} {S : List Value} {G : bf_G} {x : Int32} (d : decode y.2.1 pc = .ok (.i2s, 1)) (k : J (pc + 1) L (.int x.toInt16.toInt32 :: S) G) : J pc L (.int x :: S) G := r.2.2.2.2.2.2.2.2.2.2.2.2.2.2.2.2.2.2.2.2.2.2.2.2.2.2.2.2.2.2.2.2.2.2.2.2.2.2.1 pc L S G x d k
theorem bf_dup (r : bf_Ru y J) {pc : Nat} {L : bf_L} {S : List Value} {G : bf_G} {v : Value} (d : decode y.2.1 pc = .ok (.dup, 1)) (h : v.category = 1) (k : J (pc + 1) L (v :: v :: S) G) : J pc L (v :: S) G := r.2.2.2.2.2.2.2.2.2.2.2.2.2.2.2.2.2.2.2.2.2.2.2.2.2.2.2.2.2.2.2.2.2.2.2.2.2.2.2.1 pc L S G v d h k
theorem bf_dup2 (r : bf_Ru y J) {pc : Nat} {L : bf_L} {S : List Value} {G : bf_G} {v w : Value} (d : decode y.2.1 pc = .ok (.dup2, 1)) (h : v.category = 1) (h2 : w.category = 1) (k : J (pc + 1) L (v :: w :: v :: w :: S) G) : J pc L (v :: w :: S) G := r.2.2.2.2.2.2.2.2.2.2.2.2.2.2.2.2.2.2.2.2.2.2.2.2.2.2.2.2.2.2.2.2.2.2.2.2.2.2.2.2.1 pc L S G v w d h h2 k
theorem bf_if_eq (r : bf_Ru y J) {pc : Nat} {L : bf_L} {S : List Value} {G : bf_G} {x : Int32} {off : Int} {tgt : Nat} (d : decode y.2.1 pc = .ok (.ifCond .eq off, 3)) (ht : (pc : Int) + off = (tgt : Int)) (kt : (x = 0 → J tgt L S G)) (kf : (¬ x = 0 → J (pc + 3) L S G)) : J pc L (.int x :: S) G := r.2.2.2.2.2.2.2.2.2.2.2.2.2.2.2.2.2.2.2.2.2.2.2.2.2.2.2.2.2.2.2.2.2.2.2.2.2.2.2.2.2.1 pc L S G x off tgt d ht kt kf
theorem bf_icmp_eq (r : bf_Ru y J) {pc : Nat} {L : bf_L} {S : List Value} {G : bf_G} {x z : Int32} {off : Int} {tgt : Nat} (d : decode y.2.1 pc = .ok (.if_icmp .eq off, 3)) (ht : (pc : Int) + off = (tgt : Int)) (kt : (x = z → J tgt L S G)) (kf : (¬ x = z → J (pc + 3) L S G)) : J pc L (.int z :: .int x :: S) G := r.2.2.2.2.2.2.2.2.2.2.2.2.2.2.2.2.2.2.2.2.2.2.2.2.2.2.2.2.2.2.2.2.2.2.2.2.2.2.2.2.2.2.1 pc L S G x z off tgt d ht kt kf
theorem bf_if_ne (r : bf_Ru y J) {pc : Nat} {L : bf_L} {S : List Value} {G : bf_G} {x : Int32} {off : Int} {tgt : Nat} (d : decode y.2.1 pc = .ok (.ifCond .ne off, 3)) (ht : (pc : Int) + off = (tgt : Int)) (kt : (¬ x = 0 → J tgt L S G)) (kf : (x = 0 → J (pc + 3) L S G)) : J pc L (.int x :: S) G := r.2.2.2.2.2.2.2.2.2.2.2.2.2.2.2.2.2.2.2.2.2.2.2.2.2.2.2.2.2.2.2.2.2.2.2.2.2.2.2.2.2.2.2.1 pc L S G x off tgt d ht kt kf
theorem bf_icmp_ne (r : bf_Ru y J) {pc : Nat} {L : bf_L} {S : List Value} {G : bf_G} {x z : Int32} {off : Int} {tgt : Nat} (d : decode y.2.1 pc = .ok (.if_icmp .ne off, 3)) (ht : (pc : Int) + off = (tgt : Int)) (kt : (¬ x = z → J tgt L S G)) (kf : (x = z → J (pc + 3) L S G)) : J pc L (.int z :: .int x :: S) G := r.2.2.2.2.2.2.2.2.2.2.2.2.2.2.2.2.2.2.2.2.2.2.2.2.2.2.2.2.2.2.2.2.2.2.2.2.2.2.2.2.2.2.2.2.1 pc L S G x z off tgt d ht kt kf
theorem bf_if_lt (r : bf_Ru y J) {pc : Nat} {L : bf_L} {S : List Value} {G : bf_G} {x : Int32} {off : Int} {tgt : Nat} (d : decode y.2.1 pc = .ok (.ifCond .lt off, 3)) (ht : (pc : Int) + off = (tgt : Int)) (kt : (x < 0 → J tgt L S G)) (kf : (¬ x < 0 → J (pc + 3) L S G)) : J pc L (.int x :: S) G := r.2.2.2.2.2.2.2.2.2.2.2.2.2.2.2.2.2.2.2.2.2.2.2.2.2.2.2.2.2.2.2.2.2.2.2.2.2.2.2.2.2.2.2.2.2.1 pc L S G x off tgt d ht kt kf
theorem bf_icmp_lt (r : bf_Ru y J) {pc : Nat} {L : bf_L} {S : List Value} {G : bf_G} {x z : Int32} {off : Int} {tgt : Nat} (d : decode y.2.1 pc = .ok (.if_icmp .lt off, 3)) (ht : (pc : Int) + off = (tgt : Int)) (kt : (x < z → J tgt L S G)) (kf : (¬ x < z → J (pc + 3) L S G)) : J pc L (.int z :: .int x :: S) G := r.2.2.2.2.2.2.2.2.2.2.2.2.2.2.2.2.2.2.2.2.2.2.2.2.2.2.2.2.2.2.2.2.2.2.2.2.2.2.2.2.2.2.2.2.2.2.1 pc L S G x z off tgt d ht kt kf
theorem bf_if_ge (r : bf_Ru y J) {pc : Nat} {L : bf_L} {S : List Value} {G : bf_G} {x : Int32} {off : Int} {tgt : Nat} (d : decode y.2.1 pc = .ok (.ifCond .ge off, 3)) (ht : (pc : Int) + off = (tgt : Int)) (kt : (0 ≤ x → J tgt L S G)) (kf : (¬ 0 ≤ x → J (pc + 3) L S G)) : J pc L (.int x :: S) G := r.2.2.2.2.2.2.2.2.2.2.2.2.2.2.2.2.2.2.2.2.2.2.2.2.2.2.2.2.2.2.2.2.2.2.2.2.2.2.2.2.2.2.2.2.2.2.2.1 pc L S G x off tgt d ht kt kf
theorem bf_icmp_ge (r : bf_Ru y J) {pc : Nat} {L : bf_L} {S : List Value} {G : bf_G} {x z : Int32} {off : Int} {tgt : Nat} (d : decode y.2.1 pc = .ok (.if_icmp .ge off, 3)) (ht : (pc : Int) + off = (tgt : Int)) (kt : (z ≤ x → J tgt L S G)) (kf : (¬ z ≤ x → J (pc + 3) L S G)) : J pc L (.int z :: .int x :: S) G := r.2.2.2.2.2.2.2.2.2.2.2.2.2.2.2.2.2.2.2.2.2.2.2.2.2.2.2.2.2.2.2.2.2.2.2.2.2.2.2.2.2.2.2.2.2.2.2.2.1 pc L S G x z off tgt d ht kt kf
theorem bf_if_gt (r : bf_Ru y J) {pc : Nat} {L : bf_L} {S : List Value} {G : bf_G} {x : Int32} {off : Int} {tgt : Nat} (d : decode y.2.1 pc = .ok (.ifCond .gt off, 3)) (ht : (pc : Int) + off = (tgt : Int)) (kt : (0 < x → J tgt L S G)) (kf : (¬ 0 < x → J (pc + 3) L S G)) : J pc L (.int x :: S) G := r.2.2.2.2.2.2.2.2.2.2.2.2.2.2.2.2.2.2.2.2.2.2.2.2.2.2.2.2.2.2.2.2.2.2.2.2.2.2.2.2.2.2.2.2.2.2.2.2.2.1 pc L S G x off tgt d ht kt kf
theorem bf_icmp_gt (r : bf_Ru y J) {pc : Nat} {L : bf_L} {S : List Value} {G : bf_G} {x z : Int32} {off : Int} {tgt : Nat} (d : decode y.2.1 pc = .ok (.if_icmp .gt off, 3)) (ht : (pc : Int) + off = (tgt : Int)) (kt : (z < x → J tgt L S G)) (kf : (¬ z < x → J (pc + 3) L S G)) : J pc L (.int z :: .int x :: S) G := r.2.2.2.2.2.2.2.2.2.2.2.2.2.2.2.2.2.2.2.2.2.2.2.2.2.2.2.2.2.2.2.2.2.2.2.2.2.2.2.2.2.2.2.2.2.2.2.2.2.2.1 pc L S G x z off tgt d ht kt kf
theorem bf_if_le (r : bf_Ru y J) {pc : Nat} {L : bf_L} {S : List Value} {G : bf_G} {x : Int32} {off : Int} {tgt : Nat} (d : decode y.2.1 pc = .ok (.ifCond .le off, 3)) (ht : (pc : Int) + off = (tgt : Int)) (kt : (x ≤ 0 → J tgt L S G)) (kf : (¬ x ≤ 0 → J (pc + 3) L S G)) : J pc L (.int x :: S) G := r.2.2.2.2.2.2.2.2.2.2.2.2.2.2.2.2.2.2.2.2.2.2.2.2.2.2.2.2.2.2.2.2.2.2.2.2.2.2.2.2.2.2.2.2.2.2.2.2.2.2.2.1 pc L S G x off tgt d ht kt kf
theorem bf_icmp_le (r : bf_Ru y J) {pc : Nat} {L : bf_L} {S : List Value} {G : bf_G} {x z : Int32} {off : Int} {tgt : Nat} (d : decode y.2.1 pc = .ok (.if_icmp .le off, 3)) (ht : (pc : Int) + off = (tgt : Int)) (kt : (x ≤ z → J tgt L S G)) (kf : (¬ x ≤ z → J (pc + 3) L S G)) : J pc L (.int z :: .int x :: S) G := r.2.2.2.2.2.2.2.2.2.2.2.2.2.2.2.2.2.2.2.2.2.2.2.2.2.2.2.2.2.2.2.2.2.2.2.2.2.2.2.2.2.2.2.2.2.2.2.2.2.2.2.2.1 pc L S G x z off tgt d ht kt kf
theorem bf_goto (r : bf_Ru y J) {pc : Nat} {L : bf_L} {S : List Value} {G : bf_G} {off : Int} {tgt : Nat} (d : decode y.2.1 pc = .ok (.goto off, 3)) (ht : (pc : Int) + off = (tgt : Int)) (k : J tgt L S G) : J pc L S G := r.2.2.2.2.2.2.2.2.2.2.2.2.2.2.2.2.2.2.2.2.2.2.2.2.2.2.2.2.2.2.2.2.2.2.2.2.2.2.2.2.2.2.2.2.2.2.2.2.2.2.2.2.2.1 pc L S G off tgt d ht k
theorem bf_tabIn (r : bf_Ru y J) {pc : Nat} {L : bf_L} {S : List Value} {G : bf_G} {df lo hi : Int} {offs : Array Int} {len : Nat} {x : Int32} {off : Int} {tgt : Nat} (d : decode y.2.1 pc = .ok (.tableswitch df lo hi offs, len)) (h1 : ¬ x.toInt < lo) (h2 : ¬ hi < x.toInt) (ho : offs[(x.toInt - lo).toNat]? = some off) (ht : (pc : Int) + off = (tgt : Int)) (k : J tgt L S G) : J pc L (.int x :: S) G := r.2.2.2.2.2.2.2.2.2.2.2.2.2.2.2.2.2.2.2.2.2.2.2.2.2.2.2.2.2.2.2.2.2.2.2.2.2.2.2.2.2.2.2.2.2.2.2.2.2.2.2.2.2.2.1 pc L S G df lo hi offs len x off tgt d h1 h2 ho ht k
theorem bf_tabOut (r : bf_Ru y J) {pc : Nat} {L : bf_L} {S : List Value} {G : bf_G} {df lo hi : Int} {offs : Array Int} {len : Nat} {x : Int32} {tgt : Nat} (d : decode y.2.1 pc = .ok (.tableswitch df lo hi offs, len)) (h1 : x.toInt < lo ∨ hi < x.toInt) (ht : (pc : Int) + df = (tgt : Int)) (k : J tgt L S G) : J pc L (.int x :: S) G := r.2.2.2.2.2.2.2.2.2.2.2.2.2.2.2.2.2.2.2.2.2.2.2.2.2.2.2.2.2.2.2.2.2.2.2.2.2.2.2.2.2.2.2.2.2.2.2.2.2.2.2.2.2.2.2.1 pc L S G df lo hi offs len x tgt d h1 ht k
theorem bf_lookup (r : bf_Ru y J) {pc : Nat} {L : bf_L} {S : List Value} {G : bf_G} {df : Int} {ps : Array (Int × Int)} {len : Nat} {x : Int32} {off : Int} {tgt : Nat} (d : decode y.2.1 pc = .ok (.lookupswitch df ps, len)) (hp : (ps.toList.zip (ps.toList.drop 1)).all (fun (a, next) => a.1 < next.1) = true) (ho : Op.lookupswitch.offset ps.toList df x.toInt = off) (ht : (pc : Int) + off = (tgt : Int)) (k : J tgt L S G) : J pc L (.int x :: S) G := r.2.2.2.2.2.2.2.2.2.2.2.2.2.2.2.2.2.2.2.2.2.2.2.2.2.2.2.2.2.2.2.2.2.2.2.2.2.2.2.2.2.2.2.2.2.2.2.2.2.2.2.2.2.2.2.2.1 pc L S G df ps len x off tgt d hp ho ht k
theorem bf_get (r : bf_Ru y J) {pc : Nat} {L : bf_L} {S : List Value} {G : bf_G} {i ci j a : Nat} (d : decode y.2.1 pc = .ok (.getfield i, 3)) (hf : bf_fl y.1.cls i ci j) (hk : (bf_kd a).1 = ci) (ha : a < G.1) (k : J (pc + 3) L (G.2 a j :: S) G) : J pc L (.ref a :: S) G := r.2.2.2.2.2.2.2.2.2.2.2.2.2.2.2.2.2.2.2.2.2.2.2.2.2.2.2.2.2.2.2.2.2.2.2.2.2.2.2.2.2.2.2.2.2.2.2.2.2.2.2.2.2.2.2.2.2.1 pc L S G i ci j a d hf hk ha k
theorem bf_put (r : bf_Ru y J) {pc : Nat} {L : bf_L} {S : List Value} {G : bf_G} {i ci j a : Nat} {v : Int32} (d : decode y.2.1 pc = .ok (.putfield i, 3)) (hf : bf_fp y.1.cls i ci j) (hk : (bf_kd a).1 = ci) (ha : a < G.1) (k : J (pc + 3) L S (G.1, bf_up G.2 a j (.int v))) : J pc L (.int v :: .ref a :: S) G := r.2.2.2.2.2.2.2.2.2.2.2.2.2.2.2.2.2.2.2.2.2.2.2.2.2.2.2.2.2.2.2.2.2.2.2.2.2.2.2.2.2.2.2.2.2.2.2.2.2.2.2.2.2.2.2.2.2.2.1 pc L S G i ci j a v d hf hk ha k
theorem bf_iald (r : bf_Ru y J) {pc : Nat} {L : bf_L} {S : List Value} {G : bf_G} {a n : Nat} {i : Int32} (d : decode y.2.1 pc = .ok (.iaload, 1)) (hk : bf_kd a = (9, n)) (ha : a < G.1) (hi : vp_in i n) (k : J (pc + 1) L (G.2 a i.toNatClampNeg :: S) G) : J pc L (.int i :: .ref a :: S) G := r.2.2.2.2.2.2.2.2.2.2.2.2.2.2.2.2.2.2.2.2.2.2.2.2.2.2.2.2.2.2.2.2.2.2.2.2.2.2.2.2.2.2.2.2.2.2.2.2.2.2.2.2.2.2.2.2.2.2.2.1 pc L S G a n i d hk ha hi k
theorem bf_iast (r : bf_Ru y J) {pc : Nat} {L : bf_L} {S : List Value} {G : bf_G} {a n : Nat} {i v : Int32} (d : decode y.2.1 pc = .ok (.iastore, 1)) (hk : bf_kd a = (9, n)) (ha : a < G.1) (hi : vp_in i n) (k : J (pc + 1) L S (G.1, bf_up G.2 a i.toNatClampNeg (.int v))) : J pc L (.int v :: .int i :: .ref a :: S) G := r.2.2.2.2.2.2.2.2.2.2.2.2.2.2.2.2.2.2.2.2.2.2.2.2.2.2.2.2.2.2.2.2.2.2.2.2.2.2.2.2.2.2.2.2.2.2.2.2.2.2.2.2.2.2.2.2.2.2.2.2.1 pc L S G a n i v d hk ha hi k
theorem bf_aald (r : bf_Ru y J) {pc : Nat} {L : bf_L} {S : List Value} {G : bf_G} {a ci n b : Nat} {i : Int32} (d : decode y.2.1 pc = .ok (.aaload, 1)) (hc : ci = 10 ∨ ci = 11) (hk : bf_kd a = (ci, n)) (ha : a < G.1) (hi : vp_in i n) (hb : G.2 a i.toNatClampNeg = .ref b) (k : J (pc + 1) L (.ref b :: S) G) : J pc L (.int i :: .ref a :: S) G := r.2.2.2.2.2.2.2.2.2.2.2.2.2.2.2.2.2.2.2.2.2.2.2.2.2.2.2.2.2.2.2.2.2.2.2.2.2.2.2.2.2.2.2.2.2.2.2.2.2.2.2.2.2.2.2.2.2.2.2.2.2.1 pc L S G a ci n b i d hc hk ha hi hb k
theorem bf_alen (r : bf_Ru y J) {pc : Nat} {L : bf_L} {S : List Value} {G : bf_G} {a n : Nat} {v : Int32} (d : decode y.2.1 pc = .ok (.arraylength, 1)) (hk : bf_kd a = (9, n)) (ha : a < G.1) (hv : Int32.ofNat n = v) (k : J (pc + 1) L (.int v :: S) G) : J pc L (.ref a :: S) G := r.2.2.2.2.2.2.2.2.2.2.2.2.2.2.2.2.2.2.2.2.2.2.2.2.2.2.2.2.2.2.2.2.2.2.2.2.2.2.2.2.2.2.2.2.2.2.2.2.2.2.2.2.2.2.2.2.2.2.2.2.2.2.1 pc L S G a n v d hk ha hv k
theorem bf_gsF (r : bf_Ru y J) {pc : Nat} {L : bf_L} {S : List Value} {G : bf_G} {i : Nat} (d : decode y.2.1 pc = .ok (.getstatic i, 3)) (hw : Cond.fieldLink y.1.cls i RX0 "FIGURES" "[I" ∈ lw_tbl) (k : J (pc + 3) L (.ref 100 :: S) G) : J pc L S G := r.2.2.2.2.2.2.2.2.2.2.2.2.2.2.2.2.2.2.2.2.2.2.2.2.2.2.2.2.2.2.2.2.2.2.2.2.2.2.2.2.2.2.2.2.2.2.2.2.2.2.2.2.2.2.2.2.2.2.2.2.2.2.2.1 pc L S G i d hw k
theorem bf_gsG (r : bf_Ru y J) {pc : Nat} {L : bf_L} {S : List Value} {G : bf_G} {i : Nat} (d : decode y.2.1 pc = .ok (.getstatic i, 3)) (hw : Cond.fieldLink y.1.cls i RX7 "GREATEST" "[I" ∈ lw_tbl) (k : J (pc + 3) L (.ref 101 :: S) G) : J pc L S G := r.2.2.2.2.2.2.2.2.2.2.2.2.2.2.2.2.2.2.2.2.2.2.2.2.2.2.2.2.2.2.2.2.2.2.2.2.2.2.2.2.2.2.2.2.2.2.2.2.2.2.2.2.2.2.2.2.2.2.2.2.2.2.2.2.1 pc L S G i d hw k
theorem bf_ldF (r : bf_Ru y J) {pc : Nat} {L : bf_L} {S : List Value} {G : bf_G} {i : Int32} (d : decode y.2.1 pc = .ok (.iaload, 1)) (hi : vp_in i 10) (k : J (pc + 1) L (.int (bf_fig i.toNatClampNeg) :: S) G) : J pc L (.int i :: .ref 100 :: S) G := r.2.2.2.2.2.2.2.2.2.2.2.2.2.2.2.2.2.2.2.2.2.2.2.2.2.2.2.2.2.2.2.2.2.2.2.2.2.2.2.2.2.2.2.2.2.2.2.2.2.2.2.2.2.2.2.2.2.2.2.2.2.2.2.2.2.1 pc L S G i d hi k
theorem bf_ldG (r : bf_Ru y J) {pc : Nat} {L : bf_L} {S : List Value} {G : bf_G} {i : Int32} (d : decode y.2.1 pc = .ok (.iaload, 1)) (hi : vp_in i 3) (k : J (pc + 1) L (.int (bf_gre i.toNatClampNeg) :: S) G) : J pc L (.int i :: .ref 101 :: S) G := r.2.2.2.2.2.2.2.2.2.2.2.2.2.2.2.2.2.2.2.2.2.2.2.2.2.2.2.2.2.2.2.2.2.2.2.2.2.2.2.2.2.2.2.2.2.2.2.2.2.2.2.2.2.2.2.2.2.2.2.2.2.2.2.2.2.2.1 pc L S G i d hi k
theorem bf_lenG (r : bf_Ru y J) {pc : Nat} {L : bf_L} {S : List Value} {G : bf_G} (d : decode y.2.1 pc = .ok (.arraylength, 1)) (k : J (pc + 1) L (.int 3 :: S) G) : J pc L (.ref 101 :: S) G := r.2.2.2.2.2.2.2.2.2.2.2.2.2.2.2.2.2.2.2.2.2.2.2.2.2.2.2.2.2.2.2.2.2.2.2.2.2.2.2.2.2.2.2.2.2.2.2.2.2.2.2.2.2.2.2.2.2.2.2.2.2.2.2.2.2.2.2.1 pc L S G d k
theorem bf_name (r : bf_Ru y J) {pc : Nat} {L : bf_L} {S : List Value} {G : bf_G} {x : Int32} (k : (∀ z : Int32, z = x → J pc L (.int z :: S) G)) : J pc L (.int x :: S) G := r.2.2.2.2.2.2.2.2.2.2.2.2.2.2.2.2.2.2.2.2.2.2.2.2.2.2.2.2.2.2.2.2.2.2.2.2.2.2.2.2.2.2.2.2.2.2.2.2.2.2.2.2.2.2.2.2.2.2.2.2.2.2.2.2.2.2.2.2.1 pc L S G x k
theorem bf_fgt (r : bf_Ru y J) {pc : Nat} {L : bf_L} {S : List Value} {G : bf_G} {i : Nat} {L2 : bf_L} (h : L.set i none = L2) (k : J pc L2 S G) : J pc L S G := r.2.2.2.2.2.2.2.2.2.2.2.2.2.2.2.2.2.2.2.2.2.2.2.2.2.2.2.2.2.2.2.2.2.2.2.2.2.2.2.2.2.2.2.2.2.2.2.2.2.2.2.2.2.2.2.2.2.2.2.2.2.2.2.2.2.2.2.2.2 pc L S G i L2 h k
end bfR
