abbrev bf_CR : Type := bf_M → List Value → bf_G → Nat → bf_P → Prop
theorem bf_goodws {y : bf_M} (h : Cond.code y.1 y.2.1 y.2.2.1 y.2.2.2 ∈ lw_tbl) : GoodIn (lw_tbl.filter goodWord) (bf_ws y) := by
  intro w hw
  rcases List.mem_cons.mp hw with rfl | hw
  · exact ⟨List.mem_filter.mpr ⟨h, rfl⟩, good_of_word rfl⟩
  · exact ⟨hw, good_of_word (List.mem_filter.mp hw).2⟩
theorem bf_blind (E : bf_E) (vs : List Value) (G : bf_G) : FrameBlind (bf_Pc E vs G) := by
  intro a U g mk h
  obtain ⟨e1, h1, h2, h3⟩ := h
  exact ⟨e1, h1, bf_K.same (s := U) (U := U.calling g mk a) rfl h2, h3.moved (U := U.calling g mk a) (Vm.Alike.refl U.vm)⟩
section bfC
variable {p : Program} {l : Launch} {e : Env} {R : Room} {s : State} {m : MethodId} {args : Array Value} {below : List Frame} {meth : Method} {c : Code} {E : bf_E} {nL N0 : Nat} {Q : State → Prop} {y : bf_M}
theorem bf_pre {G : bf_G} {H : Heap} {locs : List Loc} (X : bf_X p s m args c E nL y) (hH : bf_HR E G H) (hS : va_S (bf_A E) s.heap H locs) (vs : List Value) : ∀ U : State, U.heap = H → s.WarmedH U.vm → bf_Pc E vs G (vs.map (bf_cv (bf_ad E))).toArray U := by
  intro U hU hW
  refine ⟨rfl, by rw [hU]; exact hH, X.2.2.2.2.2.1.warm hW, ?_⟩
  rw [hU]
  exact (X.2.2.2.2.2.2.kept (fun a h1 h2 => hS.2.1 a h1 h2)).moved hW.alike
theorem bf_call {H : Heap} {locs : List Loc} {ls : Array Slot} {cells slots mc ms pc n1 : Nat} {st0 rest : List Value} {P1 : bf_P} {a : Array Value} (hr : va_Run p l e R s m args below meth c H locs cells slots mc ms (F0 m pc ls st0) rest (bf_Qc E n1 P1 a) (bf_A E)) (hS : va_S (bf_A E) s.heap H locs)
    (kk : ∀ (r : Option Value) (G' : bf_G) (H1 : Heap) (locs1 : List Loc), P1 r G' → G'.1 = n1 → bf_HR E G' H1 → va_S (bf_A E) s.heap H1 locs1 → W p l e R s m args below meth c H1 locs1 (cells + mc) (slots + ms) Q (F0 m (pc + 3) ls ((r.map (bf_cv (bf_ad E))).toList ++ rest))) : W p l e R s m args below meth c H locs cells slots Q (F0 m pc ls st0) := by
  intro T hT X
  obtain ⟨v, st₀, t, T', L, h0, X', hL, e1, e2, ⟨⟨r, G', hv, hp, hn, hb⟩, hz, hk⟩, st⟩ := hr T hT X
  cases hv
  rw [h0] at hz hk
  obtain ⟨t2, a1, b1⟩ := kk r G' T'.heap (locs ++ L) hp hn (by rw [e1]; exact hb)
    ⟨Nat.le_trans hS.1 (by rw [e1]; exact hz), fun q h1 h2 => by rw [e1, hk q (Nat.lt_of_lt_of_le h1 hS.1) h2]; exact hS.2.1 q h1 h2, fun q hq => by
      rcases List.mem_append.mp hq with h | h
      · exact hS.2.2 q h
      · exact hL q h⟩ T' rfl X'
  exact ⟨t2, st t2 a1, b1⟩
/-- the room that a walk has for its calls, and what its calls are -/
def bf_Y (R : Room) (C : bf_CR) (d n' N0 : Nat) : Prop := d + 1 ≤ R.frames ∧ 60 * d + 60 ≤ R.locals ∧ n' - N0 ≤ R.cells ∧ bf_SL n' - bf_SL N0 ≤ R.slots ∧ n' ≤ 57 ∧ ∀ y2 vs G n1 P1, C y2 vs G n1 P1 → bf_MT d y2 vs G n1 P1 ∧ G.1 ≤ n1
theorem bf_cat_sum (ad : Nat → Nat) (S : List Value) : ((S.map (bf_cv ad)).map fun v => v.category).sum = (S.map Value.category).sum := by
  rw [List.map_map]
  congr 1
  apply List.map_congr_left
  intro v _
  exact bf_cat ad v
theorem bf_roomH {ad : Nat → Nat} {S st : List Value} {pc : Nat} {ls : Array Slot} (h : (S.map Value.category).sum ≤ 8) : 2 * (F0 m pc ls st).monitorRoom + ((S.map (bf_cv ad)).map fun v => v.category).sum ≤ 8 := by
  rw [bf_cat_sum]
  show 2 * 0 + _ ≤ 8
  omega
theorem bf_cellsH {G : bf_G} {R : Room} {C : bf_CR} {d n' N0 n1 : Nat} (Y : bf_Y R C d n' N0) (hN : N0 ≤ G.1) (h1 : G.1 ≤ n1) (h2 : n1 ≤ n') : (G.1 - N0 + (n1 - G.1) ≤ R.cells ∧ bf_SL G.1 - bf_SL N0 + (bf_SL n1 - bf_SL G.1) ≤ R.slots) ∧ G.1 - N0 + (n1 - G.1) = n1 - N0 ∧ bf_SL G.1 - bf_SL N0 + (bf_SL n1 - bf_SL G.1) = bf_SL n1 - bf_SL N0 := by
  have a1 := bf_SL_le hN
  have a2 := bf_SL_le h1
  have a3 := bf_SL_le h2
  have b1 := Y.2.2.1
  have b2 := Y.2.2.2.1
  refine ⟨⟨?_, ?_⟩, ?_, ?_⟩ <;> omega
def bf_r_callv (C : bf_CR) (n' : Nat) (y : bf_M) (J : bf_J) : Prop := ∀ (pc : Nat) (L : bf_L) (S S0 : List Value) (G : bf_G) (i : Nat) (y2 : bf_M) (ci n a : Nat) (vs : List Value) (n1 : Nat) (P1 : bf_P), decode y.2.1 pc = .ok (.invokevirtual i, 3) → bf_li y.1.cls i y2.1 → bf_mv y2 ci n → (bf_kd a).1 = ci → a < G.1 → vs.length = n → (S.map Value.category).sum ≤ 8 → S0 = vs.reverse ++ .ref a :: S → C y2 (.ref a :: vs) G n1 P1 → n1 ≤ n' → (∀ (r : Option Value) (G' : bf_G), P1 r G' → G'.1 = n1 → J (pc + 3) L (r.toList ++ S) G') → J pc L S0 G
def bf_r_calls (C : bf_CR) (n' : Nat) (y : bf_M) (J : bf_J) : Prop := ∀ (pc : Nat) (L : bf_L) (S S0 : List Value) (G : bf_G) (i : Nat) (y2 : bf_M) (n : Nat) (vs : List Value) (n1 : Nat) (P1 : bf_P), decode y.2.1 pc = .ok (.invokestatic i, 3) → bf_li y.1.cls i y2.1 → bf_ms y2 n → vs.length = n → (S.map Value.category).sum ≤ 8 → S0 = vs.reverse ++ S → C y2 vs G n1 P1 → n1 ≤ n' → (∀ (r : Option Value) (G' : bf_G), P1 r G' → G'.1 = n1 → J (pc + 3) L (r.toList ++ S) G') → J pc L S0 G
def bf_r_calli (C : bf_CR) (n' : Nat) (y : bf_M) (J : bf_J) : Prop := ∀ (pc : Nat) (L : bf_L) (S S0 : List Value) (G : bf_G) (i : Nat) (y2 : bf_M) (n a : Nat) (vs : List Value) (n1 : Nat) (P1 : bf_P), decode y.2.1 pc = .ok (.invokespecial i, 3) → bf_li y.1.cls i y2.1 → bf_mi y2 n → vs.length = n → (S.map Value.category).sum ≤ 8 → S0 = vs.reverse ++ .ref a :: S → C y2 (.ref a :: vs) G n1 P1 → n1 ≤ n' → (∀ (r : Option Value) (G' : bf_G), P1 r G' → G'.1 = n1 → J (pc + 3) L (r.toList ++ S) G') → J pc L S0 G
def bf_r_obj (y : bf_M) (J : bf_J) : Prop := ∀ (pc : Nat) (L : bf_L) (S : List Value) (G : bf_G) (i a : Nat), decode y.2.1 pc = .ok (.invokespecial i, 3) → Cond.methodLink y.1.cls i objectInit ∈ lw_tbl → (S.map Value.category).sum ≤ 8 → J (pc + 3) L S G → J pc L (.ref a :: S) G
theorem bf_toList {ad : Nat → Nat} (r : Option Value) (S : List Value) : (r.map (bf_cv ad)).toList ++ S.map (bf_cv ad) = (r.toList ++ S).map (bf_cv ad) := by cases r <;> rfl
theorem jw_callv {C : bf_CR} {d n' : Nat} (X : bf_X p s m args c E nL y) (Y : bf_Y R C d n' N0) : bf_r_callv C n' y (bf_JW p l e R s m args below meth c E nL N0 Q) := by
  intro pc L S S0 G i y2 ci n a vs n1 P1 dd hli hmv hk ha hn hsum hS0 hC hle k
  intro H locs ls hH hS hl hN
  subst hS0
  obtain ⟨hM, h1⟩ := Y.2.2.2.2.2 _ _ _ _ _ hC
  obtain ⟨⟨hcode, hini, hpl, hd, hmx⟩, q, hq, hinst, hsel⟩ := hmv
  have hci : ci < 9 := (List.getElem?_eq_some_iff.mp hq).1
  obtain ⟨cell, q1, q2, q3, q4⟩ := (hH.2.2 a ha).obj hk hci
  have hfc := (X.2.2.2.2.2.1.1.1 ci _ hq).2.1
  have hcells := bf_cellsH Y hN h1 hle
  have hts : ∀ w ∈ lw_tbl.filter goodWord, w.before args s = true := fun w hw => X.2.2.2.2.1 w (List.mem_filter.mp hw).1 (List.mem_filter.mp hw).2
  have hPre : PreV s H q.1 (bf_ad E a) (bf_Pc E (.ref a :: vs) G) (vs.map (bf_cv (bf_ad E))) := ⟨bf_blind _ _ _, ⟨cell, q1, by rw [q3]; rfl, by rw [q2]; exact hfc⟩, bf_pre X hH hS (.ref a :: vs)⟩
  have hst : (vs.reverse ++ .ref a :: S).map (bf_cv (bf_ad E)) = (vs.map (bf_cv (bf_ad E))).reverse ++ .ref (bf_ad E a) :: S.map (bf_cv (bf_ad E)) := by simp [bf_cv]
  have hR : (bf_rm d G.1 n1).frames + 1 ≤ R.frames ∧ 8 + (y2.2.2.1 + 11) + (bf_rm d G.1 n1).locals ≤ R.locals := ⟨Y.1, by have := Y.2.1; show 8 + (y2.2.2.1 + 11) + 60 * d ≤ _; omega⟩
  have kk : ∀ (r : Option Value) (G' : bf_G) (H1 : Heap) (locs1 : List Loc), P1 r G' → G'.1 = n1 → bf_HR E G' H1 → va_S (bf_A E) s.heap H1 locs1 → W p l e R s m args below meth c H1 locs1 (G.1 - N0 + (n1 - G.1)) (bf_SL G.1 - bf_SL N0 + (bf_SL n1 - bf_SL G.1)) Q (F0 m (pc + 3) ls ((r.map (bf_cv (bf_ad E))).toList ++ S.map (bf_cv (bf_ad E)))) := by
    intro r G' H1 locs1 hp hg hh hs
    have := k r G' hp hg H1 locs1 ls hh hs hl (by rw [hg]; omega)
    rw [hcells.2.1, hcells.2.2, bf_toList, ← hg]
    exact this
  rcases hli with hli | ⟨host, hli⟩
  · refine bf_call (E := E) (n1 := n1) (P1 := P1) (va_runV (C := q.1) (As := vs.map (bf_cv (bf_ad E))) (rest := S.map (bf_cv (bf_ad E))) (Ts := lw_tbl.filter goodWord) ⟨X.1, X.2.1, X.2.2.1, X.2.2.2.1, hts⟩ (hM l E) ⟨callB_of n hts (bf_goodws hcode) rfl rfl rfl (hts _ (List.mem_filter.mpr ⟨hini, rfl⟩)) (hts _ (List.mem_filter.mpr ⟨hli, rfl⟩)) hd hR, hts _ (List.mem_filter.mpr ⟨hinst, rfl⟩), hts _ (List.mem_filter.mpr ⟨hsel, rfl⟩)⟩ hPre rfl (by rw [List.length_map]; exact hn) hl.1 hst (bf_roomH hsum) dd hcells.1) hS kk
  · refine bf_call (E := E) (n1 := n1) (P1 := P1) (va_runVN (C := q.1) (As := vs.map (bf_cv (bf_ad E))) (rest := S.map (bf_cv (bf_ad E))) (Ts := lw_tbl.filter goodWord) ⟨X.1, X.2.1, X.2.2.1, X.2.2.2.1, hts⟩ (hM l E) ⟨va_cnB n hts (bf_goodws hcode) rfl rfl rfl (X.2.2.2.2.2.1.2.1 _ hli rfl) (hts _ (List.mem_filter.mpr ⟨hini, rfl⟩)) hd hR, hts _ (List.mem_filter.mpr ⟨hinst, rfl⟩), hts _ (List.mem_filter.mpr ⟨hsel, rfl⟩)⟩ hPre rfl (by rw [List.length_map]; exact hn) hl.1 hst (bf_roomH hsum) dd hcells.1) hS kk
theorem jw_calls {C : bf_CR} {d n' : Nat} (X : bf_X p s m args c E nL y) (Y : bf_Y R C d n' N0) : bf_r_calls C n' y (bf_JW p l e R s m args below meth c E nL N0 Q) := by
  intro pc L S S0 G i y2 n vs n1 P1 dd hli hms hn hsum hS0 hC hle k
  intro H locs ls hH hS hl hN
  subst hS0
  obtain ⟨hM, h1⟩ := Y.2.2.2.2.2 _ _ _ _ _ hC
  obtain ⟨⟨hcode, hini, hpl, hd, hmx⟩, hstc⟩ := hms
  have hcells := bf_cellsH Y hN h1 hle
  have hts : ∀ w ∈ lw_tbl.filter goodWord, w.before args s = true := fun w hw => X.2.2.2.2.1 w (List.mem_filter.mp hw).1 (List.mem_filter.mp hw).2
  have hPre : PreS s H (bf_Pc E vs G) (vs.map (bf_cv (bf_ad E))) := ⟨bf_blind _ _ _, bf_pre X hH hS vs⟩
  have hst : (vs.reverse ++ S).map (bf_cv (bf_ad E)) = (vs.map (bf_cv (bf_ad E))).reverse ++ S.map (bf_cv (bf_ad E)) := by simp
  have hR : (bf_rm d G.1 n1).frames + 1 ≤ R.frames ∧ 8 + (y2.2.2.1 + 11) + (bf_rm d G.1 n1).locals ≤ R.locals := ⟨Y.1, by have := Y.2.1; show 8 + (y2.2.2.1 + 11) + 60 * d ≤ _; omega⟩
  have kk : ∀ (r : Option Value) (G' : bf_G) (H1 : Heap) (locs1 : List Loc), P1 r G' → G'.1 = n1 → bf_HR E G' H1 → va_S (bf_A E) s.heap H1 locs1 → W p l e R s m args below meth c H1 locs1 (G.1 - N0 + (n1 - G.1)) (bf_SL G.1 - bf_SL N0 + (bf_SL n1 - bf_SL G.1)) Q (F0 m (pc + 3) ls ((r.map (bf_cv (bf_ad E))).toList ++ S.map (bf_cv (bf_ad E)))) := by
    intro r G' H1 locs1 hp hg hh hs
    have := k r G' hp hg H1 locs1 ls hh hs hl (by rw [hg]; omega)
    rw [hcells.2.1, hcells.2.2, bf_toList, ← hg]
    exact this
  rcases hli with hli | ⟨host, hli⟩
  · exact bf_call (E := E) (n1 := n1) (P1 := P1) (va_runS (As := vs.map (bf_cv (bf_ad E))) (rest := S.map (bf_cv (bf_ad E))) (Ts := lw_tbl.filter goodWord) ⟨X.1, X.2.1, X.2.2.1, X.2.2.2.1, hts⟩ (hM l E) ⟨callB_of n hts (bf_goodws hcode) rfl rfl rfl (hts _ (List.mem_filter.mpr ⟨hini, rfl⟩)) (hts _ (List.mem_filter.mpr ⟨hli, rfl⟩)) hd hR, hts _ (List.mem_filter.mpr ⟨hstc, rfl⟩)⟩ hPre rfl (by rw [List.length_map]; exact hn) hl.1 hst (bf_roomH hsum) dd hcells.1) hS kk
  · exact bf_call (E := E) (n1 := n1) (P1 := P1) (va_runSN (As := vs.map (bf_cv (bf_ad E))) (rest := S.map (bf_cv (bf_ad E))) (Ts := lw_tbl.filter goodWord) ⟨X.1, X.2.1, X.2.2.1, X.2.2.2.1, hts⟩ (hM l E) ⟨va_cnB n hts (bf_goodws hcode) rfl rfl rfl (X.2.2.2.2.2.1.2.1 _ hli rfl) (hts _ (List.mem_filter.mpr ⟨hini, rfl⟩)) hd hR, hts _ (List.mem_filter.mpr ⟨hstc, rfl⟩), trivial⟩ hPre rfl (by rw [List.length_map]; exact hn) hl.1 hst (bf_roomH hsum) dd hcells.1) hS kk
theorem jw_calli {C : bf_CR} {d n' : Nat} (X : bf_X p s m args c E nL y) (Y : bf_Y R C d n' N0) : bf_r_calli C n' y (bf_JW p l e R s m args below meth c E nL N0 Q) := by
  intro pc L S S0 G i y2 n a vs n1 P1 dd hli hmi hn hsum hS0 hC hle k
  intro H locs ls hH hS hl hN
  subst hS0
  obtain ⟨hM, h1⟩ := Y.2.2.2.2.2 _ _ _ _ _ hC
  obtain ⟨⟨hcode, hini, hpl, hd, hmx⟩, hinst, hnm, hret⟩ := hmi
  have hcells := bf_cellsH Y hN h1 hle
  have hts : ∀ w ∈ lw_tbl.filter goodWord, w.before args s = true := fun w hw => X.2.2.2.2.1 w (List.mem_filter.mp hw).1 (List.mem_filter.mp hw).2
  have hPre : PreS s H (bf_Pc E (.ref a :: vs) G) (.ref (bf_ad E a) :: vs.map (bf_cv (bf_ad E))) := ⟨bf_blind _ _ _, bf_pre X hH hS (.ref a :: vs)⟩
  have hst : (vs.reverse ++ .ref a :: S).map (bf_cv (bf_ad E)) = (vs.map (bf_cv (bf_ad E))).reverse ++ .ref (bf_ad E a) :: S.map (bf_cv (bf_ad E)) := by simp [bf_cv]
  have hR : (bf_rm d G.1 n1).frames + 1 ≤ R.frames ∧ 8 + (y2.2.2.1 + 11) + (bf_rm d G.1 n1).locals ≤ R.locals := ⟨Y.1, by have := Y.2.1; show 8 + (y2.2.2.1 + 11) + 60 * d ≤ _; omega⟩
  have kk : ∀ (r : Option Value) (G' : bf_G) (H1 : Heap) (locs1 : List Loc), P1 r G' → G'.1 = n1 → bf_HR E G' H1 → va_S (bf_A E) s.heap H1 locs1 → W p l e R s m args below meth c H1 locs1 (G.1 - N0 + (n1 - G.1)) (bf_SL G.1 - bf_SL N0 + (bf_SL n1 - bf_SL G.1)) Q (F0 m (pc + 3) ls ((r.map (bf_cv (bf_ad E))).toList ++ S.map (bf_cv (bf_ad E)))) := by
    intro r G' H1 locs1 hp hg hh hs
    have := k r G' hp hg H1 locs1 ls hh hs hl (by rw [hg]; omega)
    rw [hcells.2.1, hcells.2.2, bf_toList, ← hg]
    exact this
  obtain ⟨y1, yc, yl, yr⟩ := y2
  dsimp only at hret
  subst hret
  rcases hli with hli | ⟨host, hli⟩
  · exact bf_call (E := E) (n1 := n1) (P1 := P1) (va_runI (As := vs.map (bf_cv (bf_ad E))) (rest := S.map (bf_cv (bf_ad E))) (Ts := lw_tbl.filter goodWord) ⟨X.1, X.2.1, X.2.2.1, X.2.2.2.1, hts⟩ (hM l E) ⟨callB_of n hts (bf_goodws hcode) rfl rfl rfl (hts _ (List.mem_filter.mpr ⟨hini, rfl⟩)) (hts _ (List.mem_filter.mpr ⟨hli, rfl⟩)) hd hR, hnm, hts _ (List.mem_filter.mpr ⟨hinst, rfl⟩)⟩ hPre rfl (by rw [List.length_map]; exact hn) hl.1 hst (bf_roomH hsum) dd hcells.1) hS kk
  · exact bf_call (E := E) (n1 := n1) (P1 := P1) (va_runIN (As := vs.map (bf_cv (bf_ad E))) (rest := S.map (bf_cv (bf_ad E))) (Ts := lw_tbl.filter goodWord) ⟨X.1, X.2.1, X.2.2.1, X.2.2.2.1, hts⟩ (hM l E) ⟨va_cnB n hts (bf_goodws hcode) rfl rfl rfl (X.2.2.2.2.2.1.2.1 _ hli rfl) (hts _ (List.mem_filter.mpr ⟨hini, rfl⟩)) hd hR, hnm, hts _ (List.mem_filter.mpr ⟨hinst, rfl⟩)⟩ hPre rfl (by rw [List.length_map]; exact hn) hl.1 hst (bf_roomH hsum) dd hcells.1) hS kk
theorem jw_obj {C : bf_CR} {d n' : Nat} (X : bf_X p s m args c E nL y) (Y : bf_Y R C d n' N0) : bf_r_obj y (bf_JW p l e R s m args below meth c E nL N0 Q) := by
  intro pc L S G i a dd hw hsum k
  intro H locs ls hH hS hl hN
  have h1 := Y.1
  have h2 := Y.2.1
  have hr := bf_roomH (m := m) (ad := bf_ad E) (st := []) (pc := pc) (ls := ls) hsum
  exact W.objInit X.1 X.2.1 X.2.2.2.1 (X.2.2.2.2.1 _ hw rfl) (X.2.2.2.2.1 _ (bf_mt 20 (by decide +kernel)) rfl) (X.2.2.2.2.1 _ (bf_mt 21 (by decide +kernel)) rfl) rfl (hl.1.trans X.2.2.1.symm) rfl dd (by omega) (by
    have : 2 * (F0 m pc ls (Value.ref (bf_ad E a) :: S.map (bf_cv (bf_ad E)))).monitorRoom + ((S.map (bf_cv (bf_ad E))).map fun v => v.category).sum ≤ 8 := bf_roomH hsum
    refine Nat.le_trans (Nat.add_le_add_right this 12) ?_
    omega) (k H locs ls hH hS hl hN)
end bfC
