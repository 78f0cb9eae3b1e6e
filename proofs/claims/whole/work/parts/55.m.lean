/-! THE CLAIM OUT OF ONE WALK OF THE LAW'S BODY. Your part is whole_start (and what it stands on); all else here is the same for every law, but numbers. -/
def R_law : String := "BarFiguresLaw"
def lw_P (b : Addr) (xs : List Int32) (args : Array Value) (s : State) : Prop := args = #[.ref b] ∧ s.IntsAt b xs ∧ xs.length ≤ 448 ∧ (Jvm.Cond.and given_1 narrow_1).before args s = true
def lw_Q (_ : Array Value) (s : State) (o : Outcome) (t : State) : Prop := o = .returned (some (.int 1)) ∧ Framed s o t [] 600000 7302250
def lw_Z (below : List Frame) (a : Array Value) (s : State) : State → Prop := fun t => ∃ o, t.status = .running ∧ Ended t below o ∧ lw_Q a s o t
/-- the law's own end, with 1 on the stack, nothing written that was there before, its room as the claim has it -/
theorem lw_ret {p : Program} {l : Launch} {e : Env} {s : State} {m : MethodId} {below : List Frame} {meth : Method} {c : Code} {b : Nat} (hx : p.tables.exec = Jvm.exec) (hb : c.code = code) (hr : meth.sig.returnType = ret) (hlocks : meth.locks = false) {pc : Nat} {H : Heap} {ls : Array Slot} (hdg : decode code pc = .ok (.ireturn, 1)) : W p l e room_1 s m #[Value.ref b] below meth c H [] 600000 7302250 (lw_Z below #[Value.ref b] s) (F0 m pc ls [.int 1]) := by
  intro T hT X
  obtain ⟨fs, hret, hrun, hended, hW, hframe⟩ := X.leave (v := some (.int 1)) (hlocks := hlocks) (fun h => by rw [hr] at h; cases h)
  have hmeth' : T.vm.method? m = some meth := X.method'
  refine ⟨T.setFrames fs, ?_, .returned (some (.int 1)), hrun, hended, rfl, ⟨_, rfl⟩, hW, hframe⟩
  jvm_step X.here [X.here.top, hx, hb, hdg, hmeth', hr, ret, narrow_b1]
  (try refine ⟨rfl, ?_⟩); (try refine ⟨rfl, ?_⟩)
  first | (intro acts; rw [hret _ acts rfl rfl rfl]) | rw [hret _ _ rfl rfl rfl]
  exact Steps.refl _
/-- what holds at the law's entry: the machine, the code, the tables' words (any of lw_tbl by 'hts w (by decide +kernel)'), the script of L ints xs at the cell b, what the Statement gives of the start (any of its parts by flat_of_before) -/
def lw_At (p : Program) (s : State) (m : MethodId) (meth : Method) (c : Code) (b L : Nat) (xs : Nat → Int32) : Prop :=
  p.tables.exec = Jvm.exec ∧ c.code = code ∧ meth.sig.returnType = ret ∧ c.maxLocals = 4 ∧ s.vm.findClass R_law = some m.cls ∧ (∀ w ∈ lw_tbl, w.before #[Value.ref b] s = true) ∧ va_X b L xs s s.heap ∧ b < s.heap.size ∧ meth.locks = false ∧ (Jvm.Cond.and given_1 narrow_1).before #[Value.ref b] s = true
/-- the classes that are made -/
theorem ws_kn {s : State} {b : Nat} (hts : ∀ w ∈ lw_tbl, w.before #[Value.ref b] s = true) {own : String} {idx ci : Nat} (hn : bf_nw own idx ci) : ∃ (cC : ClassId) (iS : Nat → Nat), ∀ q : vw_C, vwCl[ci]? = some q → u_Kn s q.1 q.2.1 q.2.2 cC iS := by
  obtain ⟨q, hq, -, hi, -⟩ := hn
  obtain ⟨ty0, hin, -, -⟩ := bf_cls_of hq
  obtain ⟨cC, iS, h⟩ := u_known (ws := lw_tbl) hts hin (hts _ hi)
  exact ⟨cC, iS, fun q' hq' => by cases hq.symm.trans hq'; exact h⟩
theorem ws_all {s : State} {b : Nat} (hts : ∀ w ∈ lw_tbl, w.before #[Value.ref b] s = true) : ∀ ci : Nat, ∃ (cC : ClassId) (iS : Nat → Nat), ∀ q : vw_C, vwCl[ci]? = some q → u_Kn s q.1 q.2.1 q.2.2 cC iS
  | 0 => ws_kn hts nw_X2_17
  | 1 => ws_kn hts nw_X8_38
  | 2 => ws_kn hts nw_X8_17
  | 3 => ws_kn hts nw_X2_9
  | 4 => ws_kn hts nw_X8_24
  | 5 => ws_kn hts nw_X8_11
  | 6 => ws_kn hts nw_X8_31
  | 7 => ws_kn hts nw_L_7
  | 8 => ws_kn hts nw_L_10
  | _ + 9 => ⟨0, fun _ => 0, fun q hq => by cases hq⟩
theorem ws_fig {s : State} {b : Nat} (hgv : (Jvm.Cond.and given_1 narrow_1).before #[Value.ref b] s = true) : ∃ t : Nat, (Term.static RX0 "FIGURES" "[I").eval #[Value.ref b] s none [] s = some (.ref t) ∧ va_T .int t 10 (fun j => .int (bf_fig j)) (fun q => s.heap.size ≤ q) s s.heap := by
  have hs := flat_of_before _ hgv
  refine va_Tof (by decide) (hs _ (by decide +kernel)) (va_eqt (z := Int32.ofNat 10) (hs _ (by decide +kernel))) (fun j hj => ?_) (fun a ha => Nat.not_le.mpr ha)
  match j, hj with
  | 0, _ => exact va_eqt (z := bf_fig 0) (hs _ (by decide +kernel))
  | 1, _ => exact va_eqt (z := bf_fig 1) (hs _ (by decide +kernel))
  | 2, _ => exact va_eqt (z := bf_fig 2) (hs _ (by decide +kernel))
  | 3, _ => exact va_eqt (z := bf_fig 3) (hs _ (by decide +kernel))
  | 4, _ => exact va_eqt (z := bf_fig 4) (hs _ (by decide +kernel))
  | 5, _ => exact va_eqt (z := bf_fig 5) (hs _ (by decide +kernel))
  | 6, _ => exact va_eqt (z := bf_fig 6) (hs _ (by decide +kernel))
  | 7, _ => exact va_eqt (z := bf_fig 7) (hs _ (by decide +kernel))
  | 8, _ => exact va_eqt (z := bf_fig 8) (hs _ (by decide +kernel))
  | 9, _ => exact va_eqt (z := bf_fig 9) (hs _ (by decide +kernel))
theorem ws_gre {s : State} {b : Nat} (hgv : (Jvm.Cond.and given_1 narrow_1).before #[Value.ref b] s = true) : ∃ t : Nat, (Term.static RX7 "GREATEST" "[I").eval #[Value.ref b] s none [] s = some (.ref t) ∧ va_T .int t 3 (fun j => .int (bf_gre j)) (fun q => s.heap.size ≤ q) s s.heap := by
  have hs := flat_of_before _ hgv
  refine va_Tof (by decide) (hs _ (by decide +kernel)) (va_eqt (z := Int32.ofNat 3) (hs _ (by decide +kernel))) (fun j hj => ?_) (fun a ha => Nat.not_le.mpr ha)
  match j, hj with
  | 0, _ => exact va_eqt (z := bf_gre 0) (hs _ (by decide +kernel))
  | 1, _ => exact va_eqt (z := bf_gre 1) (hs _ (by decide +kernel))
  | 2, _ => exact va_eqt (z := bf_gre 2) (hs _ (by decide +kernel))
theorem ws_X {p : Program} {s : State} {m : MethodId} {meth : Method} {c : Code} {b L : Nat} {xs : Nat → Int32} (C0 : lw_At p s m meth c b L xs) : ∃ E : bf_E, E.1 = s.heap.size ∧ bf_ad E 102 = b ∧ bf_X p s m #[Value.ref b] c E 4 mL := by
  obtain ⟨hx, hb, hr, hml, hown, hts, hX, hbl, hlk, hgv⟩ := C0
  obtain ⟨dC, h1⟩ := Classical.axiomOfChoice (ws_all hts)
  obtain ⟨dI, hK⟩ := Classical.axiomOfChoice h1
  obtain ⟨t1, ev1, T1⟩ := ws_fig hgv
  obtain ⟨t2, ev2, T2⟩ := ws_gre hgv
  have w53 : (Cond.arrayClass .int).before #[Value.ref b] s = true := hts _ (bf_mt 53 (by decide +kernel))
  have w31 : (Cond.arrayOver (.object RX3)).before #[Value.ref b] s = true := hts _ (bf_mt 31 (by decide +kernel))
  have w23 : (Cond.arrayOver (.object RX5)).before #[Value.ref b] s = true := hts _ (bf_mt 23 (by decide +kernel))
  obtain ⟨cI, kI, compI, f1, f2, f3⟩ := Cond.arrayClass_spec w53
  obtain ⟨comp3, c3, k3, g1, g2, g3, g4, g5⟩ := Cond.arrayOver_spec w31
  obtain ⟨comp5, c5, k5, i1, i2, i3, i4, i5⟩ := Cond.arrayOver_spec w23
  have aI : ArrOfT s cI .int ∧ va_RA s cI .int := ⟨fun N z => ⟨(fun k h => by cases h), kI, f2, compI, f3⟩, f1⟩
  have a3 : ArrOfT s c3 (.object RX3) ∧ va_RA s c3 (.object RX3) := ⟨fun N z => ⟨(fun k h => by cases h), k3, g3, comp3, g4⟩, k3, comp3, g3, g4, g1, g5⟩
  have a5 : ArrOfT s c5 (.object RX5) ∧ va_RA s c5 (.object RX5) := ⟨fun N z => ⟨(fun k h => by cases h), k5, i3, comp5, i4⟩, k5, comp5, i3, i4, i1, i5⟩
  have hA : ∀ a : Nat, a < s.heap.size → ¬ (fun q : Nat => s.heap.size ≤ q) a := fun a ha => Nat.not_le.mpr ha
  have Z1 := va_Zref (A := fun q : Nat => s.heap.size ≤ q) (hts _ (bf_mt 39 (by decide +kernel))) (hts _ bf_ini_X0) ev1 hA
  have Z2 := va_Zref (A := fun q : Nat => s.heap.size ≤ q) (hts _ (bf_mt 253 (by decide +kernel))) (hts _ bf_ini_X7) ev2 hA
  refine ⟨(s.heap.size, t1, t2, dC, (fun k => if k = 99 then fun _ => b else dI k), fun k => if k = 9 then cI else if k = 10 then c3 else c5), rfl, rfl, hx, hb, hml, hown, fun w hw _ => hts w hw, ⟨⟨fun ci q hq => ?_, fun k q hq => ?_⟩, fun w hw hn => ?_, va_AO.of w31, va_AO.of w23⟩, ⟨⟨Z1, T1⟩, ⟨Z2, T2⟩⟩⟩
  · have hlt : ci < 9 := (List.getElem?_eq_some_iff.mp hq).1
    have e : (if ci = 99 then (fun _ => b) else dI ci) = dI ci := if_neg (by omega)
    show u_Kn s q.1 q.2.1 q.2.2 (dC ci) (if ci = 99 then (fun _ => b) else dI ci)
    rw [e]
    exact hK ci q hq
  · match k, hq with
    | 0, hq => cases hq; exact aI
    | 1, hq => cases hq; exact a3
    | 2, hq => cases hq; exact a5
    | _ + 3, hq => cases hq
  · cases w with
    | fieldLinkNest => exact va_Nw.of rfl (hts _ hw)
    | methodLinkNest => exact va_Nw.of rfl (hts _ hw)
    | _ => cases hn
theorem whole_start {p : Program} {e : Env} {s : State} {m : MethodId} {below : List Frame} {meth : Method} {c : Code} (l : Launch) (hflags : l.flags = flags0) {b L : Nat} {xs : Nat → Int32} (hL : L ≤ 448) (C0 : lw_At p s m meth c b L xs) : W p l e room_1 s m #[Value.ref b] below meth c s.heap [] 0 0 (lw_Z below #[Value.ref b] s) (entryFrame m ([Value.ref b] : List Value).toArray 4) := by
  obtain ⟨E, hE, h102, X⟩ := ws_X C0
  obtain ⟨hx, hb, hr, hml, hown, hts, hX, hbl, hlk, hgv⟩ := C0
  have hbA : ¬ bf_A E b := by
    show ¬ E.1 ≤ b
    omega
  have Y : bf_Y room_1 (bf_Cl 30) 30 57 0 := ⟨by decide, by decide, by decide, by decide +kernel, by decide, bf_sound 30⟩
  have r : bf_All (bf_Cl 30) 57 PL mL (bf_JW p l e room_1 s m #[Value.ref b] below meth c E 4 0 (lw_Z below #[Value.ref b] s)) := by
    refine ⟨jw_Ru X, jw_All X Y, ?_, ?_, ?_, ?_⟩
    · intro pc L S G i ci j a b2 dd hf hn
      exact absurd (show "law" = "<init>" from hn) (by decide)
    · intro pc L G v ty dd hty hn hG hp
      intro H locs ls hH hS hl hN
      have hp2 : (some (Value.int v) : Option Value) = some (.int 1) := hp
      injection hp2 with hp3
      injection hp3 with hp4
      subst hp4
      rw [hG]
      refine va_forget (fun q hq => by have h := hS.2.2 q hq; rw [← hE]; exact h) (W.widen (k := 600000) (n := 7302250) (by decide) (by decide +kernel) ?_)
      exact lw_ret hx hb hr hlk dd
    · intro pc L G v dd hty
      have h2 : (some FieldType.boolean : Option FieldType) = some .long := hty
      cases h2
    · intro pc L G dd hty
      have h2 : (some FieldType.boolean : Option FieldType) = none := hty
      cases h2
  have hs : scR xs L (bf_JW p l e room_1 s m #[Value.ref b] below meth c E 4 0 (lw_Z below #[Value.ref b] s)) := by
    refine ⟨?_, ?_⟩
    · intro pc L2 S G i dd hi k
      intro H locs ls hH hS hl hN
      have h1 := k H locs ls hH hS hl hN
      show W p l e room_1 s m #[Value.ref b] below meth c H locs _ _ _ (F0 m pc ls (.int (nI i) :: .ref (bf_ad E 102) :: S.map (bf_cv (bf_ad E))))
      rw [h102]
      refine va_sld hx hb hX hbl hbA hS (vp_in_nI hi (by omega)) dd ?_
      rw [nI_clamp (by omega)]
      exact h1
    · intro pc L2 S G dd k
      intro H locs ls hH hS hl hN
      have h1 := k H locs ls hH hS hl hN
      show W p l e room_1 s m #[Value.ref b] below meth c H locs _ _ _ (F0 m pc ls (.ref (bf_ad E 102) :: S.map (bf_cv (bf_ad E))))
      rw [h102]
      exact va_slen hx hb hX hbl hbA hS dd h1
  have hc : law_cg (bf_JW p l e room_1 s m #[Value.ref b] below meth c E 4 0 (lw_Z below #[Value.ref b] s)) := by
    intro pc L2 S h h' hq k
    intro H locs ls hH hS hl hN
    exact k H locs ls (hH.cg hq) hS hl hN
  have key := law_start (e := 30) (by decide) r hs hL hc (fun _ _ => .null)
  have h0 := key s.heap [] _ ⟨by decide, fun _ => by rw [hE]; rfl, fun a ha => absurd ha (Nat.not_lt_zero _)⟩ va_S.rf (bf_lr_entry E (vs := [.ref 102]) (by decide)) (Nat.le_refl _)
  have e1 : ([Value.ref 102] : List Value).map (bf_cv (bf_ad E)) = [Value.ref b] := by
    show [Value.ref (bf_ad E 102)] = _
    rw [h102]
  rw [e1] at h0
  rw [lg_entry_eq]
  exact h0
