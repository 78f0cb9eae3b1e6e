/-! ===== the abstract machine: cells by their numbers in the order in which they are made; values of a cell by its places ===== -/
abbrev bf_Hp : Type := Nat → Nat → Value
abbrev bf_G : Type := Nat × bf_Hp
abbrev bf_L : Type := List (Option Value)
abbrev bf_M : Type := MethodName × ByteArray × Nat × Option FieldType
abbrev bf_E : Type := Nat × Nat × Nat × (Nat → ClassId) × (Nat → Nat → Nat) × (Nat → ClassId)
abbrev bf_J : Type := Nat → bf_L → List Value → bf_G → Prop
abbrev bf_P : Type := Option Value → bf_G → Prop
/-- the cells: class (0 .. 8; 9 ints, 10 Places, 11 Sheets) and size -/
def bf_kdL : List (Nat × Nat) := [(7, 7), (11, 4), (2, 5), (10, 4), (0, 1), (9, 30), (3, 6), (9, 10), (9, 7), (3, 6), (9, 10), (9, 7), (3, 6), (9, 10), (9, 7), (3, 6), (9, 10), (9, 7), (4, 4), (9, 8), (9, 8), (9, 8), (6, 2), (9, 40), (1, 6), (9, 6), (9, 36), (9, 6), (9, 6), (5, 3), (9, 60), (5, 3), (9, 60), (5, 3), (9, 60), (5, 3), (9, 60), (8, 28), (9, 4), (9, 4), (9, 4), (9, 28), (9, 4), (9, 4), (9, 4), (9, 4), (9, 28), (9, 36), (9, 6), (9, 6), (9, 8), (9, 8), (9, 8), (9, 4), (9, 4), (9, 240), (9, 60)]
def bf_kd (a : Nat) : Nat × Nat := bf_kdL.getD a (99, 0)
def bf_SL : Nat → Nat
  | 0 => 0
  | n + 1 => bf_SL n + (bf_kd n).2
theorem bf_SL_le : ∀ {a b : Nat}, a ≤ b → bf_SL a ≤ bf_SL b := by
  intro a b h
  induction h with
  | refl => exact Nat.le_refl _
  | step _ ih => exact Nat.le_trans ih (Nat.le_add_right _ _)
def bf_ad (E : bf_E) (k : Nat) : Nat := if k < 100 then E.1 + k else if k = 100 then E.2.1 else if k = 101 then E.2.2.1 else E.2.2.2.2.1 99 0
def bf_cv (ad : Nat → Nat) : Value → Value
  | .ref k => .ref (ad k)
  | .int x => .int x
  | .long x => .long x
  | .float x => .float x
  | .double x => .double x
  | .null => .null
  | .retAddr x => .retAddr x
def bf_up (h : bf_Hp) (a j : Nat) (v : Value) : bf_Hp := fun b i => if b = a then (if i = j then v else h b i) else h b i
def bf_fill (h : bf_Hp) (a : Nat) (f : Nat → Value) : bf_Hp := fun b i => if b = a then f i else h b i
theorem bf_cat (ad : Nat → Nat) (v : Value) : (bf_cv ad v).category = v.category := by cases v <;> rfl
theorem bf_ad_lt (E : bf_E) {k : Nat} (h : k < 100) : bf_ad E k = E.1 + k := by simp [bf_ad, h]
theorem bf_ad_inj (E : bf_E) {a b : Nat} (ha : a < 57) (hb : b < 57) (h : bf_ad E a = bf_ad E b) : a = b := by
  rw [bf_ad_lt E (by omega), bf_ad_lt E (by omega)] at h
  omega
/-- one cell -/
def bf_C (E : bf_E) (h : bf_Hp) (a : Nat) (H : Heap) : Prop :=
  if (bf_kd a).1 < 9 then t_OB (bf_ad E a) (E.2.2.2.1 (bf_kd a).1) (bf_kd a).2 (E.2.2.2.2.1 (bf_kd a).1) H (fun j => bf_cv (bf_ad E) (h a j))
  else H[bf_ad E a]? = some (arrV (E.2.2.2.2.2 (bf_kd a).1) (bf_kd a).2 (fun j => bf_cv (bf_ad E) (h a j)))
def bf_HR (E : bf_E) (G : bf_G) (H : Heap) : Prop := G.1 ≤ 57 ∧ (G.1 < 57 → H.size = E.1 + G.1) ∧ ∀ a, a < G.1 → bf_C E G.2 a H
def bf_A (E : bf_E) : Nat → Prop := fun q => E.1 ≤ q
theorem bf_C.kept {E : bf_E} {h : bf_Hp} {a : Nat} {H H1 : Heap} (hc : bf_C E h a H) (hq : H1[bf_ad E a]? = H[bf_ad E a]?) : bf_C E h a H1 := by
  unfold bf_C at hc ⊢
  split at hc
  · rename_i h1; rw [if_pos h1]; exact hc.kept hq
  · rename_i h1; rw [if_neg h1, hq]; exact hc
theorem bf_C.congr {E : bf_E} {h h' : bf_Hp} {a : Nat} {H : Heap} (hc : bf_C E h a H) (hq : ∀ j, h' a j = h a j) : bf_C E h' a H := by
  have e : (fun j => bf_cv (bf_ad E) (h' a j)) = (fun j => bf_cv (bf_ad E) (h a j)) := funext fun j => by rw [hq]
  unfold bf_C
  rw [e]
  exact hc
theorem bf_C.obj {E : bf_E} {h : bf_Hp} {a ci : Nat} {H : Heap} (hc : bf_C E h a H) (hk : (bf_kd a).1 = ci) (hi : ci < 9) : t_OB (bf_ad E a) (E.2.2.2.1 ci) (bf_kd a).2 (E.2.2.2.2.1 ci) H (fun j => bf_cv (bf_ad E) (h a j)) := by
  unfold bf_C at hc
  rw [hk, if_pos hi] at hc
  exact hc
theorem bf_C.arr {E : bf_E} {h : bf_Hp} {a ci n : Nat} {H : Heap} (hc : bf_C E h a H) (hk : bf_kd a = (ci, n)) (hi : ¬ ci < 9) : H[bf_ad E a]? = some (arrV (E.2.2.2.2.2 ci) n (fun j => bf_cv (bf_ad E) (h a j))) := by
  unfold bf_C at hc
  rw [hk, if_neg hi] at hc
  exact hc
/-- one cell is changed, nothing else -/
theorem bf_HR.put {E : bf_E} {G : bf_G} {h' : bf_Hp} {a : Nat} {H H1 : Heap} (hh : bf_HR E G H) (ha : a < G.1) (hz : H1.size = H.size) (oq : ∀ q : Nat, q ≠ bf_ad E a → H1[q]? = H[q]?) (hc : bf_C E h' a H1) (hk : ∀ b j, b ≠ a → h' b j = G.2 b j) : bf_HR E (G.1, h') H1 := by
  refine ⟨hh.1, fun h => by rw [hz]; exact hh.2.1 h, fun b hb => ?_⟩
  by_cases e : b = a
  · subst e; exact hc
  · refine ((hh.2.2 b hb).kept (oq _ fun z => e (bf_ad_inj E ?_ ?_ z))).congr (fun j => hk b j e)
    · exact Nat.lt_of_lt_of_le hb hh.1
    · exact Nat.lt_of_lt_of_le ha hh.1
/-- a cell more -/
theorem bf_HR.new {E : bf_E} {G : bf_G} {h' : bf_Hp} {H H1 : Heap} (hh : bf_HR E G H) (hN : G.1 < 57) (hz : H1.size = H.size + 1) (oq : ∀ q : Nat, q < H.size → H1[q]? = H[q]?) (hc : bf_C E h' G.1 H1) (hk : ∀ b j, b ≠ G.1 → h' b j = G.2 b j) : bf_HR E (G.1 + 1, h') H1 := by
  have hs := hh.2.1 hN
  refine ⟨hN, fun _ => by rw [hz, hs]; rfl, fun b hb => ?_⟩
  by_cases e : b = G.1
  · rw [e]; exact hc
  · have hb' : b < G.1 := by have : b < G.1 + 1 := hb; omega
    refine ((hh.2.2 b hb').kept (oq _ ?_)).congr (fun j => hk b j e)
    rw [bf_ad_lt E (by omega), hs]
    omega
theorem bf_S.put {E : bf_E} {H0 H H1 : Heap} {locs : List Loc} {a k : Nat} (h : va_S (bf_A E) H0 H locs) (z : H1.size = H.size) (oq : ∀ q : Nat, q ≠ bf_ad E a → H1[q]? = H[q]?) (ha : a < 57) : va_S (bf_A E) H0 H1 (locs ++ [⟨bf_ad E a, k⟩]) :=
  h.put z oq (by show E.1 ≤ bf_ad E a; rw [bf_ad_lt E (by omega)]; omega)
theorem bf_S.new {E : bf_E} {H0 H H1 : Heap} {locs : List Loc} (h : va_S (bf_A E) H0 H locs) (z : H1.size = H.size + 1) (oq : ∀ q : Nat, q < H.size → H1[q]? = H[q]?) : va_S (bf_A E) H0 H1 locs :=
  ⟨Nat.le_trans h.1 (by omega), fun q h1 h2 => (oq q (Nat.lt_of_lt_of_le h1 h.1)).trans (h.2.1 q h1 h2), h.2.2⟩
/-- locals -/
def bf_lr (E : bf_E) (nL : Nat) (L : bf_L) (ls : Array Slot) : Prop := ls.size = nL ∧ lv_wf ls ∧ L.length ≤ nL ∧ ∀ (i : Nat) (v : Value), L[i]? = some (some v) → ls[i]? = some (.val (bf_cv (bf_ad E) v))
def bf_lo (L : bf_L) (i : Nat) : Bool := match i with
  | 0 => true
  | k + 1 => match L[k]? with
    | some (some w) => w.category == 1
    | _ => true
def bf_s1 (L : bf_L) (i : Nat) (v : Value) : Option bf_L := bif Nat.blt i L.length && bf_lo L i then some (L.set i (some v)) else none
def bf_s2 (L : bf_L) (i : Nat) (v : Value) : Option bf_L := bif Nat.blt (i + 1) L.length && bf_lo L i then some ((L.set i (some v)).set (i + 1) none) else none
def bf_ll (ad : Nat → Nat) (L : bf_L) : List (Nat × Value) := L.zipIdx.filterMap fun q => q.1.map fun v => (q.2, bf_cv ad v)
theorem bf_ll_mem {ad : Nat → Nat} {L : bf_L} {i : Nat} {w : Value} : (i, w) ∈ bf_ll ad L ↔ ∃ v, L[i]? = some (some v) ∧ w = bf_cv ad v := by
  unfold bf_ll
  rw [List.mem_filterMap]
  constructor
  · rintro ⟨⟨o, k⟩, h1, h2⟩
    rw [List.mem_zipIdx_iff_getElem?] at h1
    cases o with
    | none => simp at h2
    | some v =>
      simp at h2
      obtain ⟨rfl, rfl⟩ := h2
      exact ⟨v, h1, rfl⟩
  · rintro ⟨v, h1, rfl⟩
    exact ⟨(some v, i), by rw [List.mem_zipIdx_iff_getElem?]; exact h1, rfl⟩
theorem bf_lr.has {E : bf_E} {nL : Nat} {L : bf_L} {ls : Array Slot} (h : bf_lr E nL L ls) : lv_has ls nL (bf_ll (bf_ad E) L) := by
  refine ⟨h.1, h.2.1, fun q hq => ?_⟩
  obtain ⟨i, w⟩ := q
  obtain ⟨v, h1, rfl⟩ := bf_ll_mem.mp hq
  exact h.2.2.2 i v h1
theorem bf_lo_cat {L : bf_L} {i k : Nat} {w : Value} (h : bf_lo L i = true) (hk : k + 1 = i) (hw : L[k]? = some (some w)) : w.category = 1 := by
  subst hk
  simp only [bf_lo, hw] at h
  simpa using h
theorem bf_st1 {E : bf_E} {nL : Nat} {L L' : bf_L} {ls ls' : Array Slot} {i : Nat} {v : Value} (h : bf_lr E nL L ls) (hs : bf_s1 L i v = some L') (hh : lv_has ls' nL ((i, bf_cv (bf_ad E) v) :: (bf_ll (bf_ad E) L).filter (fun q => !(q.1 == i) && !(q.1 + 1 == i && q.2.category == 2)))) : bf_lr E nL L' ls' := by
  unfold bf_s1 at hs
  cases hb : (Nat.blt i L.length && bf_lo L i) with
  | false => rw [hb] at hs; cases hs
  | true =>
    rw [hb] at hs
    simp only [Bool.and_eq_true] at hb
    have hi : i < L.length := Nat.le_of_ble_eq_true hb.1
    cases hs
    refine ⟨hh.1, hh.2.1, by simpa using h.2.2.1, fun k w hk => ?_⟩
    by_cases e : k = i
    · subst e
      rw [List.getElem?_set_self hi] at hk
      cases hk
      exact hh.2.2 (k, _) List.mem_cons_self
    · rw [List.getElem?_set_ne (Ne.symm e)] at hk
      refine hh.2.2 (k, bf_cv (bf_ad E) w) (List.mem_cons_of_mem _ (List.mem_filter.mpr ⟨bf_ll_mem.mpr ⟨w, hk, rfl⟩, ?_⟩))
      by_cases e2 : k + 1 = i
      · have := bf_lo_cat hb.2 e2 hk
        simp [e, bf_cat, this]
      · simp [e, e2]
theorem bf_st2 {E : bf_E} {nL : Nat} {L L' : bf_L} {ls ls' : Array Slot} {i : Nat} {v : Value} (h : bf_lr E nL L ls) (hs : bf_s2 L i v = some L') (hh : lv_has ls' nL ((i, bf_cv (bf_ad E) v) :: (bf_ll (bf_ad E) L).filter (fun q => !(q.1 == i) && (!(q.1 == i + 1) && !(q.1 + 1 == i && q.2.category == 2))))) : bf_lr E nL L' ls' := by
  unfold bf_s2 at hs
  cases hb : (Nat.blt (i + 1) L.length && bf_lo L i) with
  | false => rw [hb] at hs; cases hs
  | true =>
    rw [hb] at hs
    simp only [Bool.and_eq_true] at hb
    have hi : i + 1 < L.length := Nat.le_of_ble_eq_true hb.1
    cases hs
    refine ⟨hh.1, hh.2.1, by simpa using h.2.2.1, fun k w hk => ?_⟩
    by_cases e1 : k = i + 1
    · subst e1
      rw [List.getElem?_set_self (by simpa using hi)] at hk
      cases hk
    · rw [List.getElem?_set_ne (Ne.symm e1)] at hk
      by_cases e : k = i
      · subst e
        rw [List.getElem?_set_self (by omega)] at hk
        cases hk
        exact hh.2.2 (k, _) List.mem_cons_self
      · rw [List.getElem?_set_ne (Ne.symm e)] at hk
        refine hh.2.2 (k, bf_cv (bf_ad E) w) (List.mem_cons_of_mem _ (List.mem_filter.mpr ⟨bf_ll_mem.mpr ⟨w, hk, rfl⟩, ?_⟩))
        by_cases e2 : k + 1 = i
        · have := bf_lo_cat hb.2 e2 hk
          simp [e, e1, bf_cat, this]
        · simp [e, e1, e2]
theorem bf_s1_lt {L L' : bf_L} {i : Nat} {v : Value} (hs : bf_s1 L i v = some L') : i < L.length := by
  unfold bf_s1 at hs
  cases hb : (Nat.blt i L.length && bf_lo L i) with
  | false => rw [hb] at hs; cases hs
  | true =>
    simp only [Bool.and_eq_true] at hb
    exact Nat.le_of_ble_eq_true hb.1
theorem bf_s2_lt {L L' : bf_L} {i : Nat} {v : Value} (hs : bf_s2 L i v = some L') : i + 1 < L.length := by
  unfold bf_s2 at hs
  cases hb : (Nat.blt (i + 1) L.length && bf_lo L i) with
  | false => rw [hb] at hs; cases hs
  | true =>
    simp only [Bool.and_eq_true] at hb
    exact Nat.le_of_ble_eq_true hb.1
/-- what the tables say -/
def bf_nest : Cond → Bool
  | .fieldLinkNest .. => true
  | .methodLinkNest .. => true
  | _ => false
def bf_K (E : bf_E) (U : State) : Prop := va_K (E.2.2.2.1, E.2.2.2.2.1) vwCl [(E.2.2.2.2.2 9, .int), (E.2.2.2.2.2 10, .object RX3), (E.2.2.2.2.2 11, .object RX5)] U ∧ (∀ w ∈ lw_tbl, bf_nest w = true → va_Nw w U) ∧ va_AO RX3 U ∧ va_AO RX5 U
def bf_fig (j : Nat) : Int32 := ([63, 6, 91, 79, 102, 109, 125, 7, 127, 111] : List Int32).getD j 0
def bf_gre (j : Nat) : Int32 := ([1, 12, 127] : List Int32).getD j 0
def bf_ST (E : bf_E) (U : State) (H : Heap) : Prop := (va_Z RX0 "FIGURES" "[I" (.ref E.2.1) (bf_A E) U H ∧ va_T .int E.2.1 10 (fun j => .int (bf_fig j)) (bf_A E) U H) ∧ (va_Z RX7 "GREATEST" "[I" (.ref E.2.2.1) (bf_A E) U H ∧ va_T .int E.2.2.1 3 (fun j => .int (bf_gre j)) (bf_A E) U H)
theorem bf_Nw_warm {w : Cond} (hw : bf_nest w = true) {s U : State} (hW : s.WarmedH U.vm) (h : va_Nw w s) : va_Nw w U := by
  cases w with
  | fieldLinkNest a i b n d hh => exact va_Nw.warmF hW h
  | methodLinkNest a i x hh => exact va_Nw.warmM hW h
  | _ => cases hw
theorem bf_Nw_same {w : Cond} (hw : bf_nest w = true) {s U : State} (hW : s.vm = U.vm) (h : va_Nw w s) : va_Nw w U := by
  cases w with
  | fieldLinkNest a i b n d hh => exact va_Nw.same rfl hW h
  | methodLinkNest a i x hh => exact va_Nw.same rfl hW h
  | _ => cases hw
theorem bf_K.warm {E : bf_E} {s U : State} (hW : s.WarmedH U.vm) (h : bf_K E s) : bf_K E U :=
  ⟨va_K.moved hW.alike h.1, fun w hw hn => bf_Nw_warm hn hW (h.2.1 w hw hn), h.2.2.1.moved hW.alike, h.2.2.2.moved hW.alike⟩
theorem bf_K.same {E : bf_E} {s U : State} (hW : s.vm = U.vm) (h : bf_K E s) : bf_K E U :=
  have ha : s.vm.Alike U.vm := by rw [hW]; exact Vm.Alike.refl _
  ⟨va_K.moved ha h.1, fun w hw hn => bf_Nw_same hn hW (h.2.1 w hw hn), h.2.2.1.moved ha, h.2.2.2.moved ha⟩
theorem bf_ST.moved {E : bf_E} {s U : State} {H : Heap} (hW : s.vm.Alike U.vm) (h : bf_ST E s H) : bf_ST E U H :=
  ⟨⟨va_Z.moved hW h.1.1, va_T.moved hW h.1.2⟩, ⟨va_Z.moved hW h.2.1, va_T.moved hW h.2.2⟩⟩
theorem bf_ST.kept {E : bf_E} {s : State} {H H1 : Heap} (h : bf_ST E s H) (hq : ∀ a : Nat, a < H.size → ¬ bf_A E a → H1[a]? = H[a]?) : bf_ST E s H1 :=
  ⟨⟨h.1.1.kept hq, h.1.2.kept hq⟩, ⟨h.2.1.kept hq, h.2.2.kept hq⟩⟩
def bf_ws (y : bf_M) : List Cond := Cond.code y.1 y.2.1 y.2.2.1 y.2.2.2 :: lw_tbl.filter goodWord
def bf_rm (d N n' : Nat) : Room := { frames := d, cells := n' - N, slots := bf_SL n' - bf_SL N, locals := 60 * d }
def bf_Pc (E : bf_E) (vs : List Value) (G : bf_G) : Array Value → State → Prop := va_Pc (vs.map (bf_cv (bf_ad E))) (fun U => bf_HR E G U.heap ∧ bf_K E U ∧ bf_ST E U U.heap)
def bf_Qc (E : bf_E) (n' : Nat) (Post : bf_P) : Array Value → State → Outcome → State → Prop := fun _ st oc t => (∃ (r : Option Value) (G' : bf_G), oc = .returned (r.map (bf_cv (bf_ad E))) ∧ Post r G' ∧ G'.1 = n' ∧ bf_HR E G' t.heap) ∧ va_F (bf_A E) st t
def bf_MT (d : Nat) (y : bf_M) (vs : List Value) (G : bf_G) (n' : Nat) (Post : bf_P) : Prop := ∀ (l : Launch) (E : bf_E), Met l y.1 (bf_ws y) (bf_rm d G.1 n') (bf_Pc E vs G) (bf_Qc E n' Post) (n' - G.1) (bf_SL n' - bf_SL G.1) (bf_A E)
/-- links: what an index of a class's pool is -/
def bf_fl (own : String) (idx ci j : Nat) : Prop := ∃ q : vw_C, vwCl[ci]? = some q ∧ j < q.2.2 ∧ (q.2.1 j).1 = q.1 ∧ (Cond.fieldLink own idx q.1 (q.2.1 j).2.1 (q.2.1 j).2.2.1 ∈ lw_tbl ∨ ∃ host, Cond.fieldLinkNest own idx q.1 (q.2.1 j).2.1 (q.2.1 j).2.2.1 host ∈ lw_tbl)
def bf_fp (own : String) (idx ci j : Nat) : Prop := ∃ q : vw_C, vwCl[ci]? = some q ∧ j < q.2.2 ∧ (q.2.1 j).1 = q.1 ∧ (q.2.1 j).2.2.2 = false ∧ (q.2.1 j).2.2.1 = "I" ∧ (Cond.fieldLink own idx q.1 (q.2.1 j).2.1 (q.2.1 j).2.2.1 ∈ lw_tbl ∨ ∃ host, Cond.fieldLinkNest own idx q.1 (q.2.1 j).2.1 (q.2.1 j).2.2.1 host ∈ lw_tbl)
def bf_isR : FieldType → Bool
  | .object _ => true
  | .array _ => true
  | _ => false
def bf_ff (own : String) (idx ci j : Nat) : Prop := ∃ q : vw_C, vwCl[ci]? = some q ∧ j < q.2.2 ∧ (q.2.1 j).1 = q.1 ∧ q.1 = own ∧ (q.2.1 j).2.2.2 = true ∧ (∃ ty, parseFieldDescriptor (q.2.1 j).2.2.1 = some ty ∧ bf_isR ty = true) ∧ Cond.fieldLink own idx q.1 (q.2.1 j).2.1 (q.2.1 j).2.2.1 ∈ lw_tbl
def bf_li (own : String) (idx : Nat) (x : MethodName) : Prop := Cond.methodLink own idx x ∈ lw_tbl ∨ ∃ host, Cond.methodLinkNest own idx x host ∈ lw_tbl
def bf_mo (y : bf_M) (n : Nat) : Prop := Cond.code y.1 y.2.1 y.2.2.1 y.2.2.2 ∈ lw_tbl ∧ Cond.initialized y.1.cls ∈ lw_tbl ∧ plainName y.1.cls = true ∧ (y.1.cls ≠ "java/lang/invoke/MethodHandle" ∧ y.1.cls ≠ "java/lang/invoke/VarHandle" ∧ (parseMethodDescriptor y.1.desc).map (fun d => d.parameters.length) = some n) ∧ y.2.2.1 ≤ 30
def bf_mv (y : bf_M) (ci n : Nat) : Prop := bf_mo y n ∧ ∃ q : vw_C, vwCl[ci]? = some q ∧ Cond.instanceMethod y.1 ∈ lw_tbl ∧ Cond.selects q.1 y.1 y.1 ∈ lw_tbl
def bf_ms (y : bf_M) (n : Nat) : Prop := bf_mo y n ∧ Cond.static y.1 ∈ lw_tbl
def bf_mi (y : bf_M) (n : Nat) : Prop := bf_mo y n ∧ Cond.instanceMethod y.1 ∈ lw_tbl ∧ y.1.name = "<init>" ∧ y.2.2.2 = none
def bf_dv (ty : FieldType) : Value := defaultValue ty
def bf_nw (own : String) (idx ci : Nat) : Prop := ∃ q : vw_C, vwCl[ci]? = some q ∧ Cond.classLink own idx q.1 ∈ lw_tbl ∧ Cond.instantiable q.1 q.2.2 ∈ lw_tbl ∧ Cond.initialized q.1 ∈ lw_tbl
def bf_cls (ci : Nat) (q : vw_C) (ty0 : Nat → FieldType) : Prop := vwCl[ci]? = some q ∧ (∀ w ∈ u_ws q.1 q.2.1 q.2.2, w ∈ lw_tbl) ∧ (∀ k, k < q.2.2 → parseFieldDescriptor (q.2.1 k).2.2.1 = some (ty0 k)) ∧ (∀ a, a < q.2.2 → ∀ b, b < q.2.2 → a ≠ b → (q.2.1 a).2.1 ≠ (q.2.1 b).2.1)
def bf_dfl (ci : Nat) (f : Nat → Value) : Prop := ∃ (q : vw_C) (ty0 : Nat → FieldType), bf_cls ci q ty0 ∧ ∀ j, j < q.2.2 → defaultValue (ty0 j) = f j
