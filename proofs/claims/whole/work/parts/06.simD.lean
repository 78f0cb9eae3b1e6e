section bfD
variable {p : Program} {l : Launch} {e : Env} {R : Room} {s : State} {m : MethodId} {args : Array Value} {below : List Frame} {meth : Method} {c : Code} {E : bf_E} {nL N0 : Nat} {Q : State → Prop} {y : bf_M}
def bf_r_new (n' : Nat) (y : bf_M) (J : bf_J) : Prop := ∀ (pc : Nat) (L : bf_L) (S : List Value) (G : bf_G) (i ci n : Nat) (f : Nat → Value), decode y.2.1 pc = .ok (.new i, 3) → bf_nw y.1.cls i ci → bf_kd G.1 = (ci, n) → G.1 < n' → bf_dfl ci f → (∀ j, bf_cv (fun k => k) (f j) = f j ∧ ∀ k, f j ≠ .ref k) → J (pc + 3) L (.ref G.1 :: S) (G.1 + 1, bf_fill G.2 G.1 f) → J pc L S G
def bf_r_newa (n' : Nat) (y : bf_M) (J : bf_J) : Prop := ∀ (pc : Nat) (L : bf_L) (S : List Value) (G : bf_G) (n : Nat) (v : Int32), decode y.2.1 pc = .ok (.newarray .int, 2) → bf_kd G.1 = (9, n) → n ≤ 1000 → v = Int32.ofNat n → G.1 < n' → J (pc + 2) L (.ref G.1 :: S) (G.1 + 1, bf_fill G.2 G.1 (fun _ => .int 0)) → J pc L (.int v :: S) G
def bf_r_anew (n' : Nat) (y : bf_M) (J : bf_J) : Prop := ∀ (pc : Nat) (L : bf_L) (S : List Value) (G : bf_G) (i ci n : Nat) (v : Int32), decode y.2.1 pc = .ok (.anewarray i, 3) → ((ci = 10 ∧ Cond.classLink y.1.cls i RX3 ∈ lw_tbl) ∨ (ci = 11 ∧ Cond.classLink y.1.cls i RX5 ∈ lw_tbl)) → bf_kd G.1 = (ci, n) → n ≤ 1000 → v = Int32.ofNat n → G.1 < n' → J (pc + 3) L (.ref G.1 :: S) (G.1 + 1, bf_fill G.2 G.1 (fun _ => .null)) → J pc L (.int v :: S) G
def bf_r_aast (y : bf_M) (J : bf_J) : Prop := ∀ (pc : Nat) (L : bf_L) (S : List Value) (G : bf_G) (a b ci n : Nat) (i : Int32), decode y.2.1 pc = .ok (.aastore, 1) → bf_kd a = (ci, n) → ((ci = 10 ∧ (bf_kd b).1 = 3) ∨ (ci = 11 ∧ (bf_kd b).1 = 5)) → a < G.1 → b < G.1 → vp_in i n → J (pc + 1) L S (G.1, bf_up G.2 a i.toNatClampNeg (.ref b)) → J pc L (.ref b :: .int i :: .ref a :: S) G
def bf_r_acopy (y : bf_M) (J : bf_J) : Prop := ∀ (pc : Nat) (L : bf_L) (S : List Value) (G : bf_G) (i a0 a1 n0 n1 : Nat) (f g : Nat → Int32) (sp dp n : Int32), decode y.2.1 pc = .ok (.invokestatic i, 3) → Cond.methodLink y.1.cls i arraycopyName ∈ lw_tbl → bf_kd a0 = (9, n0) → bf_kd a1 = (9, n1) → a0 < G.1 → a1 < G.1 → (∀ j, G.2 a0 j = .int (f j)) → (∀ j, G.2 a1 j = .int (g j)) → ¬ sp < 0 → ¬ dp < 0 → ¬ n < 0 → sp.toNatClampNeg + n.toNatClampNeg ≤ n0 → dp.toNatClampNeg + n.toNatClampNeg ≤ n1 → (S.map Value.category).sum ≤ 8 → J (pc + 3) L S (G.1, bf_fill G.2 a1 (fun j => .int (va_cpy f g sp.toNatClampNeg dp.toNatClampNeg n.toNatClampNeg j))) → J pc L (.int n :: .int dp :: .ref a1 :: .int sp :: .ref a0 :: S) G
def bf_r_putF (y : bf_M) (J : bf_J) : Prop := ∀ (pc : Nat) (L : bf_L) (S : List Value) (G : bf_G) (i ci j a b : Nat), decode y.2.1 pc = .ok (.putfield i, 3) → bf_ff y.1.cls i ci j → y.1.name = "<init>" → (bf_kd a).1 = ci → a < G.1 → J (pc + 3) L S (G.1, bf_up G.2 a j (.ref b)) → J pc L (.ref b :: .ref a :: S) G
def bf_r_iret (n' : Nat) (Post : bf_P) (y : bf_M) (J : bf_J) : Prop := ∀ (pc : Nat) (L : bf_L) (G : bf_G) (v : Int32) (ty : FieldType), decode y.2.1 pc = .ok (.ireturn, 1) → y.2.2.2 = some ty → narrow ty (.int v) = .int v → G.1 = n' → Post (some (.int v)) G → J pc L [.int v] G
def bf_r_lret (n' : Nat) (Post : bf_P) (y : bf_M) (J : bf_J) : Prop := ∀ (pc : Nat) (L : bf_L) (G : bf_G) (v : Int64), decode y.2.1 pc = .ok (.lreturn, 1) → y.2.2.2 = some .long → G.1 = n' → Post (some (.long v)) G → J pc L [.long v] G
def bf_r_vret (n' : Nat) (Post : bf_P) (y : bf_M) (J : bf_J) : Prop := ∀ (pc : Nat) (L : bf_L) (G : bf_G), decode y.2.1 pc = .ok (.return_, 1) → y.2.2.2 = none → G.1 = n' → Post none G → J pc L [] G
def bf_r_mmax (n' : Nat) (y : bf_M) (J : bf_J) : Prop := ∀ (pc : Nat) (L : bf_L) (S : List Value) (G : bf_G) (i : Nat) (x z : Int32), decode y.2.1 pc = .ok (.invokestatic i, 3) → Cond.methodLink y.1.cls i Lib.Math.max.name ∈ lw_tbl → G.1 ≤ n' → (S.map Value.category).sum ≤ 8 → J (pc + 3) L (.int (if x < z then z else x) :: S) G → J pc L (.int z :: .int x :: S) G
def bf_r_mmin (n' : Nat) (y : bf_M) (J : bf_J) : Prop := ∀ (pc : Nat) (L : bf_L) (S : List Value) (G : bf_G) (i : Nat) (x z : Int32), decode y.2.1 pc = .ok (.invokestatic i, 3) → Cond.methodLink y.1.cls i Lib.Math.min.name ∈ lw_tbl → G.1 ≤ n' → (S.map Value.category).sum ≤ 8 → J (pc + 3) L (.int (if z < x then z else x) :: S) G → J pc L (.int z :: .int x :: S) G
theorem bf_cv_id {ad : Nat → Nat} {v : Value} (h : ∀ k, v ≠ .ref k) : bf_cv ad v = v := by
  cases v with
  | ref k => exact absurd rfl (h k)
  | _ => rfl
theorem bf_slots1 {C : bf_CR} {d n' : Nat} {G : bf_G} {n : Nat} (Y : bf_Y R C d n' N0) (hN : N0 ≤ G.1) (hlt : G.1 < n') (hn : (bf_kd G.1).2 = n) : G.1 - N0 + 1 ≤ R.cells ∧ bf_SL G.1 - bf_SL N0 + n ≤ R.slots ∧ G.1 - N0 + 1 = (G.1 + 1) - N0 ∧ bf_SL G.1 - bf_SL N0 + n = bf_SL (G.1 + 1) - bf_SL N0 := by
  have h1 := bf_cellsH (n1 := G.1 + 1) Y hN (Nat.le_succ _) hlt
  have e : bf_SL (G.1 + 1) = bf_SL G.1 + n := by rw [← hn]; rfl
  have a1 := bf_SL_le hN
  rw [e] at h1 ⊢
  refine ⟨?_, ?_, ?_, ?_⟩ <;> omega
theorem jw_new {C : bf_CR} {d n' : Nat} (X : bf_X p s m args c E nL y) (Y : bf_Y R C d n' N0) : bf_r_new n' y (bf_JW p l e R s m args below meth c E nL N0 Q) := by
  intro pc L S G i ci n f dd hw hk hlt hdf hid k
  intro H locs ls hH hS hl hN
  obtain ⟨q, hq, w1, w2, w3⟩ := hw
  obtain ⟨q', ty0, ⟨hq', hin, hty, hnm⟩, hdv⟩ := hdf
  cases hq.symm.trans hq'
  have hci : ci < 9 := (List.getElem?_eq_some_iff.mp hq).1
  have h57 : G.1 < 57 := Nat.lt_of_lt_of_le hlt Y.2.2.2.2.1
  have hsz := hH.2.1 h57
  have hn : n = q.2.2 := by have := bf_kd_sz (a := G.1) (by rw [hk]) hq h57; rw [hk] at this; exact this
  have hKn := X.2.2.2.2.2.1.1.1 ci _ hq
  have hts := fun w hw => X.2.2.2.2.1 w (hin w hw) (bf_gw hw)
  obtain ⟨c1, c2, c3, c4⟩ := bf_slots1 (n := q.2.2) Y hN hlt (by rw [hk]; exact hn)
  have had : bf_ad E G.1 = H.size := by rw [bf_ad_lt E (by omega), hsz]
  refine W.newcK X.1 X.2.1 X.2.2.2.1 (X.2.2.2.2.1 _ w1 rfl) (X.2.2.2.2.1 _ w2 rfl) (X.2.2.2.2.1 _ w3 rfl) rfl dd c1 c2 hKn.2.1 rfl fun H1 kC hkC e1 z1 o1 => ?_
  rw [c3, c4]
  have := k H1 locs ls (hH.new h57 z1 o1 ?_ (fun b j hb => by simp [bf_fill, hb])) (bf_S.new hS z1 o1) hl (by show N0 ≤ G.1 + 1; omega)
  · rw [← had]
    exact this
  · unfold bf_C
    rw [hk, if_pos hci, had]
    refine (u_born (s := s) (args := args) (ws := u_ws q.1 q.2.1 q.2.2) ty0 hts (fun w h => h) hKn hkC e1 hty).to (N := q.2.2) (fun j hj => ?_) |> fun z => by rw [hn]; exact z
    rw [hdv j hj]
    simp only [bf_fill, if_pos]
    exact (bf_cv_id (hid j).2).symm
theorem jw_newa {C : bf_CR} {d n' : Nat} (X : bf_X p s m args c E nL y) (Y : bf_Y R C d n' N0) : bf_r_newa n' y (bf_JW p l e R s m args below meth c E nL N0 Q) := by
  intro pc L S G n v dd hk hn hv hlt k
  intro H locs ls hH hS hl hN
  have h57 : G.1 < 57 := Nat.lt_of_lt_of_le hlt Y.2.2.2.2.1
  have hsz := hH.2.1 h57
  obtain ⟨c1, c2, c3, c4⟩ := bf_slots1 (n := n) Y hN hlt (by rw [hk])
  have had : bf_ad E G.1 = H.size := by rw [bf_ad_lt E (by omega), hsz]
  subst hv
  have hcl : (Int32.ofNat n).toNatClampNeg = n := nI_clamp (by omega)
  refine va_newaK (atype := .int) (N := n) X.1 X.2.1 (X.2.2.2.2.1 _ (bf_mt 53 (by decide +kernel)) rfl) rfl dd rfl (nI_pos (by omega)) hcl (by show n * 4 ≤ _; omega) c1 c2 rfl fun H1 cA1 e1 z1 o1 hA hNm => ?_
  rw [c3, c4]
  have hcA : cA1 = E.2.2.2.2.2 9 := Option.some.inj (hNm.symm.trans (X.2.2.2.2.2.1.1.2 0 _ rfl).2)
  subst hcA
  have := k H1 locs ls (hH.new h57 z1 o1 ?_ (fun b j hb => by simp [bf_fill, hb])) (bf_S.new hS z1 o1) hl (by show N0 ≤ G.1 + 1; omega)
  · rw [← had]
    exact this
  · unfold bf_C
    rw [hk, if_neg (by simp), had, e1]
    simp [bf_fill, bf_cv]
    rfl
theorem jw_anew {C : bf_CR} {d n' : Nat} (X : bf_X p s m args c E nL y) (Y : bf_Y R C d n' N0) : bf_r_anew n' y (bf_JW p l e R s m args below meth c E nL N0 Q) := by
  intro pc L S G i ci n v dd hw hk hn hv hlt k
  intro H locs ls hH hS hl hN
  have h57 : G.1 < 57 := Nat.lt_of_lt_of_le hlt Y.2.2.2.2.1
  have hsz := hH.2.1 h57
  obtain ⟨c1, c2, c3, c4⟩ := bf_slots1 (n := n) Y hN hlt (by rw [hk])
  have had : bf_ad E G.1 = H.size := by rw [bf_ad_lt E (by omega), hsz]
  subst hv
  have hcl : (Int32.ofNat n).toNatClampNeg = n := nI_clamp (by omega)
  have fin : ∀ cA1 : ClassId, cA1 = E.2.2.2.2.2 ci → ¬ ci < 9 → W p l e R s m args below meth c (H.push { cls := cA1, slots := Array.replicate (Int32.ofNat n).toNatClampNeg .null, vm := .none }) locs (G.1 - N0 + 1) (bf_SL G.1 - bf_SL N0 + (Int32.ofNat n).toNatClampNeg) Q (F0 m (pc + 3) ls (.ref H.size :: S.map (bf_cv (bf_ad E)))) := by
    intro cA1 hcA hc9
    rw [hcl, c3, c4]
    have o1 : ∀ q : Nat, q < H.size → (H.push ({ cls := cA1, slots := Array.replicate n .null, vm := .none } : Cell))[q]? = H[q]? := fun q hq => by rw [Array.getElem?_push, if_neg (Nat.ne_of_lt hq)]
    have := k (H.push { cls := cA1, slots := Array.replicate n .null, vm := .none }) locs ls (hH.new h57 (Array.size_push ..) o1 ?_ (fun b j hb => by simp [bf_fill, hb])) (bf_S.new hS (Array.size_push ..) o1) hl (by show N0 ≤ G.1 + 1; omega)
    · rw [← had]
      exact this
    · unfold bf_C
      rw [hk, if_neg (by simpa using hc9), had, Array.getElem?_push_size, ← hcA]
      simp only [bf_fill, if_pos, bf_cv]
      rw [arrV_new]
  rcases hw with ⟨rfl, hw⟩ | ⟨rfl, hw⟩
  · refine W.anew X.1 X.2.1 X.2.2.2.1 (X.2.2.2.2.1 _ hw rfl) (va_AO.use X.2.2.2.2.2.1.2.2.1) rfl dd rfl (nI_pos (by omega)) (by rw [hcl]; omega) c1 (by rw [hcl]; exact c2) fun cA1 kA comp f1 f2 f3 f4 => fin cA1 ?_ (by decide)
    obtain ⟨kA', comp', -, -, -, h4⟩ := (X.2.2.2.2.2.1.1.2 1 _ rfl).2
    exact Option.some.inj (f1.symm.trans h4)
  · refine W.anew X.1 X.2.1 X.2.2.2.1 (X.2.2.2.2.1 _ hw rfl) (va_AO.use X.2.2.2.2.2.1.2.2.2) rfl dd rfl (nI_pos (by omega)) (by rw [hcl]; omega) c1 (by rw [hcl]; exact c2) fun cA1 kA comp f1 f2 f3 f4 => fin cA1 ?_ (by decide)
    obtain ⟨kA', comp', -, -, -, h4⟩ := (X.2.2.2.2.2.1.1.2 2 _ rfl).2
    exact Option.some.inj (f1.symm.trans h4)
theorem jw_aast (X : bf_X p s m args c E nL y) : bf_r_aast y (bf_JW p l e R s m args below meth c E nL N0 Q) := by
  intro pc L S G a b ci n i dd hk hc ha hb hi k
  intro H locs ls hH hS hl hN
  have hlt : i.toNatClampNeg < n := Nat.not_le.mp fun q => hi (Or.inr q)
  have h0 : ¬ i < 0 := fun q => hi (Or.inl q)
  have hcc := (hH.2.2 a ha).arr hk (by omega)
  have fin : ∀ (cb : Nat) (q : vw_C) (t0 : Nat), (bf_kd b).1 = cb → vwCl[cb]? = some q → ([(E.2.2.2.2.2 9, FieldType.int), (E.2.2.2.2.2 10, .object RX3), (E.2.2.2.2.2 11, .object RX5)] : List (ClassId × FieldType))[t0]? = some (E.2.2.2.2.2 ci, .object q.1) → W p l e R s m args below meth c H locs (G.1 - N0) (bf_SL G.1 - bf_SL N0) Q (F0 m pc ls ((Value.ref b :: .int i :: .ref a :: S).map (bf_cv (bf_ad E)))) := by
    intro cb q t0 hkb hq ht
    have hcb : cb < 9 := (List.getElem?_eq_some_iff.mp hq).1
    obtain ⟨cellV, g1, g2, g3, -⟩ := (hH.2.2 b hb).obj hkb hcb
    have hcls := (X.2.2.2.2.2.1.1.1 cb _ hq).2
    obtain ⟨kA, comp, k1, k2, k3, -⟩ := (X.2.2.2.2.2.1.1.2 t0 _ ht).2
    have hcomp : comp = E.2.2.2.1 cb := Option.some.inj (k3.symm.trans hcls.1)
    subst hcomp
    obtain ⟨kC, hkC, -⟩ := id hcls.2
    refine W.aast X.1 X.2.1 hcc (fun q h => by cases h) (fun h => by cases h) k1 k2 rfl hkC ⟨h0, by rw [arrV_size]; exact hlt⟩ g1 (fun q h => by rw [g3] at h; cases h) (by rw [g2]; exact hkC) (by rw [g2]; exact va_assign hcls) rfl rfl dd fun H1 e1 z1 o1 => ?_
    refine k H1 _ ls (hH.put ha z1 o1 ?_ (fun b j hb => by simp [bf_up, hb])) (bf_S.put hS z1 o1 (Nat.lt_of_lt_of_le ha hH.1)) hl hN
    unfold bf_C
    rw [hk, if_neg (show ¬ ci < 9 by omega), e1, arrV_store]
    congr 2
    funext j
    by_cases hj : j = i.toNatClampNeg
    · simp [updV, bf_up, hj, bf_cv]
    · simp [updV, bf_up, hj]
  rcases hc with ⟨rfl, hb3⟩ | ⟨rfl, hb5⟩
  · exact fin 3 _ 1 hb3 rfl rfl
  · exact fin 5 _ 2 hb5 rfl rfl
theorem jw_acopy {C : bf_CR} {d n' : Nat} (X : bf_X p s m args c E nL y) (Y : bf_Y R C d n' N0) : bf_r_acopy y (bf_JW p l e R s m args below meth c E nL N0 Q) := by
  intro pc L S G i a0 a1 n0 n1 f g sp dp n dd hw hk0 hk1 ha0 ha1 hf hg h1 h2 h3 h4 h5 hsum k
  intro H locs ls hH hS hl hN
  have hc0 : H[bf_ad E a0]? = some (vp_cell (E.2.2.2.2.2 9) (n0, .inl f)) := by
    rw [(hH.2.2 a0 ha0).arr hk0 (by decide), vp_cell_i]
    congr 2
    funext j
    rw [hf j]
    rfl
  have hc1 : H[bf_ad E a1]? = some (vp_cell (E.2.2.2.2.2 9) (n1, .inl g)) := by
    rw [(hH.2.2 a1 ha1).arr hk1 (by decide), vp_cell_i]
    congr 2
    funext j
    rw [hg j]
    rfl
  have nn : ∀ z : Int32, ¬ z < 0 → z.toInt = (z.toNatClampNeg : Int) := by
    intro z hz
    have hz0 : (0 : Int) ≤ z.toInt := by
      have := Int32.not_lt.mp hz
      simpa using Int32.le_iff_toInt_le.mp this
    show z.toInt = ((z.toInt.toNat : Nat) : Int)
    omega
  have hKI := (X.2.2.2.2.2.1.1.2 0 _ rfl).1
  intro T hT XX
  obtain ⟨-, k0, hkk0, cm0, hkd0⟩ := hKI n0 (fun j => .int (f j))
  have hlocals : ((S.map (bf_cv (bf_ad E))).map fun v => v.category).sum + (nativeFrameWords "java/lang/System" "arraycopy" 5 + 11) ≤ R.locals := by
    rw [bf_cat_sum]
    have := Y.2.1
    have e : nativeFrameWords "java/lang/System" "arraycopy" 5 + 11 ≤ 50 := by decide +kernel
    omega
  obtain ⟨vm', X', step⟩ := XX.arraycopy X.1 X.2.2.2.1 (X.2.2.2.2.1 _ hw rfl) (X.2.2.2.2.1 _ (bf_mt 523 (by decide +kernel)) rfl) (X.2.2.2.2.1 _ (bf_mt 522 (by decide +kernel)) rfl) (X.2.2.2.2.1 _ (bf_mt 13 (by decide +kernel)) rfl) (src := bf_ad E a0) (dst := bf_ad E a1) (cs := vp_cell (E.2.2.2.2.2 9) (n0, .inl f)) (cd := vp_cell (E.2.2.2.2.2 9) (n1, .inl g)) (srcPos := sp) (destPos := dp) (n := n) (by rw [hT]; exact hc0) (by rw [hT]; exact hc1)
    (fun _ h => by cases h) (fun _ h => by cases h) (fun h => by cases h) (fun h => by cases h) hkk0 hkk0 hkd0 hkd0 (by simp [refKind]) h1 h2 h3
    (by rw [nn sp h1, nn n h3]; show ¬ _ > ((arrV _ n0 (fun j => .int (f j))).slots.size : Int); rw [arrV_size]; omega)
    (by rw [nn dp h2, nn n h3]; show ¬ _ > ((arrV _ n1 (fun j => .int (g j))).slots.size : Int); rw [arrV_size]; omega)
    (fun vm₁ _ i hi => by
      have e : (vp_cell (E.2.2.2.2.2 9) (n0, .inl f)).slots.getD (sp.toNatClampNeg + i) .null = .int (f (sp.toNatClampNeg + i)) := by
        show (arrV _ n0 (fun j => .int (f j))).slots.getD _ _ = _
        rw [Array.getD_eq_getD_getElem?, arrV_read _ _ (by omega)]
        rfl
      refine ⟨?_, ?_⟩
      · rw [e]
        rfl
      · rw [e]
        exact trivial)
    (g := F0 m pc ls ((Value.int n :: .int dp :: .ref a1 :: .int sp :: .ref a0 :: S).map (bf_cv (bf_ad E)))) rfl (hl.1.trans X.2.2.1.symm) (rest := S.map (bf_cv (bf_ad E))) rfl (by rw [X.2.1]; exact dd) (by have := Y.1; omega) (by show 2 * 0 + _ + _ ≤ _; omega)
  have e1 : copied (vp_cell (E.2.2.2.2.2 9) (n0, .inl f)) (vp_cell (E.2.2.2.2.2 9) (n1, .inl g)) sp dp n = vp_cell (E.2.2.2.2.2 9) (n1, .inl (va_cpy f g sp.toNatClampNeg dp.toNatClampNeg n.toNatClampNeg)) := va_copied (fun z => .int z) _ _ f g h4
  rw [e1] at X' step
  have hlt : bf_ad E a1 < H.size := (Array.getElem?_eq_some_iff.mp hc1).1
  have hheap : ((T.setVm vm').setCell (bf_ad E a1) (vp_cell (E.2.2.2.2.2 9) (n1, .inl (va_cpy f g sp.toNatClampNeg dp.toNatClampNeg n.toNatClampNeg)))).heap = H.setIfInBounds (bf_ad E a1) (vp_cell (E.2.2.2.2.2 9) (n1, .inl (va_cpy f g sp.toNatClampNeg dp.toNatClampNeg n.toNatClampNeg))) := by rw [← hT]; rfl
  have oq : ∀ q : Nat, q ≠ bf_ad E a1 → (H.setIfInBounds (bf_ad E a1) (vp_cell (E.2.2.2.2.2 9) (n1, .inl (va_cpy f g sp.toNatClampNeg dp.toNatClampNeg n.toNatClampNeg))))[q]? = H[q]? := fun q hq => by simp [Array.getElem?_setIfInBounds, Ne.symm hq]
  have hbA : E.1 ≤ bf_ad E a1 := by rw [bf_ad_lt E (by have := hH.1; omega)]; omega
  obtain ⟨t, r1, r2⟩ := k _ _ ls (hH.put ha1 (by simp) oq (by
      unfold bf_C
      rw [hk1, if_neg (by simp)]
      simp only [Array.getElem?_setIfInBounds, hlt]
      simp [bf_fill, bf_cv, vp_cell_i]) (fun b j hb => by simp [bf_fill, hb])) ⟨by simp; exact hS.1, fun q g1 g2 => by
      rw [oq q (fun e => g2 (by rw [e]; exact hbA))]
      exact hS.2.1 q g1 g2, fun q hq => by
      rcases List.mem_append.mp hq with h | h
      · exact hS.2.2 q h
      · obtain ⟨z, -, hz⟩ := List.mem_map.mp h
        rw [← hz]
        exact hbA⟩ hl hN _ hheap X'
  exact ⟨t, step t r1, r2⟩
theorem jw_putF (X : bf_X p s m args c E nL y) (hnm : meth.name = y.1.name) : bf_r_putF y (bf_JW p l e R s m args below meth c E nL N0 Q) := by
  intro pc L S G i ci j a b dd hf hy hk ha k
  intro H locs ls hH hS0 hl hN
  obtain ⟨q, hq, hj, hd, hown, hfin, ⟨ty, hty0, htR⟩, hw⟩ := hf
  have hci : ci < 9 := (List.getElem?_eq_some_iff.mp hq).1
  obtain ⟨cell, q1, q2, q3, q4⟩ := (hH.2.2 a ha).obj hk hci
  obtain ⟨ty0, hin, hty, hnm2⟩ := bf_cls_of hq
  have hts := fun w hw => X.2.2.2.2.1 w (hin w hw) (bf_gw hw)
  have hn : (bf_kd a).2 = q.2.2 := bf_kd_sz hk hq (Nat.lt_of_lt_of_le ha hH.1)
  obtain ⟨hS, hfc, kC, hkC, hkind⟩ := X.2.2.2.2.2.1.1.1 ci _ hq
  obtain ⟨cf, kf, fi, f, hi, hsl⟩ := hS j hj
  have hst := (u_facts hfc hkC (u_lays (ws := u_ws q.1 q.2.1 q.2.2) hts (fun w h => h) hj) hi).1
  have hlay := hts _ (u_in_lay (C := q.1) (T := q.2.1) hj)
  unfold u_lay at hlay
  rw [if_pos hfin] at hlay
  have hcf : m.cls = cf := by
    obtain ⟨_, _, c', _, _, _, -, -, hf', -, -, -, hown2, -⟩ := Cond.laysFinal_spec hlay
    have e1 : c' = cf := by have := hi.symm.trans hf'; simp at this; exact this.1.symm
    rw [hd, hown] at hown2
    rw [← e1]; exact Option.some.inj (X.2.2.2.1.symm.trans hown2)
  have hnar : narrow ty (.ref (bf_ad E b)) = .ref (bf_ad E b) := by cases ty <;> first | rfl | cases htR
  have hfit : fits ty (.ref (bf_ad E b)) = true := by cases ty <;> first | rfl | cases htR
  have h6 := u_fits (v := .ref (bf_ad E b)) hfc hkC hkind (Or.inr hlay) hi hty0 hnar hfit
  have hi2 : s.fieldFound? q.1 (q.2.1 j).2.1 (q.2.1 j).2.2.1 = some (cf, kf, fi, f) := by rw [← hd]; exact hi
  have hlt : f.slot < cell.slots.size := by rw [hsl]; exact k2_hasslot (q4 j (by rw [hn]; exact hj))
  refine W.putFinK X.1 X.2.1 X.2.2.2.1 (X.2.2.2.2.1 _ hw rfl) hi2 hst hcf (hnm.trans hy) (by rw [q2]; exact h6) q1 q3 hlt rfl rfl dd fun H1 e1 z1 o1 => ?_
  refine k H1 _ ls (hH.put ha z1 o1 ?_ (fun b j hb => by simp [bf_up, hb])) (bf_S.put hS0 z1 o1 (Nat.lt_of_lt_of_le ha hH.1)) hl hN
  rw [hsl] at e1
  exact bf_obj_set (v := .ref b) X ⟨hq, hin, hty, hnm2⟩ hk hci ha hH hj q2 q3 q4 e1
theorem jw_mmax {C : bf_CR} {d n' : Nat} (X : bf_X p s m args c E nL y) (Y : bf_Y R C d n' N0) : bf_r_mmax n' y (bf_JW p l e R s m args below meth c E nL N0 Q) := by
  intro pc L S G i x z dd hw hle hsum k
  intro H locs ls hH hS hl hN
  have hcells := bf_cellsH Y hN (Nat.le_refl _) hle
  have h1 := Y.1
  have h2 := Y.2.1
  exact va_mmax X.1 X.2.1 (X.2.2.1.trans hl.1.symm) X.2.2.2.1 (X.2.2.2.2.1 _ hw rfl) (X.2.2.2.2.1 _ (bf_mt 266 (by decide +kernel)) rfl) (X.2.2.2.2.1 _ (bf_mt 11 (by decide +kernel)) rfl) (X.2.2.2.2.1 _ (bf_mt 267 (by decide +kernel)) rfl) (by omega) (by rw [bf_cat_sum]; omega) (by have := hcells.1.1; omega) (by have := hcells.1.2; omega) dd (k H locs ls hH hS hl hN)
theorem jw_mmin {C : bf_CR} {d n' : Nat} (X : bf_X p s m args c E nL y) (Y : bf_Y R C d n' N0) : bf_r_mmin n' y (bf_JW p l e R s m args below meth c E nL N0 Q) := by
  intro pc L S G i x z dd hw hle hsum k
  intro H locs ls hH hS hl hN
  have hcells := bf_cellsH Y hN (Nat.le_refl _) hle
  have h1 := Y.1
  have h2 := Y.2.1
  exact va_mmin X.1 X.2.1 (X.2.2.1.trans hl.1.symm) X.2.2.2.1 (X.2.2.2.2.1 _ hw rfl) (X.2.2.2.2.1 _ (bf_mt 263 (by decide +kernel)) rfl) (X.2.2.2.2.1 _ (bf_mt 11 (by decide +kernel)) rfl) (X.2.2.2.2.1 _ (bf_mt 264 (by decide +kernel)) rfl) (by omega) (by rw [bf_cat_sum]; omega) (by have := hcells.1.1; omega) (by have := hcells.1.2; omega) dd (k H locs ls hH hS hl hN)
end bfD
