def bf_Ru2 (C : bf_CR) (n' : Nat) (y : bf_M) (J : bf_J) : Prop := bf_r_callv C n' y J ∧ bf_r_calls C n' y J ∧ bf_r_calli C n' y J ∧ bf_r_obj y J ∧ bf_r_new n' y J ∧ bf_r_newa n' y J ∧ bf_r_anew n' y J ∧ bf_r_aast y J ∧ bf_r_acopy y J ∧ bf_r_mmax n' y J ∧ bf_r_mmin n' y J
def bf_Ru3 (n' : Nat) (Post : bf_P) (y : bf_M) (J : bf_J) : Prop := bf_r_putF y J ∧ bf_r_iret n' Post y J ∧ bf_r_lret n' Post y J ∧ bf_r_vret n' Post y J
/-- all rules of a method's walk -/
def bf_All (C : bf_CR) (n' : Nat) (Post : bf_P) (y : bf_M) (J : bf_J) : Prop := bf_Ru y J ∧ bf_Ru2 C n' y J ∧ bf_Ru3 n' Post y J
def bf_sl : List Value → bf_L
  | [] => []
  | v :: vs => match v.category with
    | 2 => some v :: none :: bf_sl vs
    | _ => some v :: bf_sl vs
def bf_ini (nL : Nat) (vs : List Value) : bf_L := bf_sl vs ++ List.replicate (nL - (bf_sl vs).length) none
/-- a call, to a depth: whatever obeys the rules, holds at the method's entry -/
def bf_Cl : Nat → bf_CR
  | 0 => fun _ _ _ _ _ => False
  | d + 1 => fun y vs G n' Post => (Cond.code y.1 y.2.1 y.2.2.1 y.2.2.2 ∈ lw_tbl ∧ plainName y.1.cls = true) ∧ G.1 ≤ n' ∧ n' ≤ 57 ∧ (bf_sl vs).length ≤ y.2.2.1 ∧ ∀ J : bf_J, bf_All (bf_Cl d) n' Post y J → J 0 (bf_ini y.2.2.1 vs) [] G
theorem bf_sl_len (ad : Nat → Nat) (vs : List Value) : (lg_sl (vs.map (bf_cv ad))).length = (bf_sl vs).length := by
  induction vs with
  | nil => rfl
  | cons v vs ih =>
    have h := bf_cat ad v
    simp only [lg_sl, List.map_cons, List.flatMap_cons, List.length_append] at ih ⊢
    rw [ih]
    rcases lv_cat v with hc | hc
    · simp only [h, hc, bf_sl]
      simp
      omega
    · simp only [h, hc, bf_sl]
      simp
      omega
theorem bf_sl_mem (ad : Nat → Nat) : ∀ (vs : List Value) (k i : Nat) (v : Value), (bf_sl vs)[i]? = some (some v) → (k + i, bf_cv ad v) ∈ lv_args k (vs.map (bf_cv ad)) := by
  intro vs
  induction vs with
  | nil => intro k i v h; simp [bf_sl] at h
  | cons w vs ih =>
    intro k i v h
    have hcat := bf_cat ad w
    rcases lv_cat w with hc | hc
    · simp only [bf_sl, hc] at h
      simp only [List.map_cons, lv_args, hcat, hc]
      cases i with
      | zero => simp at h; subst h; exact List.mem_cons_self
      | succ i =>
        rw [List.getElem?_cons_succ] at h
        have := ih (k + 1) i v h
        rw [show k + (i + 1) = k + 1 + i by omega]
        exact List.mem_cons_of_mem _ (by simpa using this)
    · simp only [bf_sl, hc] at h
      simp only [List.map_cons, lv_args, hcat, hc]
      cases i with
      | zero => simp at h; subst h; exact List.mem_cons_self
      | succ i =>
        rw [List.getElem?_cons_succ] at h
        cases i with
        | zero => simp at h
        | succ i =>
          rw [List.getElem?_cons_succ] at h
          have := ih (k + 2) i v h
          rw [show k + (i + 1 + 1) = k + 2 + i by omega]
          exact List.mem_cons_of_mem _ (by simpa using this)
theorem bf_lr_entry (E : bf_E) {nL : Nat} {vs : List Value} (h : (bf_sl vs).length ≤ nL) : bf_lr E nL (bf_ini nL vs) ((lg_sl (vs.map (bf_cv (bf_ad E))) ++ List.replicate (nL - (lg_sl (vs.map (bf_cv (bf_ad E)))).length) Slot.unset).toArray) := by
  have hl := lv_entry (vs.map (bf_cv (bf_ad E))) (n := nL) (by rw [bf_sl_len]; exact h)
  refine ⟨hl.1, hl.2.1, ?_, fun i v hi => ?_⟩
  · simp [bf_ini]; omega
  · refine hl.2.2 (i, _) ?_
    have h2 : (bf_sl vs)[i]? = some (some v) := by
      unfold bf_ini at hi
      by_cases hlt : i < (bf_sl vs).length
      · rw [List.getElem?_append_left hlt] at hi; exact hi
      · rw [List.getElem?_append_right (by omega), List.getElem?_replicate] at hi
        split at hi
        · cases hi
        · cases hi
    have := bf_sl_mem (bf_ad E) vs 0 i v h2
    rwa [Nat.zero_add] at this
theorem jw_All {p : Program} {l : Launch} {e : Env} {R : Room} {s : State} {m : MethodId} {args : Array Value} {below : List Frame} {meth : Method} {c : Code} {E : bf_E} {nL N0 : Nat} {Q : State → Prop} {y : bf_M} {C : bf_CR} {d n' : Nat} (X : bf_X p s m args c E nL y) (Y : bf_Y R C d n' N0) : bf_Ru2 C n' y (bf_JW p l e R s m args below meth c E nL N0 Q) :=
  ⟨jw_callv X Y, jw_calls X Y, jw_calli X Y, jw_obj X Y, jw_new X Y, jw_newa X Y, jw_anew X Y, jw_aast X, jw_acopy X Y, jw_mmax X Y, jw_mmin X Y⟩
theorem bf_sound : ∀ (d : Nat) (y : bf_M) (vs : List Value) (G : bf_G) (n' : Nat) (Post : bf_P), bf_Cl d y vs G n' Post → bf_MT d y vs G n' Post ∧ G.1 ≤ n' := by
  intro d
  induction d with
  | zero => intro y vs G n' Post h; exact h.elim
  | succ d ih =>
    intro y vs G n' Post h
    obtain ⟨⟨hcode, hplain⟩, hle, h57, hlen, hJ⟩ := h
    refine ⟨fun l E => ?_, hle⟩
    refine Met.ofW (cc := y.2.1) (maxL := y.2.2.1) (ret := y.2.2.2) hplain rfl ?_
    intro p e s m args below meth c s₁ B hml hv
    obtain ⟨rfl, hH, hK, hST⟩ := hv
    have hts := atoms_spec (ws := bf_ws y) B.pre
    have hown : s.vm.findClass y.1.cls = some m.cls := findClass_of_methodNamed B.named
    have hnm : meth.name = y.1.name := (name_of_methodNamed B.named B.method).1
    have hlocks := B.notSynchronized
    have hr := B.returns
    have X : bf_X p s m (vs.map (bf_cv (bf_ad E))).toArray c E y.2.2.1 y := ⟨B.exec, B.bytes, hml, hown, fun w hw hg => hts w (List.mem_cons_of_mem _ (List.mem_filter.mpr ⟨hw, hg⟩)), hK, hST⟩
    have Y : bf_Y (bf_rm (d + 1) G.1 n') (bf_Cl d) d n' G.1 := ⟨Nat.le_refl _, by show 60 * d + 60 ≤ 60 * (d + 1); omega, Nat.le_refl _, Nat.le_refl _, h57, ih⟩
    rw [lg_entry_eq]
    have key := hJ (bf_JW p l e (bf_rm (d + 1) G.1 n') s m (vs.map (bf_cv (bf_ad E))).toArray below meth c E y.2.2.1 G.1 (MQ below (bf_Qc E n' Post) (vs.map (bf_cv (bf_ad E))).toArray s (n' - G.1) (bf_SL n' - bf_SL G.1) (bf_A E))) ⟨jw_Ru X, jw_All X Y, jw_putF X hnm, ?_, ?_, ?_⟩
    · have h0 := key s.heap [] _ hH va_S.rf (bf_lr_entry E hlen) (Nat.le_refl _)
      rw [Nat.sub_self, Nat.sub_self] at h0
      exact h0
    · intro pc L G' v ty dd hty hn hG hp
      intro H locs ls hH' hS hl hN
      subst hG
      exact W.zret B.exec B.bytes (hr.trans hty) hn (fun t ht hW => ⟨⟨some (.int v), G', rfl, hp, rfl, by rw [ht]; exact hH'⟩, hS.F ht⟩) hS.2.2 dd
    · intro pc L G' v dd hty hG hp
      intro H locs ls hH' hS hl hN
      subst hG
      exact W.lret B.exec B.bytes (hr.trans hty) (fun t ht hW => ⟨⟨some (.long v), G', rfl, hp, rfl, by rw [ht]; exact hH'⟩, hS.F ht⟩) hS.2.2 dd
    · intro pc L G' dd hty hG hp
      intro H locs ls hH' hS hl hN
      subst hG
      exact W.vret B.exec B.bytes (hr.trans hty) (fun t ht hW => ⟨⟨none, G', rfl, hp, rfl, by rw [ht]; exact hH'⟩, hS.F ht⟩) hS.2.2 dd
theorem bf_Cl_mono : ∀ (d : Nat) (y : bf_M) (vs : List Value) (G : bf_G) (n' : Nat) (Post : bf_P), bf_Cl d y vs G n' Post → bf_Cl (d + 1) y vs G n' Post := by
  intro d
  induction d with
  | zero => intro y vs G n' Post h; exact h.elim
  | succ d ih =>
    intro y vs G n' Post h
    obtain ⟨h1, h2, h3, h4, hJ⟩ := h
    refine ⟨h1, h2, h3, h4, fun J hA => hJ J ⟨hA.1, ⟨?_, ?_, ?_, hA.2.1.2.2.2⟩, hA.2.2⟩⟩
    · intro pc L S S0 G i y2 ci n a vs n1 P1 dd a1 a2 a3 a4 a5 a6 a7 hC a8 k
      exact hA.2.1.1 pc L S S0 G i y2 ci n a vs n1 P1 dd a1 a2 a3 a4 a5 a6 a7 (ih _ _ _ _ _ hC) a8 k
    · intro pc L S S0 G i y2 n vs n1 P1 dd a1 a2 a5 a6 a7 hC a8 k
      exact hA.2.1.2.1 pc L S S0 G i y2 n vs n1 P1 dd a1 a2 a5 a6 a7 (ih _ _ _ _ _ hC) a8 k
    · intro pc L S S0 G i y2 n a vs n1 P1 dd a1 a2 a5 a6 a7 hC a8 k
      exact hA.2.1.2.2.1 pc L S S0 G i y2 n a vs n1 P1 dd a1 a2 a5 a6 a7 (ih _ _ _ _ _ hC) a8 k
theorem bf_Cl_le {d d' : Nat} (h : d ≤ d') {y : bf_M} {vs : List Value} {G : bf_G} {n' : Nat} {Post : bf_P} (hC : bf_Cl d y vs G n' Post) : bf_Cl d' y vs G n' Post := by
  induction h with
  | refl => exact hC
  | step _ ih => exact bf_Cl_mono _ _ _ _ _ _ ih
theorem bf_Cl_post {y : bf_M} {vs : List Value} {G : bf_G} {n' : Nat} {P P' : bf_P} (d : Nat) (hC : bf_Cl d y vs G n' P) (h : ∀ r G', P r G' → P' r G') : bf_Cl d y vs G n' P' := by
  cases d with
  | zero => exact hC
  | succ d =>
    obtain ⟨h1, h2, h3, h4, hJ⟩ := hC
    refine ⟨h1, h2, h3, h4, fun J hA => hJ J ⟨hA.1, hA.2.1, hA.2.2.1, ?_, ?_, ?_⟩⟩
    · intro pc L G' v ty dd a1 a2 a3 hp
      exact hA.2.2.2.1 pc L G' v ty dd a1 a2 a3 (h _ _ hp)
    · intro pc L G' v dd a1 a2 hp
      exact hA.2.2.2.2.1 pc L G' v dd a1 a2 (h _ _ hp)
    · intro pc L G' dd a1 a2 hp
      exact hA.2.2.2.2.2 pc L G' dd a1 a2 (h _ _ hp)
