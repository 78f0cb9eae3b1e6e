/-! what the commands answer and leave -/
def pKl (P : bf_Pn) (k s : Nat) : bf_Pn := pSet P k (pK P k) s (pT P k) (fun b => if bf_wh (pD P k) s b = true then 0 else pW P k b)
def pJm (P : bf_Pn) (k s : Nat) : bf_Pn := pSet P k (pK P k) (pD P k) s (pW P k)
section
variable {D D' : bf_D} {P P' : bf_Pn} {S S' : bf_Sh} {Q Q' : bf_Rd} {F : Nat} {T : Int32}
theorem cA_P (h : cA D (P, S, Q, F, T)) (hp : cP D' P') (hf : bf_fr 2 18 D D') : cA D' (P', S, Q, F, T) := by
  obtain ⟨h1, h2, h3, h4, h5⟩ := h
  exact ⟨hp, cS_fr h2 hf (by decide), cR_fr h3 hf (Or.inr (by decide)), (hf 0 5 (by decide)).trans h4, (hf 0 6 (by decide)).trans h5⟩
theorem cA_S (hn : pN P ≤ 4) (h : cA D (P, S, Q, F, T)) (hp : cS D' S') (hf : bf_fr 29 37 D D') : cA D' (P, S', Q, F, T) := by
  obtain ⟨h1, h2, h3, h4, h5⟩ := h
  exact ⟨cP_fr h1 hf (by decide) hn, hp, cR_fr h3 hf (Or.inl (by decide)), (hf 0 5 (by decide)).trans h4, (hf 0 6 (by decide)).trans h5⟩
theorem cA_R (hn : pN P ≤ 4) (h : cA D (P, S, Q, F, T)) (hp : cR D' Q') (hf : bf_fr 18 22 D D') : cA D' (P, S, Q', F, T) := by
  obtain ⟨h1, h2, h3, h4, h5⟩ := h
  exact ⟨cP_fr h1 hf (by decide) hn, cS_fr h2 hf (by decide), hp, (hf 0 5 (by decide)).trans h4, (hf 0 6 (by decide)).trans h5⟩
theorem cA_x (hn : pN P ≤ 4) (h : cA D (P, S, Q, F, T)) (hf : bf_fr 22 29 D D') : cA D' (P, S, Q, F, T) := by
  obtain ⟨h1, h2, h3, h4, h5⟩ := h
  exact ⟨cP_fr h1 hf (by decide) hn, cS_fr h2 hf (by decide), cR_fr h3 hf (Or.inl (by decide)), (hf 0 5 (by decide)).trans h4, (hf 0 6 (by decide)).trans h5⟩
theorem bf_xD_o {k dd s b j : Nat} (h1 : b ≠ 8 + 3 * k) (h2 : b ≠ 6 + 3 * k ∨ j ≠ 4) : bf_xD D k dd s 7 b j = D b j := (bf_cz_o h1 _).trans (bf_un h2)
theorem fr_kl {k dd s q st : Nat} (hk : k < 4) : bf_fr 2 18 D (bf_lD (bf_xD D k dd s 7) k q s st) := fun a j ha => (bf_lD_o (by omega)).trans (bf_xD_o (by omega) (by omega))
theorem fr_jm {k dd s q : Nat} (hk : k < 4) : bf_fr 2 18 D (bf_lD (bf_u D (6 + 3 * k) 5 (nI s)) k q dd s) := fun a j ha => (bf_lD_o (by omega)).trans (bf_un (by omega))
theorem cP_kl {k s : Nat} (hc : cP D P) (hn4 : pN P ≤ 4) (hk : k < pN P) : cP (bf_lD (bf_xD D k (pD P k) s 7) k (pK P k) s (pT P k)) (pKl P k s) := by
  refine cP_set hc (fun a j h6 h7 h8 _ => (bf_lD_o h7).trans (bf_xD_o h8 (Or.inl h6))) (by omega) hn4 ?_ ?_ ?_ (fun d hd => bf_lD_i hd) (fun b hb => ?_)
  · exact (bf_lD_o (by omega)).trans ((bf_xD_o (by omega) (Or.inr (by decide))).trans (cP_k hc hk))
  · exact (bf_lD_o (by omega)).trans ((bf_cz_o (by omega) _).trans bf_us)
  · exact (bf_lD_o (by omega)).trans ((bf_xD_o (by omega) (Or.inr (by decide))).trans (cP_t hc hk))
  · rw [bf_lD_o (by omega)]
    unfold bf_xD
    rw [bf_cz_in]
    by_cases h : bf_wh (pD P k) s b = true
    · rw [if_pos ⟨hb, h⟩, if_pos h]
    · rw [if_neg (fun q => h q.2), if_neg h, bf_un (by omega)]; exact cP_w hc hk hb
theorem cP_jm {k s : Nat} (hc : cP D P) (hn4 : pN P ≤ 4) (hk : k < pN P) : cP (bf_lD (bf_u D (6 + 3 * k) 5 (nI s)) k (pK P k) (pD P k) s) (pJm P k s) := by
  refine cP_set hc (fun a j h6 h7 h8 _ => (bf_lD_o h7).trans (bf_un (Or.inl h6))) (by omega) hn4 ?_ ?_ ?_ (fun d hd => bf_lD_i hd) (fun b hb => ?_)
  · exact (bf_lD_o (by omega)).trans ((bf_un (by omega)).trans (cP_k hc hk))
  · exact (bf_lD_o (by omega)).trans ((bf_un (by omega)).trans (cP_d hc hk))
  · exact (bf_lD_o (by omega)).trans bf_us
  · exact (bf_lD_o (by omega)).trans ((bf_un (by omega)).trans (cP_w hc hk hb))
end
def sPut (S : bf_Sh) (k : Nat) (z : Option Nat) (l : Nat) (c : Nat → Int32) : bf_Sh := ((fun i => if i = k then z else sZ S i), (fun i => if i = k then l else sL S i), fun i => if i = k then c else sC S i)
theorem cS_put {D D' : bf_D} {S : bf_Sh} {k : Nat} {z : Option Nat} {l : Nat} {c : Nat → Int32} (h : cS D S) (ho : ∀ a j, 29 ≤ a → a ≠ 29 + 2 * k → a ≠ 30 + 2 * k → D' a j = D a j) (h1 : D' (29 + 2 * k) 1 = bf_sz z) (h2 : D' (29 + 2 * k) 2 = nI l) (h3 : ∀ n, z = some n → ∀ i, i < n → D' (30 + 2 * k) i = c i) : cS D' (sPut S k z l c) := by
  intro i hi
  by_cases e : i = k
  · subst e
    refine ⟨?_, ?_, fun n hn t ht => ?_⟩
    · show _ = bf_sz (if i = i then z else _); rw [if_pos rfl]; exact h1
    · show _ = nI (if i = i then l else _); rw [if_pos rfl]; exact h2
    · show _ = (if i = i then c else sC S i) t
      rw [if_pos rfl]
      exact h3 n (by have h9 : (if i = i then z else sZ S i) = some n := hn; rwa [if_pos rfl] at h9) t ht
  · refine ⟨?_, ?_, fun n hn t ht => ?_⟩
    · show _ = bf_sz (if i = k then z else _); rw [if_neg e, ho _ _ (by omega) (by omega) (by omega)]; exact (h i hi).1
    · show _ = nI (if i = k then l else _); rw [if_neg e, ho _ _ (by omega) (by omega) (by omega)]; exact (h i hi).2.1
    · show _ = (if i = k then c else sC S i) t
      rw [if_neg e, ho _ _ (by omega) (by omega) (by omega)]
      exact (h i hi).2.2 n (by have h9 : (if i = k then z else sZ S i) = some n := hn; rwa [if_neg e] at h9) t ht
def rAdd (Q : bf_Rd) (k x s : Nat) : bf_Rd := (rN Q + 1, (fun i => if i = rN Q then k else rP Q i), (fun i => if i = rN Q then x else rG Q i), fun i => if i = rN Q then s else rS Q i)
theorem cR_add {D : bf_D} {Q : bf_Rd} {k x s : Nat} (h : cR D Q) : cR (bf_aD D (rN Q) k x s) (rAdd Q k x s) := by
  refine ⟨bf_us, fun i hi => ?_⟩
  have hi2 : i < rN Q + 1 := hi
  unfold bf_aD
  by_cases e : i = rN Q
  · subst e
    refine ⟨?_, ?_, ?_⟩
    · show _ = nI (if rN Q = rN Q then k else _); rw [if_pos rfl, bf_un (by omega), bf_un (by omega), bf_un (by omega)]; exact bf_us
    · show _ = nI (if rN Q = rN Q then x else _); rw [if_pos rfl, bf_un (by omega), bf_un (by omega)]; exact bf_us
    · show _ = nI (if rN Q = rN Q then s else _); rw [if_pos rfl, bf_un (by omega)]; exact bf_us
  · have h9 := h.2 i (by omega)
    refine ⟨?_, ?_, ?_⟩
    · show _ = nI (if i = rN Q then k else _); rw [if_neg e, bf_un (by omega), bf_un (by omega), bf_un (by omega), bf_un (by omega)]; exact h9.1
    · show _ = nI (if i = rN Q then x else _); rw [if_neg e, bf_un (by omega), bf_un (by omega), bf_un (by omega), bf_un (by omega)]; exact h9.2.1
    · show _ = nI (if i = rN Q then s else _); rw [if_neg e, bf_un (by omega), bf_un (by omega), bf_un (by omega), bf_un (by omega)]; exact h9.2.2
theorem fr_add {D : bf_D} {n k x s : Nat} : bf_fr 18 22 D (bf_aD D n k x s) := fr_u (fr_u (fr_u (fr_u fr_0 (by decide) (by decide)) (by decide) (by decide)) (by decide) (by decide)) (by decide) (by decide)
def lvT (T : Int32) (x : Nat) : Int32 := nI 31 * T + nI x
def bf_lost : Int64 := -9223372036854775808
def ox_kill (P : bf_Pn) (S : bf_Sh) (Q : bf_Rd) (F : Nat) (T : Int32) (k s : Int32) : Int32 × bf_St := bf_on (bf_rg k (pN P)) (-1, (P, S, Q, F, T)) fun k => bf_on (bf_rg s 128) (-2, (P, S, Q, F, T)) fun s => (nI (pD P k), (pKl P k s, S, Q, F, T))
def ox_jam (P : bf_Pn) (S : bf_Sh) (Q : bf_Rd) (F : Nat) (T : Int32) (k s : Int32) : Int32 × bf_St := bf_on (bf_rg k (pN P)) (-1, (P, S, Q, F, T)) fun k => bf_on (bf_rg s 128) (-2, (P, S, Q, F, T)) fun s => (nI (pT P k), (pJm P k s, S, Q, F, T))
def ox_tell (P : bf_Pn) (S : bf_Sh) (Q : bf_Rd) (F : Nat) (T : Int32) (k : Int32) : Int32 × bf_St := bf_on (bf_rg k (pN P)) (-1, (P, S, Q, F, T)) fun k => if nI (pK P k) = nI 1 then (nI (pD P k + 100), (P, S, Q, F, lvT (lvT T 2) 1)) else if nI (pK P k) = nI 2 then (nI (pD P k + 100 + pD P k), (P, S, Q, F, lvT (lvT (lvT (lvT T 3) 2) 1) 1)) else (nI (pD P k), (P, S, Q, F, lvT T 1))
def ox_hum (P : bf_Pn) (S : bf_Sh) (Q : bf_Rd) (F : Nat) (T : Int32) (k : Int32) : Int32 × bf_St := bf_on (bf_rg k (pN P)) (-1, (P, S, Q, F, T)) fun k => if pK P k = 2 then (nI 60, (P, S, Q, F, lvT T 5)) else (nI k, (P, S, Q, F, lvT T 4))
def ox_as (P : bf_Pn) (S : bf_Sh) (Q : bf_Rd) (F : Nat) (T : Int32) (k q : Int32) : Int32 × bf_St := bf_on (bf_rg k (pN P)) (-1, (P, S, Q, 0, T)) fun k => bf_on (bf_rg q 3) (-2, (P, S, Q, 0, T)) fun q => if pK P k < q then (-10 - nI 2, (P, S, Q, 2, T)) else (nI 1, (P, S, Q, 0, T))
def ox_reading (P : bf_Pn) (S : bf_Sh) (Q : bf_Rd) (F : Nat) (T : Int32) (k x s : Int32) : Int32 × bf_St := bf_on (bf_rg k (pN P)) (-1, (P, S, Q, F, T)) fun k => bf_on (bf_rg x 10) (-2, (P, S, Q, F, T)) fun x => bf_on (bf_rg s 128) (-2, (P, S, Q, F, T)) fun s => if rN Q = 8 then (-4, (P, S, Q, F, T)) else (nI (rN Q), (P, S, rAdd Q k x s, F, T))
def ox_back (P : bf_Pn) (S : bf_Sh) (Q : bf_Rd) (F : Nat) (T : Int32) (k : Int32) : Int32 × bf_St := bf_on (bf_rg k (rN Q + 1)) (-2, (P, S, Q, F, T)) fun k => (nI (rN Q - k), (P, S, (rN Q - k, Q.2), F, T))
def ox_sheet (P : bf_Pn) (S : bf_Sh) (Q : bf_Rd) (F : Nat) (T : Int32) (k l n : Int32) : Int32 × bf_St := bf_on (bf_rg k 4) (-1, (P, S, Q, 0, T)) fun k => bf_on (bf_rg l 3) (-2, (P, S, Q, 0, T)) fun l => bf_on (bf_rg n 61) (if n < 0 then (-10 - nI 4, (P, S, Q, 4, T)) else (-2, (P, S, Q, 0, T))) fun n => (nI 1, (P, sPut S k (some n) l (fun _ => nI 0), Q, 0, T))
def ox_lose (P : bf_Pn) (S : bf_Sh) (Q : bf_Rd) (F : Nat) (T : Int32) (k : Int32) : Int32 × bf_St := bf_on (bf_rg k 4) (-1, (P, S, Q, F, T)) fun k => (if sZ S k = none then nI 0 else nI 1, (P, sPut S k none (sL S k) (sC S k), Q, F, T))
def ox_put (P : bf_Pn) (S : bf_Sh) (Q : bf_Rd) (F : Nat) (T : Int32) (k i v : Int32) : Int32 × bf_St := bf_on (bf_rg k 4) (-1, (P, S, Q, 0, T)) fun k => bf_on (sZ S k) (-10 - nI 1, (P, S, Q, 1, T)) fun n => bf_on (bf_rg i n) (-10 - nI 3, (P, S, Q, 3, T)) fun i => (nI 1, (P, sPut S k (some n) (sL S k) (fun j => if j = i then bf_cut (sL S k) v else sC S k j), Q, 0, T))
def ox_cell (P : bf_Pn) (S : bf_Sh) (Q : bf_Rd) (F : Nat) (T : Int32) (k i l : Int32) : Int64 × bf_St := bf_on (bf_rg k 4) (bf_lost, (P, S, Q, 0, T)) fun k => bf_on (bf_rg l 3) (bf_lost, (P, S, Q, 0, T)) fun l => if bf_foc (sZ S k) (sL S k) (nI l) i (nI 1) = 0 then ((sC S k i.toNatClampNeg).toInt64, (P, S, Q, 0, T)) else (bf_lost, (P, S, Q, bf_foc (sZ S k) (sL S k) (nI l) i (nI 1), T))
def ox_copy (P : bf_Pn) (S : bf_Sh) (Q : bf_Rd) (F : Nat) (T : Int32) (k i o j n : Int32) : Int32 × bf_St := bf_on (bf_rg k 4) (-1, (P, S, Q, 0, T)) fun k => bf_on (bf_rg o 4) (-1, (P, S, Q, 0, T)) fun o => bf_on (sZ S k) (-10 - nI 1, (P, S, Q, 1, T)) fun z => bf_on (sZ S o) (-10 - nI 1, (P, S, Q, 1, T)) fun z2 => if sL S k = sL S o then (if (0 ≤ i.toInt ∧ 0 ≤ n.toInt ∧ i.toInt + n.toInt ≤ z) then (if (0 ≤ j.toInt ∧ 0 ≤ n.toInt ∧ j.toInt + n.toInt ≤ z2) then (n, (P, sPut S o (some z2) (sL S o) (va_cpy (sC S k) (sC S o) i.toNatClampNeg j.toNatClampNeg n.toNatClampNeg), Q, 0, T)) else (-10 - nI 3, (P, S, Q, 3, T))) else (-10 - nI 3, (P, S, Q, 3, T))) else (-10 - nI 2, (P, S, Q, 2, T))
theorem e_X8_kill {d : Nat} (hd : 10 ≤ d) {D : bf_D} {P : bf_Pn} {S : bf_Sh} {Q : bf_Rd} {F : Nat} {T : Int32} (va : vA (P, S, Q, F, T)) (ca : cA D (P, S, Q, F, T)) (k s : Int32) : bf_Ce d mX8_kill [.ref 0, .int (k), .int (s)] D (fun r D' => r = some (.int (ox_kill P S Q F T k s).1) ∧ cA D' (ox_kill P S Q F T k s).2 ∧ bf_fr 0 37 D D') := by
  refine bf_Ce_of 9 hd mo_X8_kill (Nat.le_of_ble_eq_true rfl) (fun e he J r => ?_)
  show J 0 [some (.ref 0), some (.int (k)), some (.int (s))] [] (bf_MD D)
  obtain ⟨hv, vs, vr, hF⟩ := id va
  obtain ⟨hc, cs, cr, c5, c6⟩ := id ca
  have hn4 := hv.1
  have hx4 := pX_le hv
  have hx0 := pX_pos P
  refine bf_aload_n r.1 dX8_kill_0 rfl ?_
  refine bf_iload_n r.1 dX8_kill_1 rfl ?_
  refine cl_v r (y2 := mX8_isPlace) dX8_kill_2 li_X8_76 mv_X8_isPlace rfl (by decide) [.int (k)] [] rfl (Nat.le_of_ble_eq_true rfl) rfl (c_X8_isPlace (by omega) hv hc _) ?_
  show J 5 [some (.ref 0), some (.int (k)), some (.int (s))] [.int (if 0 ≤ k ∧ k < nI (pN P) then 1 else 0)] (bf_MD D)
  refine nb_ne r (tgt := 10) dX8_kill_5 (by decide) (fun c192 => ?_) (fun c192 => ?_)
  · obtain ⟨k0, hk0, rfl⟩ := rg_in (by omega) c192
    have wk := rg_s hk0 (by omega)
    refine bf_iload_n r.1 dX8_kill_10 rfl ?_
    refine bf_sipush r.1 (v := nI 128) dX8_kill_11 rfl ?_
    refine cl_s r (y2 := mX8_isWithin) dX8_kill_14 li_X8_50 mv_X8_isWithin [.int (s), .int (nI 128)] [] rfl (Nat.le_of_ble_eq_true rfl) rfl (c_X8_isWithin (by omega) D _ _) ?_
    show J 17 [some (.ref 0), some (.int (nI k0)), some (.int (s))] [.int (if 0 ≤ s ∧ s < nI 128 then 1 else 0)] (bf_MD D)
    refine nb_eq r (tgt := 36) dX8_kill_17 (by decide) (fun c193 => ?_) (fun c193 => ?_)
    · have ws := rg_n c193
      refine bf_bipush r.1 (v := -2) dX8_kill_36 rfl ?_
      have ho : ox_kill P S Q F T (nI k0) s = (-2, (P, S, Q, F, T)) := by simp only [ox_kill, wk, ws, on_n, on_s]
      exact re_i r dX8_kill_38 rfl rfl ⟨by rw [ho], by rw [ho]; exact ca, fr_0⟩
    · obtain ⟨s0, hs0, rfl⟩ := rg_in (by decide) c193
      have ws := rg_s hs0 (by decide)
      refine bf_aload_n r.1 dX8_kill_20 rfl ?_
      refine ig_ref r (b := 2) dX8_kill_21 fl_X8_20 rfl (by decide) rfl ?_
      refine ig_ref r (b := 3) dX8_kill_24 fl_X8_80 rfl (by decide) rfl ?_
      refine bf_iload_n r.1 dX8_kill_27 rfl ?_
      refine aa_ld r (n := 4) (b := 6 + 3 * k0) dX8_kill_28 (by decide) rfl (by decide) (Nat.lt_of_lt_of_le hk0 hn4) (ad_a3 (Nat.lt_of_lt_of_le hk0 hn4)) ?_
      refine bf_iload_n r.1 dX8_kill_29 rfl ?_
      refine cl_v r (y2 := mX3_exchangeDead) dX8_kill_30 li_X8_113 mv_X3_exchangeDead (ad_c6 (Nat.lt_of_lt_of_le hk0 hn4)) (ad_l6 (Nat.lt_of_lt_of_le hk0 hn4)) [.int (nI s0)] [] rfl (Nat.le_of_ble_eq_true rfl) rfl (c_X3_exchangeDead (by omega) hc.2.2 (Nat.lt_of_lt_of_le hk0 hn4) (cP_k (P := P) hc hk0) (cP_d (P := P) hc hk0) (cP_t (P := P) hc hk0) (hv.2.2.2.2 k0 hk0).1 (hv.2.2.2.2 k0 hk0).2.1 hs0) ?_
      show J 33 [some (.ref 0), some (.int (nI k0)), some (.int (nI s0))] [.int (nI (pD P k0))] (bf_MD (bf_lD (bf_xD D k0 (pD P k0) s0 7) k0 (pK P k0) s0 (pT P k0)))
      refine bf_goto r.1 (tgt := 38) dX8_kill_33 (by decide) ?_
      have ho : ox_kill P S Q F T (nI k0) (nI s0) = (nI (pD P k0), (pKl P k0 s0, S, Q, F, T)) := by simp only [ox_kill, wk, ws, on_n, on_s]
      exact re_i r dX8_kill_38 rfl rfl ⟨by rw [ho], by rw [ho]; exact (cA_P ca (cP_kl hc hn4 hk0) (fr_kl (by omega))), (fr_w (fr_kl (by omega)) (by decide) (by decide))⟩
  · have wk := rg_n c192
    refine bf_iconst r.1 (v := -1) dX8_kill_8 rfl ?_
    have ho : ox_kill P S Q F T k s = (-1, (P, S, Q, F, T)) := by simp only [ox_kill, wk, on_n, on_s]
    exact re_i r dX8_kill_9 rfl rfl ⟨by rw [ho], by rw [ho]; exact ca, fr_0⟩
theorem e_X8_jam {d : Nat} (hd : 10 ≤ d) {D : bf_D} {P : bf_Pn} {S : bf_Sh} {Q : bf_Rd} {F : Nat} {T : Int32} (va : vA (P, S, Q, F, T)) (ca : cA D (P, S, Q, F, T)) (k s : Int32) : bf_Ce d mX8_jam [.ref 0, .int (k), .int (s)] D (fun r D' => r = some (.int (ox_jam P S Q F T k s).1) ∧ cA D' (ox_jam P S Q F T k s).2 ∧ bf_fr 0 37 D D') := by
  refine bf_Ce_of 9 hd mo_X8_jam (Nat.le_of_ble_eq_true rfl) (fun e he J r => ?_)
  show J 0 [some (.ref 0), some (.int (k)), some (.int (s))] [] (bf_MD D)
  obtain ⟨hv, vs, vr, hF⟩ := id va
  obtain ⟨hc, cs, cr, c5, c6⟩ := id ca
  have hn4 := hv.1
  have hx4 := pX_le hv
  have hx0 := pX_pos P
  refine bf_aload_n r.1 dX8_jam_0 rfl ?_
  refine bf_iload_n r.1 dX8_jam_1 rfl ?_
  refine cl_v r (y2 := mX8_isPlace) dX8_jam_2 li_X8_76 mv_X8_isPlace rfl (by decide) [.int (k)] [] rfl (Nat.le_of_ble_eq_true rfl) rfl (c_X8_isPlace (by omega) hv hc _) ?_
  show J 5 [some (.ref 0), some (.int (k)), some (.int (s))] [.int (if 0 ≤ k ∧ k < nI (pN P) then 1 else 0)] (bf_MD D)
  refine nb_ne r (tgt := 10) dX8_jam_5 (by decide) (fun c194 => ?_) (fun c194 => ?_)
  · obtain ⟨k0, hk0, rfl⟩ := rg_in (by omega) c194
    have wk := rg_s hk0 (by omega)
    refine bf_iload_n r.1 dX8_jam_10 rfl ?_
    refine bf_sipush r.1 (v := nI 128) dX8_jam_11 rfl ?_
    refine cl_s r (y2 := mX8_isWithin) dX8_jam_14 li_X8_50 mv_X8_isWithin [.int (s), .int (nI 128)] [] rfl (Nat.le_of_ble_eq_true rfl) rfl (c_X8_isWithin (by omega) D _ _) ?_
    show J 17 [some (.ref 0), some (.int (nI k0)), some (.int (s))] [.int (if 0 ≤ s ∧ s < nI 128 then 1 else 0)] (bf_MD D)
    refine nb_eq r (tgt := 36) dX8_jam_17 (by decide) (fun c195 => ?_) (fun c195 => ?_)
    · have ws := rg_n c195
      refine bf_bipush r.1 (v := -2) dX8_jam_36 rfl ?_
      have ho : ox_jam P S Q F T (nI k0) s = (-2, (P, S, Q, F, T)) := by simp only [ox_jam, wk, ws, on_n, on_s]
      exact re_i r dX8_jam_38 rfl rfl ⟨by rw [ho], by rw [ho]; exact ca, fr_0⟩
    · obtain ⟨s0, hs0, rfl⟩ := rg_in (by decide) c195
      have ws := rg_s hs0 (by decide)
      refine bf_aload_n r.1 dX8_jam_20 rfl ?_
      refine ig_ref r (b := 2) dX8_jam_21 fl_X8_20 rfl (by decide) rfl ?_
      refine ig_ref r (b := 3) dX8_jam_24 fl_X8_80 rfl (by decide) rfl ?_
      refine bf_iload_n r.1 dX8_jam_27 rfl ?_
      refine aa_ld r (n := 4) (b := 6 + 3 * k0) dX8_jam_28 (by decide) rfl (by decide) (Nat.lt_of_lt_of_le hk0 hn4) (ad_a3 (Nat.lt_of_lt_of_le hk0 hn4)) ?_
      refine bf_iload_n r.1 dX8_jam_29 rfl ?_
      refine cl_v r (y2 := mX3_exchangeStuck) dX8_jam_30 li_X8_116 mv_X3_exchangeStuck (ad_c6 (Nat.lt_of_lt_of_le hk0 hn4)) (ad_l6 (Nat.lt_of_lt_of_le hk0 hn4)) [.int (nI s0)] [] rfl (Nat.le_of_ble_eq_true rfl) rfl (c_X3_exchangeStuck (by omega) hc.2.2 (Nat.lt_of_lt_of_le hk0 hn4) (cP_k (P := P) hc hk0) (cP_d (P := P) hc hk0) (cP_t (P := P) hc hk0) (hv.2.2.2.2 k0 hk0).1 (hv.2.2.2.2 k0 hk0).2.1) ?_
      show J 33 [some (.ref 0), some (.int (nI k0)), some (.int (nI s0))] [.int (nI (pT P k0))] (bf_MD (bf_lD (bf_u D (6 + 3 * k0) 5 (nI s0)) k0 (pK P k0) (pD P k0) s0))
      refine bf_goto r.1 (tgt := 38) dX8_jam_33 (by decide) ?_
      have ho : ox_jam P S Q F T (nI k0) (nI s0) = (nI (pT P k0), (pJm P k0 s0, S, Q, F, T)) := by simp only [ox_jam, wk, ws, on_n, on_s]
      exact re_i r dX8_jam_38 rfl rfl ⟨by rw [ho], by rw [ho]; exact (cA_P ca (cP_jm hc hn4 hk0) (fr_jm (by omega))), (fr_w (fr_jm (by omega)) (by decide) (by decide))⟩
  · have wk := rg_n c194
    refine bf_iconst r.1 (v := -1) dX8_jam_8 rfl ?_
    have ho : ox_jam P S Q F T k s = (-1, (P, S, Q, F, T)) := by simp only [ox_jam, wk, on_n, on_s]
    exact re_i r dX8_jam_9 rfl rfl ⟨by rw [ho], by rw [ho]; exact ca, fr_0⟩
theorem e_X8_leave {d : Nat} (hd : 1 ≤ d) {D : bf_D} {P : bf_Pn} {S : bf_Sh} {Q : bf_Rd} {F : Nat} {T : Int32} (hn4 : pN P ≤ 4) (ca : cA D (P, S, Q, F, T)) (x : Nat) : bf_Ce d mX8_leave [.ref 0, .int (nI x)] D (fun r D' => r = none ∧ cA D' (P, S, Q, F, lvT T x) ∧ bf_fr 0 37 D D') :=
  bf_Ce_Cf (c_X8_leave hd ca.2.2.2.2 x) ⟨rfl, cA_6 hn4 _ ca, fr_u fr_0 (by decide) (by decide)⟩
theorem e_X8_fairBody {d : Nat} (hd : 2 ≤ d) {D : bf_D} {P : bf_Pn} {S : bf_Sh} {Q : bf_Rd} {F : Nat} {T : Int32} (va : vA (P, S, Q, F, T)) (ca : cA D (P, S, Q, F, T)) {k : Nat} (hk : k < pN P) : bf_Ce d mX8_fairBody [.ref 0, .ref (6 + 3 * k)] D (fun r D' => r = some (.int (nI (pD P k))) ∧ cA D' (P, S, Q, F, lvT T 1) ∧ bf_fr 0 37 D D') := by
  refine bf_Ce_of 1 hd mo_X8_fairBody (Nat.le_of_ble_eq_true rfl) (fun e he J r => ?_)
  show J 0 [some (.ref 0), some (.ref (6 + 3 * k))] [] (bf_MD D)
  obtain ⟨hv, vs, vr, hF⟩ := id va
  obtain ⟨hc, cs, cr, c5, c6⟩ := id ca
  have hn4 := hv.1
  have hx4 := pX_le hv
  have hx0 := pX_pos P
  refine bf_aload_n r.1 dX8_fairBody_0 rfl ?_
  refine bf_iconst r.1 (v := nI 1) dX8_fairBody_1 rfl ?_
  refine ce_v r (y2 := mX8_leave) dX8_fairBody_2 li_X8_243 mv_X8_leave rfl (by decide) [.int (nI 1)] [] rfl (Nat.le_of_ble_eq_true rfl) rfl (e_X8_leave (by omega) hn4 ca 1) (fun res D196 hq196 => ?_)
  obtain ⟨rfl, hca196, hf196⟩ := hq196
  show J 5 [some (.ref 0), some (.ref (6 + 3 * k))] [] (bf_MD D196)
  replace ca := hca196
  obtain ⟨hc, cs, cr, c5, c6⟩ := id ca
  refine bf_aload_n r.1 dX8_fairBody_5 rfl ?_
  refine ig_int r (v := nI (pD P k)) dX8_fairBody_6 fl_X8_89 (ad_c6 (Nat.lt_of_lt_of_le hk hn4)) (ad_l6 (Nat.lt_of_lt_of_le hk hn4)) (ad_i6 (Nat.lt_of_lt_of_le hk hn4) 4 (by decide)) (cP_d (P := P) hc hk) ?_
  exact re_i r dX8_fairBody_9 rfl rfl ⟨rfl, ca, (fr_t fr_0 hf196)⟩
theorem e_X8_mirroredBody {d : Nat} (hd : 3 ≤ d) {D : bf_D} {P : bf_Pn} {S : bf_Sh} {Q : bf_Rd} {F : Nat} {T : Int32} (va : vA (P, S, Q, F, T)) (ca : cA D (P, S, Q, F, T)) {k : Nat} (hk : k < pN P) : bf_Ce d mX8_mirroredBody [.ref 0, .ref (6 + 3 * k)] D (fun r D' => r = some (.int (nI (pD P k + 100))) ∧ cA D' (P, S, Q, F, lvT (lvT T 2) 1) ∧ bf_fr 0 37 D D') := by
  refine bf_Ce_of 2 hd mo_X8_mirroredBody (Nat.le_of_ble_eq_true rfl) (fun e he J r => ?_)
  show J 0 [some (.ref 0), some (.ref (6 + 3 * k))] [] (bf_MD D)
  obtain ⟨hv, vs, vr, hF⟩ := id va
  obtain ⟨hc, cs, cr, c5, c6⟩ := id ca
  have hn4 := hv.1
  have hx4 := pX_le hv
  have hx0 := pX_pos P
  refine bf_aload_n r.1 dX8_mirroredBody_0 rfl ?_
  refine bf_iconst r.1 (v := nI 2) dX8_mirroredBody_1 rfl ?_
  refine ce_v r (y2 := mX8_leave) dX8_mirroredBody_2 li_X8_243 mv_X8_leave rfl (by decide) [.int (nI 2)] [] rfl (Nat.le_of_ble_eq_true rfl) rfl (e_X8_leave (by omega) hn4 ca 2) (fun res D197 hq197 => ?_)
  obtain ⟨rfl, hca197, hf197⟩ := hq197
  show J 5 [some (.ref 0), some (.ref (6 + 3 * k))] [] (bf_MD D197)
  replace ca := hca197
  obtain ⟨hc, cs, cr, c5, c6⟩ := id ca
  refine bf_aload_n r.1 dX8_mirroredBody_5 rfl ?_
  refine bf_aload_n r.1 dX8_mirroredBody_6 rfl ?_
  refine ce_v r (y2 := mX8_fairBody) dX8_mirroredBody_7 li_X8_240 mv_X8_fairBody rfl (by decide) [.ref (6 + 3 * k)] [] rfl (Nat.le_of_ble_eq_true rfl) rfl (e_X8_fairBody (by omega) ⟨hv, vs, vr, hF⟩ ca hk) (fun res D198 hq198 => ?_)
  obtain ⟨rfl, hca198, hf198⟩ := hq198
  show J 10 [some (.ref 0), some (.ref (6 + 3 * k))] [.int (nI (pD P k))] (bf_MD D198)
  replace ca := hca198
  obtain ⟨hc, cs, cr, c5, c6⟩ := id ca
  refine bf_bipush r.1 (v := nI 100) dX8_mirroredBody_10 rfl ?_
  refine na_add r dX8_mirroredBody_12  ?_
  exact re_i r dX8_mirroredBody_13 rfl rfl ⟨rfl, ca, (fr_t (fr_t fr_0 hf197) hf198)⟩
theorem e_X8_turnedBody {d : Nat} (hd : 4 ≤ d) {D : bf_D} {P : bf_Pn} {S : bf_Sh} {Q : bf_Rd} {F : Nat} {T : Int32} (va : vA (P, S, Q, F, T)) (ca : cA D (P, S, Q, F, T)) {k : Nat} (hk : k < pN P) : bf_Ce d mX8_turnedBody [.ref 0, .ref (6 + 3 * k)] D (fun r D' => r = some (.int (nI (pD P k + 100 + pD P k))) ∧ cA D' (P, S, Q, F, lvT (lvT (lvT (lvT T 3) 2) 1) 1) ∧ bf_fr 0 37 D D') := by
  refine bf_Ce_of 3 hd mo_X8_turnedBody (Nat.le_of_ble_eq_true rfl) (fun e he J r => ?_)
  show J 0 [some (.ref 0), some (.ref (6 + 3 * k)), none] [] (bf_MD D)
  obtain ⟨hv, vs, vr, hF⟩ := id va
  obtain ⟨hc, cs, cr, c5, c6⟩ := id ca
  have hn4 := hv.1
  have hx4 := pX_le hv
  have hx0 := pX_pos P
  refine bf_aload_n r.1 dX8_turnedBody_0 rfl ?_
  refine bf_iconst r.1 (v := nI 3) dX8_turnedBody_1 rfl ?_
  refine ce_v r (y2 := mX8_leave) dX8_turnedBody_2 li_X8_243 mv_X8_leave rfl (by decide) [.int (nI 3)] [] rfl (Nat.le_of_ble_eq_true rfl) rfl (e_X8_leave (by omega) hn4 ca 3) (fun res D199 hq199 => ?_)
  obtain ⟨rfl, hca199, hf199⟩ := hq199
  show J 5 [some (.ref 0), some (.ref (6 + 3 * k)), none] [] (bf_MD D199)
  replace ca := hca199
  obtain ⟨hc, cs, cr, c5, c6⟩ := id ca
  refine bf_aload_n r.1 dX8_turnedBody_5 rfl ?_
  refine bf_aload_n r.1 dX8_turnedBody_6 rfl ?_
  refine ce_v r (y2 := mX8_mirroredBody) dX8_turnedBody_7 li_X8_237 mv_X8_mirroredBody rfl (by decide) [.ref (6 + 3 * k)] [] rfl (Nat.le_of_ble_eq_true rfl) rfl (e_X8_mirroredBody (by omega) ⟨hv, vs, vr, hF⟩ ca hk) (fun res D200 hq200 => ?_)
  obtain ⟨rfl, hca200, hf200⟩ := hq200
  show J 10 [some (.ref 0), some (.ref (6 + 3 * k)), none] [.int (nI (pD P k + 100))] (bf_MD D200)
  replace ca := hca200
  obtain ⟨hc, cs, cr, c5, c6⟩ := id ca
  refine bf_istore_n r.1 (L2 := [some (.ref 0), some (.ref (6 + 3 * k)), some (.int (nI (pD P k + 100)))]) dX8_turnedBody_10 rfl ?_
  refine bf_iload_n r.1 dX8_turnedBody_11 rfl ?_
  refine bf_aload_n r.1 dX8_turnedBody_12 rfl ?_
  refine bf_aload_n r.1 dX8_turnedBody_13 rfl ?_
  refine ce_v r (y2 := mX8_fairBody) dX8_turnedBody_14 li_X8_240 mv_X8_fairBody rfl (by decide) [.ref (6 + 3 * k)] [.int (nI (pD P k + 100))] rfl (Nat.le_of_ble_eq_true rfl) rfl (e_X8_fairBody (by omega) ⟨hv, vs, vr, hF⟩ ca hk) (fun res D201 hq201 => ?_)
  obtain ⟨rfl, hca201, hf201⟩ := hq201
  show J 17 [some (.ref 0), some (.ref (6 + 3 * k)), some (.int (nI (pD P k + 100)))] [.int (nI (pD P k)), .int (nI (pD P k + 100))] (bf_MD D201)
  replace ca := hca201
  obtain ⟨hc, cs, cr, c5, c6⟩ := id ca
  refine na_add r dX8_turnedBody_17  ?_
  exact re_i r dX8_turnedBody_18 rfl rfl ⟨rfl, ca, (fr_t (fr_t (fr_t fr_0 hf199) hf200) hf201)⟩
theorem e_X8_tell {d : Nat} (hd : 10 ≤ d) {D : bf_D} {P : bf_Pn} {S : bf_Sh} {Q : bf_Rd} {F : Nat} {T : Int32} (va : vA (P, S, Q, F, T)) (ca : cA D (P, S, Q, F, T)) (k : Int32) : bf_Ce d mX8_tell [.ref 0, .int (k)] D (fun r D' => r = some (.int (ox_tell P S Q F T k).1) ∧ cA D' (ox_tell P S Q F T k).2 ∧ bf_fr 0 37 D D') := by
  refine bf_Ce_of 9 hd mo_X8_tell (Nat.le_of_ble_eq_true rfl) (fun e he J r => ?_)
  show J 0 [some (.ref 0), some (.int (k)), none] [] (bf_MD D)
  obtain ⟨hv, vs, vr, hF⟩ := id va
  obtain ⟨hc, cs, cr, c5, c6⟩ := id ca
  have hn4 := hv.1
  have hx4 := pX_le hv
  have hx0 := pX_pos P
  refine bf_aload_n r.1 dX8_tell_0 rfl ?_
  refine bf_iload_n r.1 dX8_tell_1 rfl ?_
  refine cl_v r (y2 := mX8_isPlace) dX8_tell_2 li_X8_76 mv_X8_isPlace rfl (by decide) [.int (k)] [] rfl (Nat.le_of_ble_eq_true rfl) rfl (c_X8_isPlace (by omega) hv hc _) ?_
  show J 5 [some (.ref 0), some (.int (k)), none] [.int (if 0 ≤ k ∧ k < nI (pN P) then 1 else 0)] (bf_MD D)
  refine nb_ne r (tgt := 10) dX8_tell_5 (by decide) (fun c202 => ?_) (fun c202 => ?_)
  · obtain ⟨k0, hk0, rfl⟩ := rg_in (by omega) c202
    have wk := rg_s hk0 (by omega)
    refine bf_aload_n r.1 dX8_tell_10 rfl ?_
    refine ig_ref r (b := 2) dX8_tell_11 fl_X8_20 rfl (by decide) rfl ?_
    refine ig_ref r (b := 3) dX8_tell_14 fl_X8_80 rfl (by decide) rfl ?_
    refine bf_iload_n r.1 dX8_tell_17 rfl ?_
    refine aa_ld r (n := 4) (b := 6 + 3 * k0) dX8_tell_18 (by decide) rfl (by decide) (Nat.lt_of_lt_of_le hk0 hn4) (ad_a3 (Nat.lt_of_lt_of_le hk0 hn4)) ?_
    refine bf_astore_n r.1 (L2 := [some (.ref 0), some (.int (nI k0)), some (.ref (6 + 3 * k0))]) dX8_tell_19 rfl ?_
    refine bf_aload_n r.1 dX8_tell_20 rfl ?_
    refine ig_int r (v := nI (pK P k0)) dX8_tell_21 fl_X8_84 (ad_c6 (Nat.lt_of_lt_of_le hk0 hn4)) (ad_l6 (Nat.lt_of_lt_of_le hk0 hn4)) (ad_i6 (Nat.lt_of_lt_of_le hk0 hn4) 3 (by decide)) (cP_k (P := P) hc hk0) ?_
    by_cases c203 : (nI (pK P k0)) = nI 1
    · refine bf_lookup r.1 (off := 34) (tgt := 58) dX8_tell_24 (by decide) (by rw [c203]; decide) (by decide) ?_
      refine bf_aload_n r.1 dX8_tell_58 rfl ?_
      refine bf_aload_n r.1 dX8_tell_59 rfl ?_
      refine ce_v r (y2 := mX8_mirroredBody) dX8_tell_60 li_X8_237 mv_X8_mirroredBody rfl (by decide) [.ref (6 + 3 * k0)] [] rfl (Nat.le_of_ble_eq_true rfl) rfl (e_X8_mirroredBody (by omega) ⟨hv, vs, vr, hF⟩ ca hk0) (fun res D204 hq204 => ?_)
      obtain ⟨rfl, hca204, hf204⟩ := hq204
      show J 63 [some (.ref 0), some (.int (nI k0)), some (.ref (6 + 3 * k0))] [.int (nI (pD P k0 + 100))] (bf_MD D204)
      replace ca := hca204
      obtain ⟨hc, cs, cr, c5, c6⟩ := id ca
      have ho : ox_tell P S Q F T (nI k0) = (nI (pD P k0 + 100), (P, S, Q, F, lvT (lvT T 2) 1)) := by simp only [ox_tell, wk, if_pos c203, on_n, on_s]
      exact re_i r dX8_tell_63 rfl rfl ⟨by rw [ho], by rw [ho]; exact ca, (fr_t fr_0 hf204)⟩
    · by_cases c205 : (nI (pK P k0)) = nI 2
      · refine bf_lookup r.1 (off := 28) (tgt := 52) dX8_tell_24 (by decide) (by rw [c205]; decide) (by decide) ?_
        refine bf_aload_n r.1 dX8_tell_52 rfl ?_
        refine bf_aload_n r.1 dX8_tell_53 rfl ?_
        refine ce_v r (y2 := mX8_turnedBody) dX8_tell_54 li_X8_233 mv_X8_turnedBody rfl (by decide) [.ref (6 + 3 * k0)] [] rfl (Nat.le_of_ble_eq_true rfl) rfl (e_X8_turnedBody (by omega) ⟨hv, vs, vr, hF⟩ ca hk0) (fun res D206 hq206 => ?_)
        obtain ⟨rfl, hca206, hf206⟩ := hq206
        show J 57 [some (.ref 0), some (.int (nI k0)), some (.ref (6 + 3 * k0))] [.int (nI (pD P k0 + 100 + pD P k0))] (bf_MD D206)
        replace ca := hca206
        obtain ⟨hc, cs, cr, c5, c6⟩ := id ca
        have ho : ox_tell P S Q F T (nI k0) = (nI (pD P k0 + 100 + pD P k0), (P, S, Q, F, lvT (lvT (lvT (lvT T 3) 2) 1) 1)) := by simp only [ox_tell, wk, if_neg c203, if_pos c205, on_n, on_s]
        exact re_i r dX8_tell_57 rfl rfl ⟨by rw [ho], by rw [ho]; exact ca, (fr_t fr_0 hf206)⟩
      · refine bf_lookup r.1 (off := 40) (tgt := 64) dX8_tell_24 (by decide) (by show Op.lookupswitch.offset [(1, 34), (2, 28)] _ _ = _; rw [lv_osw c203 (by decide), lv_osw c205 (by decide)]; rfl) (by decide) ?_
        refine bf_aload_n r.1 dX8_tell_64 rfl ?_
        refine bf_aload_n r.1 dX8_tell_65 rfl ?_
        refine ce_v r (y2 := mX8_fairBody) dX8_tell_66 li_X8_240 mv_X8_fairBody rfl (by decide) [.ref (6 + 3 * k0)] [] rfl (Nat.le_of_ble_eq_true rfl) rfl (e_X8_fairBody (by omega) ⟨hv, vs, vr, hF⟩ ca hk0) (fun res D207 hq207 => ?_)
        obtain ⟨rfl, hca207, hf207⟩ := hq207
        show J 69 [some (.ref 0), some (.int (nI k0)), some (.ref (6 + 3 * k0))] [.int (nI (pD P k0))] (bf_MD D207)
        replace ca := hca207
        obtain ⟨hc, cs, cr, c5, c6⟩ := id ca
        have ho : ox_tell P S Q F T (nI k0) = (nI (pD P k0), (P, S, Q, F, lvT T 1)) := by simp only [ox_tell, wk, if_neg c203, if_neg c205, on_n, on_s]
        exact re_i r dX8_tell_69 rfl rfl ⟨by rw [ho], by rw [ho]; exact ca, (fr_t fr_0 hf207)⟩
  · have wk := rg_n c202
    refine bf_iconst r.1 (v := -1) dX8_tell_8 rfl ?_
    have ho : ox_tell P S Q F T k = (-1, (P, S, Q, F, T)) := by simp only [ox_tell, wk, on_n, on_s]
    exact re_i r dX8_tell_9 rfl rfl ⟨by rw [ho], by rw [ho]; exact ca, fr_0⟩
theorem e_X8_hum {d : Nat} (hd : 10 ≤ d) {D : bf_D} {P : bf_Pn} {S : bf_Sh} {Q : bf_Rd} {F : Nat} {T : Int32} (va : vA (P, S, Q, F, T)) (ca : cA D (P, S, Q, F, T)) (k : Int32) : bf_Ce d mX8_hum [.ref 0, .int (k)] D (fun r D' => r = some (.int (ox_hum P S Q F T k).1) ∧ cA D' (ox_hum P S Q F T k).2 ∧ bf_fr 0 37 D D') := by
  refine bf_Ce_of 9 hd mo_X8_hum (Nat.le_of_ble_eq_true rfl) (fun e he J r => ?_)
  show J 0 [some (.ref 0), some (.int (k))] [] (bf_MD D)
  obtain ⟨hv, vs, vr, hF⟩ := id va
  obtain ⟨hc, cs, cr, c5, c6⟩ := id ca
  have hn4 := hv.1
  have hx4 := pX_le hv
  have hx0 := pX_pos P
  refine bf_aload_n r.1 dX8_hum_0 rfl ?_
  refine bf_iload_n r.1 dX8_hum_1 rfl ?_
  refine cl_v r (y2 := mX8_isPlace) dX8_hum_2 li_X8_76 mv_X8_isPlace rfl (by decide) [.int (k)] [] rfl (Nat.le_of_ble_eq_true rfl) rfl (c_X8_isPlace (by omega) hv hc _) ?_
  show J 5 [some (.ref 0), some (.int (k))] [.int (if 0 ≤ k ∧ k < nI (pN P) then 1 else 0)] (bf_MD D)
  refine nb_ne r (tgt := 10) dX8_hum_5 (by decide) (fun c208 => ?_) (fun c208 => ?_)
  · obtain ⟨k0, hk0, rfl⟩ := rg_in (by omega) c208
    have wk := rg_s hk0 (by omega)
    refine bf_aload_n r.1 dX8_hum_10 rfl ?_
    refine ig_ref r (b := 2) dX8_hum_11 fl_X8_20 rfl (by decide) rfl ?_
    refine ig_ref r (b := 3) dX8_hum_14 fl_X8_80 rfl (by decide) rfl ?_
    refine bf_iload_n r.1 dX8_hum_17 rfl ?_
    refine aa_ld r (n := 4) (b := 6 + 3 * k0) dX8_hum_18 (by decide) rfl (by decide) (Nat.lt_of_lt_of_le hk0 hn4) (ad_a3 (Nat.lt_of_lt_of_le hk0 hn4)) ?_
    refine ig_int r (v := nI (pK P k0)) dX8_hum_19 fl_X8_84 (ad_c6 (Nat.lt_of_lt_of_le hk0 hn4)) (ad_l6 (Nat.lt_of_lt_of_le hk0 hn4)) (ad_i6 (Nat.lt_of_lt_of_le hk0 hn4) 3 (by decide)) (cP_k (P := P) hc hk0) ?_
    refine bf_iconst r.1 (v := nI 2) dX8_hum_22 rfl ?_
    refine nc_ne r (tgt := 34) dX8_hum_23 (by decide) (by have := (hv.2.2.2.2 k0 hk0).1; omega) (by decide) (fun c209 => ?_) (fun c209 => ?_)
    · refine bf_aload_n r.1 dX8_hum_34 rfl ?_
      refine bf_iconst r.1 (v := nI 4) dX8_hum_35 rfl ?_
      refine ce_v r (y2 := mX8_leave) dX8_hum_36 li_X8_243 mv_X8_leave rfl (by decide) [.int (nI 4)] [] rfl (Nat.le_of_ble_eq_true rfl) rfl (e_X8_leave (by omega) hn4 ca 4) (fun res D210 hq210 => ?_)
      obtain ⟨rfl, hca210, hf210⟩ := hq210
      show J 39 [some (.ref 0), some (.int (nI k0))] [] (bf_MD D210)
      replace ca := hca210
      obtain ⟨hc, cs, cr, c5, c6⟩ := id ca
      refine bf_iload_n r.1 dX8_hum_39 rfl ?_
      have ho : ox_hum P S Q F T (nI k0) = (nI k0, (P, S, Q, F, lvT T 4)) := by simp only [ox_hum, wk, if_neg c209, on_n, on_s]
      exact re_i r dX8_hum_40 rfl rfl ⟨by rw [ho], by rw [ho]; exact ca, (fr_t fr_0 hf210)⟩
    · refine bf_aload_n r.1 dX8_hum_26 rfl ?_
      refine bf_iconst r.1 (v := nI 5) dX8_hum_27 rfl ?_
      refine ce_v r (y2 := mX8_leave) dX8_hum_28 li_X8_243 mv_X8_leave rfl (by decide) [.int (nI 5)] [] rfl (Nat.le_of_ble_eq_true rfl) rfl (e_X8_leave (by omega) hn4 ca 5) (fun res D211 hq211 => ?_)
      obtain ⟨rfl, hca211, hf211⟩ := hq211
      show J 31 [some (.ref 0), some (.int (nI k0))] [] (bf_MD D211)
      replace ca := hca211
      obtain ⟨hc, cs, cr, c5, c6⟩ := id ca
      refine bf_bipush r.1 (v := nI 60) dX8_hum_31 rfl ?_
      have ho : ox_hum P S Q F T (nI k0) = (nI 60, (P, S, Q, F, lvT T 5)) := by simp only [ox_hum, wk, if_pos c209, on_n, on_s]
      exact re_i r dX8_hum_33 rfl rfl ⟨by rw [ho], by rw [ho]; exact ca, (fr_t fr_0 hf211)⟩
  · have wk := rg_n c208
    refine bf_iconst r.1 (v := -1) dX8_hum_8 rfl ?_
    have ho : ox_hum P S Q F T k = (-1, (P, S, Q, F, T)) := by simp only [ox_hum, wk, on_n, on_s]
    exact re_i r dX8_hum_9 rfl rfl ⟨by rw [ho], by rw [ho]; exact ca, fr_0⟩
theorem e_X8_as {d : Nat} (hd : 10 ≤ d) {D : bf_D} {P : bf_Pn} {S : bf_Sh} {Q : bf_Rd} {F : Nat} {T : Int32} (va : vA (P, S, Q, F, T)) (ca : cA D (P, S, Q, F, T)) (k q : Int32) : bf_Ce d mX8_as [.ref 0, .int (k), .int (q)] D (fun r D' => r = some (.int (ox_as P S Q F T k q).1) ∧ cA D' (ox_as P S Q F T k q).2 ∧ bf_fr 0 37 D D') := by
  refine bf_Ce_of 9 hd mo_X8_as (Nat.le_of_ble_eq_true rfl) (fun e he J r => ?_)
  show J 0 [some (.ref 0), some (.int (k)), some (.int (q))] [] (bf_MD D)
  obtain ⟨hv, vs, vr, hF⟩ := id va
  obtain ⟨hc, cs, cr, c5, c6⟩ := id ca
  have hn4 := hv.1
  have hx4 := pX_le hv
  have hx0 := pX_pos P
  refine bf_aload_n r.1 dX8_as_0 rfl ?_
  refine bf_iconst r.1 (v := nI 0) dX8_as_1 rfl ?_
  refine ip_int r dX8_as_2 fp_X8_46 rfl (by decide) rfl ?_
  replace ca := cA_5 hn4 0 ca
  obtain ⟨hc, cs, cr, c5, c6⟩ := id ca
  refine bf_aload_n r.1 dX8_as_5 rfl ?_
  refine bf_iload_n r.1 dX8_as_6 rfl ?_
  refine cl_v r (y2 := mX8_isPlace) dX8_as_7 li_X8_76 mv_X8_isPlace rfl (by decide) [.int (k)] [] rfl (Nat.le_of_ble_eq_true rfl) rfl (c_X8_isPlace (by omega) hv hc _) ?_
  show J 10 [some (.ref 0), some (.int (k)), some (.int (q))] [.int (if 0 ≤ k ∧ k < nI (pN P) then 1 else 0)] (bf_MD (bf_u D 0 5 (nI 0)))
  refine nb_ne r (tgt := 15) dX8_as_10 (by decide) (fun c212 => ?_) (fun c212 => ?_)
  · obtain ⟨k0, hk0, rfl⟩ := rg_in (by omega) c212
    have wk := rg_s hk0 (by omega)
    refine bf_iload_n r.1 dX8_as_15 rfl ?_
    refine bf_iconst r.1 (v := nI 3) dX8_as_16 rfl ?_
    refine cl_s r (y2 := mX8_isWithin) dX8_as_17 li_X8_50 mv_X8_isWithin [.int (q), .int (nI 3)] [] rfl (Nat.le_of_ble_eq_true rfl) rfl (c_X8_isWithin (by omega) (bf_u D 0 5 (nI 0)) _ _) ?_
    show J 20 [some (.ref 0), some (.int (nI k0)), some (.int (q))] [.int (if 0 ≤ q ∧ q < nI 3 then 1 else 0)] (bf_MD (bf_u D 0 5 (nI 0)))
    refine nb_ne r (tgt := 26) dX8_as_20 (by decide) (fun c213 => ?_) (fun c213 => ?_)
    · obtain ⟨q0, hq0, rfl⟩ := rg_in (by decide) c213
      have wq := rg_s hq0 (by decide)
      refine bf_aload_n r.1 dX8_as_26 rfl ?_
      refine ig_ref r (b := 2) dX8_as_27 fl_X8_20 rfl (by decide) rfl ?_
      refine ig_ref r (b := 3) dX8_as_30 fl_X8_80 rfl (by decide) rfl ?_
      refine bf_iload_n r.1 dX8_as_33 rfl ?_
      refine aa_ld r (n := 4) (b := 6 + 3 * k0) dX8_as_34 (by decide) rfl (by decide) (Nat.lt_of_lt_of_le hk0 hn4) (ad_a3 (Nat.lt_of_lt_of_le hk0 hn4)) ?_
      refine ig_int r (v := nI (pK P k0)) dX8_as_35 fl_X8_84 (ad_c6 (Nat.lt_of_lt_of_le hk0 hn4)) (ad_l6 (Nat.lt_of_lt_of_le hk0 hn4)) (ad_i6 (Nat.lt_of_lt_of_le hk0 hn4) 3 (by decide)) (cP_k (P := P) hc hk0) ?_
      refine bf_iload_n r.1 dX8_as_38 rfl ?_
      refine nc_lt r (tgt := 46) dX8_as_39 (by decide) (by have := (hv.2.2.2.2 k0 hk0).1; omega) (by omega) (fun c214 => ?_) (fun c214 => ?_)
      · refine bf_aload_n r.1 dX8_as_46 rfl ?_
        refine bf_iconst r.1 (v := nI 2) dX8_as_47 rfl ?_
        refine cl_v r (y2 := mX8_faulted) dX8_as_48 li_X8_58 mv_X8_faulted rfl (by decide) [.int (nI 2)] [] rfl (Nat.le_of_ble_eq_true rfl) rfl (c_X8_faulted (by omega) (bf_u D 0 5 (nI 0)) _) ?_
        show J 51 [some (.ref 0), some (.int (nI k0)), some (.int (nI q0))] [.int (-10 - nI 2)] (bf_MD (bf_u (bf_u D 0 5 (nI 0)) 0 5 (nI 2)))
        have ho : ox_as P S Q F T (nI k0) (nI q0) = (-10 - nI 2, (P, S, Q, 2, T)) := by simp only [ox_as, wk, wq, if_pos c214, on_n, on_s]
        exact re_i r dX8_as_51 rfl rfl ⟨by rw [ho], by rw [ho]; exact (cA_5 hn4 2 ca), (fr_u (fr_u fr_0 (by decide) (by decide)) (by decide) (by decide))⟩
      · refine bf_iconst r.1 (v := nI 1) dX8_as_42 rfl ?_
        refine bf_goto r.1 (tgt := 51) dX8_as_43 (by decide) ?_
        have ho : ox_as P S Q F T (nI k0) (nI q0) = (nI 1, (P, S, Q, 0, T)) := by simp only [ox_as, wk, wq, if_neg (Nat.not_lt.mpr c214), on_n, on_s]
        exact re_i r dX8_as_51 rfl rfl ⟨by rw [ho], by rw [ho]; exact ca, (fr_u fr_0 (by decide) (by decide))⟩
    · have wq := rg_n c213
      refine bf_bipush r.1 (v := -2) dX8_as_23 rfl ?_
      have ho : ox_as P S Q F T (nI k0) q = (-2, (P, S, Q, 0, T)) := by simp only [ox_as, wk, wq, on_n, on_s]
      exact re_i r dX8_as_25 rfl rfl ⟨by rw [ho], by rw [ho]; exact ca, (fr_u fr_0 (by decide) (by decide))⟩
  · have wk := rg_n c212
    refine bf_iconst r.1 (v := -1) dX8_as_13 rfl ?_
    have ho : ox_as P S Q F T k q = (-1, (P, S, Q, 0, T)) := by simp only [ox_as, wk, on_n, on_s]
    exact re_i r dX8_as_14 rfl rfl ⟨by rw [ho], by rw [ho]; exact ca, (fr_u fr_0 (by decide) (by decide))⟩
