/-! what is valid stays so -/
theorem on_v {α : Type} {p : α → Prop} {o : Option Nat} {e : α} {f : Nat → α} (h1 : p e) (h2 : ∀ j, o = some j → p (f j)) : p (bf_on o e f) := by
  cases o with
  | none => rw [on_n]; exact h1
  | some j => rw [on_s]; exact h2 j rfl
theorem it_v {α : Type} {p : α → Prop} {c : Prop} [hc : Decidable c] {a b : α} (h1 : c → p a) (h2 : ¬ c → p b) : p (if c then a else b) := by
  by_cases h : c
  · rw [if_pos h]; exact h1 h
  · rw [if_neg h]; exact h2 h
theorem rg_j {k : Int32} {n j : Nat} (hn : n < 2 ^ 31) (h : bf_rg k n = some j) : j < n := by
  by_cases c : 0 ≤ k ∧ k < nI n
  · obtain ⟨j2, h2, rfl⟩ := rg_in hn c
    rw [rg_s h2 hn] at h
    cases h
    exact h2
  · rw [rg_n c] at h; cases h
theorem vS_put {S : bf_Sh} {k : Nat} {z : Option Nat} {l : Nat} {c : Nat → Int32} (h : vS S) (hl : l < 3) (hz : ∀ n, z = some n → n ≤ 60) : vS (sPut S k z l c) := by
  intro i hi
  by_cases e : i = k
  · refine ⟨?_, fun n hn => hz n ?_⟩
    · show (if i = k then l else sL S i) < 3; rw [if_pos e]; exact hl
    · have h9 : (if i = k then z else sZ S i) = some n := hn
      rwa [if_pos e] at h9
  · refine ⟨?_, fun n hn => (h i hi).2 n ?_⟩
    · show (if i = k then l else sL S i) < 3; rw [if_neg e]; exact (h i hi).1
    · have h9 : (if i = k then z else sZ S i) = some n := hn
      rwa [if_neg e] at h9
section
variable {P : bf_Pn} {S : bf_Sh} {Q : bf_Rd} {F : Nat} {T : Int32}
theorem vP_1 (h : vP P) {k : Nat} (hk : k < pN P) : 1 ≤ pL P := by
  rcases h.2.2.1 with q | q
  · omega
  · exact q
theorem vP_kl (h : vP P) {k s : Nat} (hk : k < pN P) (hs : s < 128) : vP (pKl P k s) := by
  have h9 := h.2.2.2.2 k hk
  refine vP_set h hk h9.1 hs h9.2.2.1 (fun b hb => ?_)
  have hw := h9.2.2.2 b hb
  by_cases c : bf_wh (pD P k) s b = true
  · rw [if_pos c]; exact ⟨Nat.zero_le _, fun _ => vP_1 h hk⟩
  · rw [if_neg c]
    refine ⟨hw.1, fun q => hw.2 ?_⟩
    rw [wh_bit hb, q] at c
    cases hd : (pD P k).testBit b with
    | false => rfl
    | true => rw [hd] at c; exact absurd rfl c
theorem vP_jm (h : vP P) {k s : Nat} (hk : k < pN P) (hs : s < 128) : vP (pJm P k s) := by
  have h9 := h.2.2.2.2 k hk
  exact vP_set h hk h9.1 h9.2.1 hs h9.2.2.2
theorem vR_n {P' : bf_Pn} (h : vR Q P) (e : pN P' = pN P) : vR Q P' := ⟨h.1, fun i hi => by rw [e]; exact h.2 i hi⟩
theorem v_F (va : vA (P, S, Q, F, T)) {F' : Nat} {T' : Int32} (h : F' ≤ 4) : vA (P, S, Q, F', T') := ⟨va.1, va.2.1, va.2.2.1, h⟩
theorem v_kill (va : vA (P, S, Q, F, T)) (k s : Int32) : vA (ox_kill P S Q F T k s).2 := by
  have hn := va.1.1
  exact on_v (p := fun q : Int32 × bf_St => vA q.2) va (fun j hj => on_v (p := fun q : Int32 × bf_St => vA q.2) va (fun t ht => ⟨vP_kl va.1 (rg_j (by omega) hj) (rg_j (by decide) ht), va.2.1, vR_n va.2.2.1 rfl, va.2.2.2⟩))
theorem v_jam (va : vA (P, S, Q, F, T)) (k s : Int32) : vA (ox_jam P S Q F T k s).2 := by
  have hn := va.1.1
  exact on_v (p := fun q : Int32 × bf_St => vA q.2) va (fun j hj => on_v (p := fun q : Int32 × bf_St => vA q.2) va (fun t ht => ⟨vP_jm va.1 (rg_j (by omega) hj) (rg_j (by decide) ht), va.2.1, vR_n va.2.2.1 rfl, va.2.2.2⟩))
theorem v_tell (va : vA (P, S, Q, F, T)) (k : Int32) : vA (ox_tell P S Q F T k).2 :=
  on_v (p := fun q : Int32 × bf_St => vA q.2) va (fun j _ => it_v (p := fun q : Int32 × bf_St => vA q.2) (fun _ => va) (fun _ => it_v (p := fun q : Int32 × bf_St => vA q.2) (fun _ => va) (fun _ => va)))
theorem v_hum (va : vA (P, S, Q, F, T)) (k : Int32) : vA (ox_hum P S Q F T k).2 :=
  on_v (p := fun q : Int32 × bf_St => vA q.2) va (fun j _ => it_v (p := fun q : Int32 × bf_St => vA q.2) (fun _ => va) (fun _ => va))
theorem v_as (va : vA (P, S, Q, F, T)) (k q : Int32) : vA (ox_as P S Q F T k q).2 :=
  on_v (p := fun q : Int32 × bf_St => vA q.2) (v_F va (by decide)) (fun j _ => on_v (p := fun q : Int32 × bf_St => vA q.2) (v_F va (by decide)) (fun t _ => it_v (p := fun q : Int32 × bf_St => vA q.2) (fun _ => v_F va (by decide)) (fun _ => v_F va (by decide))))
theorem v_reading (va : vA (P, S, Q, F, T)) (k x s : Int32) : vA (ox_reading P S Q F T k x s).2 := by
  have hn := va.1.1
  refine on_v (p := fun q : Int32 × bf_St => vA q.2) va (fun k' hk => on_v (p := fun q : Int32 × bf_St => vA q.2) va (fun x' hx => on_v (p := fun q : Int32 × bf_St => vA q.2) va (fun s' hs => it_v (p := fun q : Int32 × bf_St => vA q.2) (fun _ => va) (fun h8 => ⟨va.1, va.2.1, ?_, va.2.2.2⟩))))
  have hr := va.2.2.1
  refine ⟨by show rN Q + 1 ≤ 8; have := hr.1; omega, fun i hi => ?_⟩
  have hi2 : i < rN Q + 1 := hi
  show (if i = rN Q then k' else rP Q i) < pN P ∧ (if i = rN Q then x' else rG Q i) < 10 ∧ (if i = rN Q then s' else rS Q i) < 128
  by_cases e : i = rN Q
  · rw [if_pos e, if_pos e, if_pos e]; exact ⟨rg_j (by omega) hk, rg_j (by decide) hx, rg_j (by decide) hs⟩
  · rw [if_neg e, if_neg e, if_neg e]; exact hr.2 i (by omega)
theorem v_back (va : vA (P, S, Q, F, T)) (k : Int32) : vA (ox_back P S Q F T k).2 := by
  have hr := va.2.2.1
  refine on_v (p := fun q : Int32 × bf_St => vA q.2) va (fun k' hk => ⟨va.1, va.2.1, ⟨by show rN Q - k' ≤ 8; have := hr.1; omega, fun i hi => ?_⟩, va.2.2.2⟩)
  have hi2 : i < rN Q - k' := hi
  exact hr.2 i (by omega)
theorem v_sheet (va : vA (P, S, Q, F, T)) (k l n : Int32) : vA (ox_sheet P S Q F T k l n).2 :=
  on_v (p := fun q : Int32 × bf_St => vA q.2) (v_F va (by decide)) (fun k' _ => on_v (p := fun q : Int32 × bf_St => vA q.2) (v_F va (by decide)) (fun l' hl => on_v (p := fun q : Int32 × bf_St => vA q.2) (it_v (p := fun q : Int32 × bf_St => vA q.2) (fun _ => v_F va (by decide)) (fun _ => v_F va (by decide))) (fun n' hn => ⟨va.1, vS_put va.2.1 (rg_j (by decide) hl) (fun m hm => by cases hm; have := rg_j (by decide) hn; omega), va.2.2.1, by decide⟩)))
theorem v_lose (va : vA (P, S, Q, F, T)) (k : Int32) : vA (ox_lose P S Q F T k).2 :=
  on_v (p := fun q : Int32 × bf_St => vA q.2) va (fun k' hk => ⟨va.1, vS_put va.2.1 (va.2.1 k' (rg_j (by decide) hk)).1 (fun m hm => by cases hm), va.2.2.1, va.2.2.2⟩)
theorem v_put (va : vA (P, S, Q, F, T)) (k i v : Int32) : vA (ox_put P S Q F T k i v).2 :=
  on_v (p := fun q : Int32 × bf_St => vA q.2) (v_F va (by decide)) (fun k' hk => on_v (p := fun q : Int32 × bf_St => vA q.2) (v_F va (by decide)) (fun n hn => on_v (p := fun q : Int32 × bf_St => vA q.2) (v_F va (by decide)) (fun i' _ => ⟨va.1, vS_put va.2.1 (va.2.1 k' (rg_j (by decide) hk)).1 (fun m hm => by cases hm; exact (va.2.1 k' (rg_j (by decide) hk)).2 _ hn), va.2.2.1, by decide⟩)))
theorem v_cell (va : vA (P, S, Q, F, T)) (k i l : Int32) : vA (ox_cell P S Q F T k i l).2 :=
  on_v (p := fun q : Int64 × bf_St => vA q.2) (v_F va (by decide)) (fun k' _ => on_v (p := fun q : Int64 × bf_St => vA q.2) (v_F va (by decide)) (fun l' _ => it_v (p := fun q : Int64 × bf_St => vA q.2) (fun _ => v_F va (by decide)) (fun _ => v_F va (bf_foc_le _ _ _ _ _))))
theorem v_copy (va : vA (P, S, Q, F, T)) (k i o j n : Int32) : vA (ox_copy P S Q F T k i o j n).2 :=
  on_v (p := fun q : Int32 × bf_St => vA q.2) (v_F va (by decide)) (fun k' _ => on_v (p := fun q : Int32 × bf_St => vA q.2) (v_F va (by decide)) (fun o' ho => on_v (p := fun q : Int32 × bf_St => vA q.2) (v_F va (by decide)) (fun z _ => on_v (p := fun q : Int32 × bf_St => vA q.2) (v_F va (by decide)) (fun z2 hz2 => it_v (p := fun q : Int32 × bf_St => vA q.2) (fun _ => it_v (p := fun q : Int32 × bf_St => vA q.2) (fun _ => it_v (p := fun q : Int32 × bf_St => vA q.2) (fun _ => ⟨va.1, vS_put va.2.1 (va.2.1 o' (rg_j (by decide) ho)).1 (fun m hm => by cases hm; exact (va.2.1 o' (rg_j (by decide) ho)).2 _ hz2), va.2.2.1, by decide⟩) (fun _ => v_F va (by decide))) (fun _ => v_F va (by decide))) (fun _ => v_F va (by decide))))))
theorem v_go (va : vA (P, S, Q, F, T)) (n : Int32) : vA (ox_go P S Q F T n).2 :=
  it_v (p := fun q : Int32 × bf_St => vA q.2) (fun _ => va) (fun _ => on_v (p := fun q : Int32 × bf_St => vA q.2) va (fun j _ => ⟨(gP_v va.1 j).1, va.2.1, vR_n va.2.2.1 (gP_v va.1 j).2, va.2.2.2⟩))
theorem v_panel (va : vA (P, S, Q, F, T)) (k l i n : Int32) : vA (ox_panel P S Q F T k l i n).2 :=
  on_v (p := fun q : Int32 × bf_St => vA q.2) (v_F va (by decide)) (fun k' _ => on_v (p := fun q : Int32 × bf_St => vA q.2) (v_F va (by decide)) (fun l' _ => it_v (p := fun q : Int32 × bf_St => vA q.2) (fun _ => it_v (p := fun q : Int32 × bf_St => vA q.2) (fun h => ⟨vP_tx (tOk_of h), va.2.1, ⟨Nat.zero_le _, fun i hi => absurd hi (Nat.not_lt_zero _)⟩, by decide⟩) (fun _ => v_F va (by decide))) (fun _ => v_F va (bf_foc_le _ _ _ _ _))))
theorem v_seen (va : vA (P, S, Q, F, T)) (k l i n s wh : Int32) : vA (ox_seen P S Q F T k l i n s wh).2 :=
  on_v (p := fun q : Int32 × bf_St => vA q.2) (v_F va (by decide)) (fun _ _ => on_v (p := fun q : Int32 × bf_St => vA q.2) (v_F va (by decide)) (fun _ _ => on_v (p := fun q : Int32 × bf_St => vA q.2) (v_F va (by decide)) (fun _ _ => on_v (p := fun q : Int32 × bf_St => vA q.2) (v_F va (by decide)) (fun _ _ => on_v (p := fun q : Int32 × bf_St => vA q.2) (v_F va (by decide)) (fun _ _ => it_v (p := fun q : Int32 × bf_St => vA q.2) (fun _ => v_F va (by decide)) (fun _ => it_v (p := fun q : Int32 × bf_St => vA q.2) (fun _ => it_v (p := fun q : Int32 × bf_St => vA q.2) (fun _ => v_F va (by decide)) (fun _ => v_F va (by decide))) (fun _ => v_F va (bf_foc_le _ _ _ _ _))))))))
theorem v_order (va : vA (P, S, Q, F, T)) (k l i n wh : Int32) : vA (ox_order P S Q F T k l i n wh).2 :=
  on_v (p := fun q : Int32 × bf_St => vA q.2) (v_F va (by decide)) (fun _ _ => on_v (p := fun q : Int32 × bf_St => vA q.2) (v_F va (by decide)) (fun _ _ => on_v (p := fun q : Int32 × bf_St => vA q.2) (v_F va (by decide)) (fun _ _ => it_v (p := fun q : Int32 × bf_St => vA q.2) (fun _ => it_v (p := fun q : Int32 × bf_St => vA q.2) (fun _ => v_F va (by decide)) (fun _ => it_v (p := fun q : Int32 × bf_St => vA q.2) (fun _ => it_v (p := fun q : Int32 × bf_St => vA q.2) (fun _ => v_F va (by decide)) (fun _ => v_F va (by decide))) (fun _ => v_F va (bf_foc_le _ _ _ _ _)))) (fun _ => v_F va (by decide)))))
end
theorem cA_fr {D D' : bf_D} : ∀ st : bf_St, vA st → cA D st → bf_fr 37 57 D D' → cA D' st := by
  rintro ⟨P, S, Q, F, T⟩ va ⟨h1, h2, h3, h4, h5⟩ hf
  exact ⟨cP_fr h1 hf (by decide) va.1.1, fun k hk => ⟨(hf _ _ (by omega)).trans (h2 k hk).1, (hf _ _ (by omega)).trans (h2 k hk).2.1, fun n hn i hi => (hf _ _ (by omega)).trans ((h2 k hk).2.2 n hn i hi)⟩, cR_fr h3 hf (by decide), (hf _ _ (by omega)).trans h4, (hf _ _ (by omega)).trans h5⟩
theorem mA_fr {D D' : bf_D} : ∀ st : bf_St, vA st → mA D st → bf_fr 0 37 D D' → mA D' st := by
  rintro ⟨P, S, Q, F, T⟩ va ⟨h1, h2, h3, h4, h5⟩ hf
  exact ⟨mP_e h1 va.1.1 (fun a j q => hf a j (by omega)), mS_e h2 (fun a j q => hf a j (by omega)), mR_e h3 (fun a j q => hf a j (by omega)), (hf _ _ (by omega)).trans h4, (hf _ _ (by omega)).trans h5⟩
/-- the start -/
def st0 : bf_St := ((0, 0, 0, (fun _ => 0), (fun _ => 0), (fun _ => 0), fun _ _ => 0), ((fun _ => none), (fun _ => 0), fun _ _ => 0), (0, (fun _ => 0), (fun _ => 0), fun _ => 0), 0, 0)
theorem v_st0 : vA st0 := ⟨⟨by decide, by decide, Or.inl rfl, by decide, fun k hk => absurd hk (Nat.not_lt_zero _)⟩, fun k _ => ⟨show 0 < 3 by decide, fun n hn => by cases hn⟩, ⟨by decide, fun i hi => absurd hi (Nat.not_lt_zero _)⟩, by decide⟩
theorem c_st0 : cA D0 st0 := by
  refine ⟨⟨⟨rfl, rfl, rfl, rfl⟩, fun k hk => absurd hk (Nat.not_lt_zero _), fun i _ => rfl⟩, fun k hk => ?_, ⟨rfl, fun i hi => absurd hi (Nat.not_lt_zero _)⟩, rfl, rfl⟩
  rcases (show k = 0 ∨ k = 1 ∨ k = 2 ∨ k = 3 by omega) with rfl | rfl | rfl | rfl <;> exact ⟨rfl, rfl, fun n hn => by cases hn⟩
theorem m_st0 : mA D0 st0 := by
  refine ⟨⟨⟨rfl, rfl, rfl⟩, fun k hk => absurd hk (Nat.not_lt_zero _)⟩, fun k hk => ?_, ⟨rfl, fun i hi => absurd hi (Nat.not_lt_zero _)⟩, rfl, rfl⟩
  rcases (show k = 0 ∨ k = 1 ∨ k = 2 ∨ k = 3 by omega) with rfl | rfl | rfl | rfl <;> exact ⟨rfl, rfl, fun n hn => by cases hn⟩
