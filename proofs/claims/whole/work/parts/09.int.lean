abbrev bf_D : Type := Nat → Nat → Int32
/-- which places hold references: 1 more than the cell; 0: an int -/
def bf_rtL : List (List Nat) := [[2, 3, 19, 23, 25], [30, 32, 34, 36], [4], [7, 10, 13, 16], [6], [], [5, 8, 9], [], [], [5, 11, 12], [], [], [5, 14, 15], [], [], [5, 17, 18], [], [], [20, 21, 22], [], [], [], [24], [], [26, 27, 28, 29], [], [], [], [], [31], [], [33], [], [35], [], [37], [], [0, 0, 0, 0, 39, 40, 41, 42, 0, 0, 43, 44, 45, 0, 46, 47, 48, 49, 50, 0, 51, 52, 53, 54, 55, 56, 57, 0], [], [], [], [], [], [], [], [], [], [], [], [], [], [], [], [], [], [], []]
def bf_rt (a j : Nat) : Nat := (bf_rtL.getD a []).getD j 0
def bf_mk (D : bf_D) : bf_Hp := fun a j => match bf_rt a j with
  | 0 => .int (D a j)
  | b + 1 => .ref b
def bf_MD (D : bf_D) : bf_G := (57, bf_mk D)
def bf_u (D : bf_D) (a j : Nat) (v : Int32) : bf_D := fun b i => if b = a then (if i = j then v else D b i) else D b i
theorem bf_mk0 {D : bf_D} {a j : Nat} (h : bf_rt a j = 0) : bf_mk D a j = .int (D a j) := by simp [bf_mk, h]
theorem bf_mkr {D : bf_D} {a j b : Nat} (h : bf_rt a j = b + 1) : bf_mk D a j = .ref b := by simp [bf_mk, h]
theorem bf_mk_up {D : bf_D} {a j : Nat} {v : Int32} (h : bf_rt a j = 0) : bf_up (bf_mk D) a j (.int v) = bf_mk (bf_u D a j v) := by
  funext b i
  by_cases hb : b = a
  · subst hb
    by_cases hi : i = j
    · subst hi
      simp [bf_up, bf_mk, bf_u, h]
    · simp [bf_up, bf_mk, bf_u, hi]
  · simp [bf_up, bf_mk, bf_u, hb]
theorem bf_rt9 {a n : Nat} (hk : bf_kd a = (9, n)) (ha : a < 57) (j : Nat) : bf_rt a j = 0 := by
  have key : ∀ a, a < 57 → (bf_kd a).1 = 9 → bf_rtL.getD a [] = [] := by decide +kernel
  have h := key a ha (by rw [hk])
  unfold bf_rt
  rw [h]
  rfl
theorem bf_kdn {a ci n : Nat} (hk : bf_kd a = (ci, n)) (ha : a < 57) : n ≤ 240 := by
  have key : ∀ a, a < 57 → (bf_kd a).2 ≤ 240 := by decide +kernel
  have h := key a ha
  rw [hk] at h
  exact h
theorem bf_us {D : bf_D} {a j : Nat} {v : Int32} : bf_u D a j v a j = v := by simp [bf_u]
theorem bf_un {D : bf_D} {a j b i : Nat} {v : Int32} (h : b ≠ a ∨ i ≠ j) : bf_u D a j v b i = D b i := by
  rcases h with h | h
  · simp [bf_u, h]
  · by_cases e : b = a <;> simp [bf_u, h, e]
section bfI
variable {C : bf_CR} {Post : bf_P} {y : bf_M} {J : bf_J} {pc : Nat} {L : bf_L} {S : List Value} {D : bf_D} {G : bf_G}
theorem ig_int (r : bf_All C 57 Post y J) {i ci j a : Nat} {v : Int32} (d : decode y.2.1 pc = .ok (.getfield i, 3)) (hf : bf_fl y.1.cls i ci j) (hk : (bf_kd a).1 = ci) (ha : a < 57) (ht : bf_rt a j = 0) (hv : D a j = v) (k : J (pc + 3) L (.int v :: S) (bf_MD D)) : J pc L (.ref a :: S) (bf_MD D) :=
  bf_get r.1 d hf hk ha (by show J _ _ (bf_mk D a j :: S) _; rw [bf_mk0 ht, hv]; exact k)
theorem ig_ref (r : bf_All C 57 Post y J) {i ci j a b : Nat} (d : decode y.2.1 pc = .ok (.getfield i, 3)) (hf : bf_fl y.1.cls i ci j) (hk : (bf_kd a).1 = ci) (ha : a < 57) (ht : bf_rt a j = b + 1) (k : J (pc + 3) L (.ref b :: S) (bf_MD D)) : J pc L (.ref a :: S) (bf_MD D) :=
  bf_get r.1 d hf hk ha (by show J _ _ (bf_mk D a j :: S) _; rw [bf_mkr ht]; exact k)
theorem ip_int (r : bf_All C 57 Post y J) {i ci j a : Nat} {v : Int32} (d : decode y.2.1 pc = .ok (.putfield i, 3)) (hf : bf_fp y.1.cls i ci j) (hk : (bf_kd a).1 = ci) (ha : a < 57) (ht : bf_rt a j = 0) (k : J (pc + 3) L S (bf_MD (bf_u D a j v))) : J pc L (.int v :: .ref a :: S) (bf_MD D) :=
  bf_put r.1 d hf hk ha (by show J _ _ S (57, bf_up (bf_mk D) a j (.int v)); rw [bf_mk_up ht]; exact k)
theorem ia_ld (r : bf_All C 57 Post y J) {a n i : Nat} {v : Int32} (d : decode y.2.1 pc = .ok (.iaload, 1)) (hk : bf_kd a = (9, n)) (ha : a < 57) (hi : i < n) (hv : D a i = v) (k : J (pc + 1) L (.int v :: S) (bf_MD D)) : J pc L (.int (nI i) :: .ref a :: S) (bf_MD D) :=
  have hn := bf_kdn hk ha
  bf_iald r.1 d hk ha (vp_in_nI hi (by omega)) (by show J _ _ (bf_mk D a _ :: S) _; rw [nI_clamp (by omega), bf_mk0 (bf_rt9 hk ha i), hv]; exact k)
theorem ia_st (r : bf_All C 57 Post y J) {a n i : Nat} {v : Int32} (d : decode y.2.1 pc = .ok (.iastore, 1)) (hk : bf_kd a = (9, n)) (ha : a < 57) (hi : i < n) (k : J (pc + 1) L S (bf_MD (bf_u D a i v))) : J pc L (.int v :: .int (nI i) :: .ref a :: S) (bf_MD D) :=
  have hn := bf_kdn hk ha
  bf_iast r.1 d hk ha (vp_in_nI hi (by omega)) (by show J _ _ S (57, bf_up (bf_mk D) a _ (.int v)); rw [nI_clamp (by omega), bf_mk_up (bf_rt9 hk ha i)]; exact k)
theorem aa_ld (r : bf_All C 57 Post y J) {a ci n i b : Nat} (d : decode y.2.1 pc = .ok (.aaload, 1)) (hc : ci = 10 ∨ ci = 11) (hk : bf_kd a = (ci, n)) (ha : a < 57) (hi : i < n) (ht : bf_rt a i = b + 1) (k : J (pc + 1) L (.ref b :: S) (bf_MD D)) : J pc L (.int (nI i) :: .ref a :: S) (bf_MD D) :=
  have hn := bf_kdn hk ha
  bf_aald r.1 d hc hk ha (vp_in_nI hi (by omega)) (by show bf_mk D a _ = _; rw [nI_clamp (by omega), bf_mkr ht]) k
theorem al_en (r : bf_All C 57 Post y J) {a n : Nat} (d : decode y.2.1 pc = .ok (.arraylength, 1)) (hk : bf_kd a = (9, n)) (ha : a < 57) (k : J (pc + 1) L (.int (nI n) :: S) (bf_MD D)) : J pc L (.ref a :: S) (bf_MD D) := bf_alen r.1 d hk ha rfl k
/-- the value on top, said otherwise -/
theorem eq_i {x v : Int32} (h : x = v) (k : J pc L (.int v :: S) G) : J pc L (.int x :: S) G := by rw [h]; exact k
theorem eq_l {x v : Int64} (h : x = v) (k : J pc L (.long v :: S) G) : J pc L (.long x :: S) G := by rw [h]; exact k
theorem na_add (r : bf_All C 57 Post y J) {x z : Nat} (d : decode y.2.1 pc = .ok (.iadd, 1)) (k : J (pc + 1) L (.int (nI (x + z)) :: S) G) : J pc L (.int (nI z) :: .int (nI x) :: S) G := bf_iadd r.1 d (by rw [nI_add]; exact k)
theorem na_sub (r : bf_All C 57 Post y J) {x z : Nat} (d : decode y.2.1 pc = .ok (.isub, 1)) (h : z ≤ x) (k : J (pc + 1) L (.int (nI (x - z)) :: S) G) : J pc L (.int (nI z) :: .int (nI x) :: S) G := bf_isub r.1 d (by rw [pk_sub h]; exact k)
theorem na_mul (r : bf_All C 57 Post y J) {x z : Nat} (d : decode y.2.1 pc = .ok (.imul, 1)) (k : J (pc + 1) L (.int (nI (x * z)) :: S) G) : J pc L (.int (nI z) :: .int (nI x) :: S) G := bf_imul r.1 d (by rw [pk_mul]; exact k)
theorem na_div (r : bf_All C 57 Post y J) {x z : Nat} (d : decode y.2.1 pc = .ok (.idiv, 1)) (hx : x < 2 ^ 31) (h0 : 0 < z) (hz : z < 2 ^ 31) (k : J (pc + 1) L (.int (nI (x / z)) :: S) G) : J pc L (.int (nI z) :: .int (nI x) :: S) G := bf_idiv r.1 d (nI_ne0 h0 hz) (by rw [pk_div hx h0 hz]; exact k)
theorem na_rem (r : bf_All C 57 Post y J) {x z : Nat} (d : decode y.2.1 pc = .ok (.irem, 1)) (hx : x < 2 ^ 31) (h0 : 0 < z) (hz : z < 2 ^ 31) (k : J (pc + 1) L (.int (nI (x % z)) :: S) G) : J pc L (.int (nI z) :: .int (nI x) :: S) G := bf_irem r.1 d (nI_ne0 h0 hz) (by rw [pk_rem hx h0 hz]; exact k)
theorem bf_andN (a b : Nat) : nI a &&& nI b = nI (a &&& b) := by
  apply Int32.toBitVec_inj.mp
  show BitVec.ofNat 32 a &&& BitVec.ofNat 32 b = BitVec.ofNat 32 (a &&& b)
  exact (BitVec.ofNat_and ..).symm
theorem bf_orN (a b : Nat) : nI a ||| nI b = nI (a ||| b) := by
  apply Int32.toBitVec_inj.mp
  show BitVec.ofNat 32 a ||| BitVec.ofNat 32 b = BitVec.ofNat 32 (a ||| b)
  exact (BitVec.ofNat_or ..).symm
theorem bf_xorN (a b : Nat) : nI a ^^^ nI b = nI (a ^^^ b) := by
  apply Int32.toBitVec_inj.mp
  show BitVec.ofNat 32 a ^^^ BitVec.ofNat 32 b = BitVec.ofNat 32 (a ^^^ b)
  exact (BitVec.ofNat_xor ..).symm
theorem na_and (r : bf_All C 57 Post y J) {x z : Nat} (d : decode y.2.1 pc = .ok (.iand, 1)) (k : J (pc + 1) L (.int (nI (x &&& z)) :: S) G) : J pc L (.int (nI z) :: .int (nI x) :: S) G := bf_iand r.1 d (by rw [bf_andN]; exact k)
theorem na_or (r : bf_All C 57 Post y J) {x z : Nat} (d : decode y.2.1 pc = .ok (.ior, 1)) (k : J (pc + 1) L (.int (nI (x ||| z)) :: S) G) : J pc L (.int (nI z) :: .int (nI x) :: S) G := bf_ior r.1 d (by rw [bf_orN]; exact k)
theorem na_xor (r : bf_All C 57 Post y J) {x z : Nat} (d : decode y.2.1 pc = .ok (.ixor, 1)) (k : J (pc + 1) L (.int (nI (x ^^^ z)) :: S) G) : J pc L (.int (nI z) :: .int (nI x) :: S) G := bf_ixor r.1 d (by rw [bf_xorN]; exact k)
theorem bf_m31 {z : Nat} (hz : z < 32) : nI z &&& 31 = nI z := by
  have h := pk_andN (n := z) (by omega) (m := 31) 5 (by decide)
  rw [h]
  congr 1
  omega
theorem bf_smod {z : Nat} (hz : z < 32) : ((nI z).toBitVec.smod 32).toNat = z := by
  have key : ∀ z : Fin 32, ((nI z.val).toBitVec.smod 32).toNat = z.val := by decide +kernel
  exact key ⟨z, hz⟩
theorem bf_shlN {x z : Nat} (hz : z < 32) (h : x * 2 ^ z < 2 ^ 32) : nI x <<< (nI z &&& 31) = nI (x * 2 ^ z) := by
  rw [bf_m31 hz]
  exact pk_shlN _ _ (bf_smod hz) h
theorem bf_shrN {x z : Nat} (hz : z < 32) (h : x < 2 ^ 31) : nI x >>> (nI z &&& 31) = nI (x / 2 ^ z) := by
  rw [bf_m31 hz]
  exact pk_shrN h _ _ (bf_smod hz)
theorem na_shl (r : bf_All C 57 Post y J) {x z : Nat} (d : decode y.2.1 pc = .ok (.ishl, 1)) (hz : z < 32) (h : x * 2 ^ z < 2 ^ 32) (k : J (pc + 1) L (.int (nI (x * 2 ^ z)) :: S) G) : J pc L (.int (nI z) :: .int (nI x) :: S) G := bf_ishl r.1 d (by rw [bf_shlN hz h]; exact k)
theorem na_shr (r : bf_All C 57 Post y J) {x z : Nat} (d : decode y.2.1 pc = .ok (.ishr, 1)) (hz : z < 32) (h : x < 2 ^ 31) (k : J (pc + 1) L (.int (nI (x / 2 ^ z)) :: S) G) : J pc L (.int (nI z) :: .int (nI x) :: S) G := bf_ishr r.1 d (by rw [bf_shrN hz h]; exact k)
theorem na_i2l (r : bf_All C 57 Post y J) {x : Nat} (d : decode y.2.1 pc = .ok (.i2l, 1)) (h : x < 2 ^ 31) (k : J (pc + 1) L (.long (lN x) :: S) G) : J pc L (.int (nI x) :: S) G := bf_i2l r.1 d (by rw [nI_l h]; exact k)
theorem na_inc (r : bf_All C 57 Post y J) {i x v : Nat} {n : Int} {L2 : bf_L} (d : decode y.2.1 pc = .ok (.iinc i n, 3)) (h1 : L[i]? = some (some (.int (nI x)))) (hv : nI x + Int32.ofInt n = nI v) (h : bf_s1 L i (.int (nI v)) = some L2) (k : J (pc + 3) L2 S G) : J pc L S G := bf_iinc r.1 d h1 hv h k
theorem nc_eq (r : bf_All C 57 Post y J) {x z tgt : Nat} {off : Int} (d : decode y.2.1 pc = .ok (.if_icmp .eq off, 3)) (ht : (pc : Int) + off = (tgt : Int)) (hx : x < 2 ^ 31) (hz : z < 2 ^ 31) (kt : x = z → J tgt L S G) (kf : x ≠ z → J (pc + 3) L S G) : J pc L (.int (nI z) :: .int (nI x) :: S) G := bf_icmp_eq r.1 d ht (fun q => kt ((nI_eq hx hz).mp q)) (fun q => kf (fun e => q ((nI_eq hx hz).mpr e)))
theorem nz_eq (r : bf_All C 57 Post y J) {x tgt : Nat} {off : Int} (d : decode y.2.1 pc = .ok (.ifCond .eq off, 3)) (ht : (pc : Int) + off = (tgt : Int)) (hx : x < 2 ^ 31) (kt : x = 0 → J tgt L S G) (kf : x ≠ 0 → J (pc + 3) L S G) : J pc L (.int (nI x) :: S) G := bf_if_eq r.1 d ht (fun q => kt ((nI_eq hx (show 0 < 2 ^ 31 by decide)).mp q)) (fun q => kf (fun e => q ((nI_eq hx (show 0 < 2 ^ 31 by decide)).mpr e)))
theorem nc_ne (r : bf_All C 57 Post y J) {x z tgt : Nat} {off : Int} (d : decode y.2.1 pc = .ok (.if_icmp .ne off, 3)) (ht : (pc : Int) + off = (tgt : Int)) (hx : x < 2 ^ 31) (hz : z < 2 ^ 31) (kt : x ≠ z → J tgt L S G) (kf : x = z → J (pc + 3) L S G) : J pc L (.int (nI z) :: .int (nI x) :: S) G := bf_icmp_ne r.1 d ht (fun q => kt (fun e => q ((nI_eq hx hz).mpr e))) (fun q => kf ((nI_eq hx hz).mp q))
theorem nz_ne (r : bf_All C 57 Post y J) {x tgt : Nat} {off : Int} (d : decode y.2.1 pc = .ok (.ifCond .ne off, 3)) (ht : (pc : Int) + off = (tgt : Int)) (hx : x < 2 ^ 31) (kt : x ≠ 0 → J tgt L S G) (kf : x = 0 → J (pc + 3) L S G) : J pc L (.int (nI x) :: S) G := bf_if_ne r.1 d ht (fun q => kt (fun e => q ((nI_eq hx (show 0 < 2 ^ 31 by decide)).mpr e))) (fun q => kf ((nI_eq hx (show 0 < 2 ^ 31 by decide)).mp q))
theorem nc_lt (r : bf_All C 57 Post y J) {x z tgt : Nat} {off : Int} (d : decode y.2.1 pc = .ok (.if_icmp .lt off, 3)) (ht : (pc : Int) + off = (tgt : Int)) (hx : x < 2 ^ 31) (hz : z < 2 ^ 31) (kt : x < z → J tgt L S G) (kf : z ≤ x → J (pc + 3) L S G) : J pc L (.int (nI z) :: .int (nI x) :: S) G := bf_icmp_lt r.1 d ht (fun q => kt ((nI_ltI hx hz).mp q)) (fun q => kf (Nat.le_of_not_lt (fun e => q ((nI_ltI hx hz).mpr e))))
theorem nz_lt (r : bf_All C 57 Post y J) {x tgt : Nat} {off : Int} (d : decode y.2.1 pc = .ok (.ifCond .lt off, 3)) (ht : (pc : Int) + off = (tgt : Int)) (hx : x < 2 ^ 31) (kt : x < 0 → J tgt L S G) (kf : 0 ≤ x → J (pc + 3) L S G) : J pc L (.int (nI x) :: S) G := bf_if_lt r.1 d ht (fun q => kt ((nI_ltI hx (show 0 < 2 ^ 31 by decide)).mp q)) (fun q => kf (Nat.le_of_not_lt (fun e => q ((nI_ltI hx (show 0 < 2 ^ 31 by decide)).mpr e))))
theorem nc_ge (r : bf_All C 57 Post y J) {x z tgt : Nat} {off : Int} (d : decode y.2.1 pc = .ok (.if_icmp .ge off, 3)) (ht : (pc : Int) + off = (tgt : Int)) (hx : x < 2 ^ 31) (hz : z < 2 ^ 31) (kt : z ≤ x → J tgt L S G) (kf : x < z → J (pc + 3) L S G) : J pc L (.int (nI z) :: .int (nI x) :: S) G := bf_icmp_ge r.1 d ht (fun q => kt ((nI_leI hz hx).mp q)) (fun q => kf (Nat.lt_of_not_le (fun e => q ((nI_leI hz hx).mpr e))))
theorem nz_ge (r : bf_All C 57 Post y J) {x tgt : Nat} {off : Int} (d : decode y.2.1 pc = .ok (.ifCond .ge off, 3)) (ht : (pc : Int) + off = (tgt : Int)) (hx : x < 2 ^ 31) (kt : 0 ≤ x → J tgt L S G) (kf : x < 0 → J (pc + 3) L S G) : J pc L (.int (nI x) :: S) G := bf_if_ge r.1 d ht (fun q => kt ((nI_leI (show 0 < 2 ^ 31 by decide) hx).mp q)) (fun q => kf (Nat.lt_of_not_le (fun e => q ((nI_leI (show 0 < 2 ^ 31 by decide) hx).mpr e))))
theorem nc_gt (r : bf_All C 57 Post y J) {x z tgt : Nat} {off : Int} (d : decode y.2.1 pc = .ok (.if_icmp .gt off, 3)) (ht : (pc : Int) + off = (tgt : Int)) (hx : x < 2 ^ 31) (hz : z < 2 ^ 31) (kt : z < x → J tgt L S G) (kf : x ≤ z → J (pc + 3) L S G) : J pc L (.int (nI z) :: .int (nI x) :: S) G := bf_icmp_gt r.1 d ht (fun q => kt ((nI_ltI hz hx).mp q)) (fun q => kf (Nat.le_of_not_lt (fun e => q ((nI_ltI hz hx).mpr e))))
theorem nz_gt (r : bf_All C 57 Post y J) {x tgt : Nat} {off : Int} (d : decode y.2.1 pc = .ok (.ifCond .gt off, 3)) (ht : (pc : Int) + off = (tgt : Int)) (hx : x < 2 ^ 31) (kt : 0 < x → J tgt L S G) (kf : x ≤ 0 → J (pc + 3) L S G) : J pc L (.int (nI x) :: S) G := bf_if_gt r.1 d ht (fun q => kt ((nI_ltI (show 0 < 2 ^ 31 by decide) hx).mp q)) (fun q => kf (Nat.le_of_not_lt (fun e => q ((nI_ltI (show 0 < 2 ^ 31 by decide) hx).mpr e))))
theorem nc_le (r : bf_All C 57 Post y J) {x z tgt : Nat} {off : Int} (d : decode y.2.1 pc = .ok (.if_icmp .le off, 3)) (ht : (pc : Int) + off = (tgt : Int)) (hx : x < 2 ^ 31) (hz : z < 2 ^ 31) (kt : x ≤ z → J tgt L S G) (kf : z < x → J (pc + 3) L S G) : J pc L (.int (nI z) :: .int (nI x) :: S) G := bf_icmp_le r.1 d ht (fun q => kt ((nI_leI hx hz).mp q)) (fun q => kf (Nat.lt_of_not_le (fun e => q ((nI_leI hx hz).mpr e))))
theorem nz_le (r : bf_All C 57 Post y J) {x tgt : Nat} {off : Int} (d : decode y.2.1 pc = .ok (.ifCond .le off, 3)) (ht : (pc : Int) + off = (tgt : Int)) (hx : x < 2 ^ 31) (kt : x ≤ 0 → J tgt L S G) (kf : 0 < x → J (pc + 3) L S G) : J pc L (.int (nI x) :: S) G := bf_if_le r.1 d ht (fun q => kt ((nI_leI hx (show 0 < 2 ^ 31 by decide)).mp q)) (fun q => kf (Nat.lt_of_not_le (fun e => q ((nI_leI hx (show 0 < 2 ^ 31 by decide)).mpr e))))
/-- an answer that is told by a statement -/
theorem bf_ite0 {c : Prop} [Decidable c] : ((if c then 1 else 0 : Int32) = 0) ↔ ¬ c := by
  by_cases h : c
  · simp [h]
  · simp [h]
theorem nb_eq (r : bf_All C 57 Post y J) {c : Prop} {hc : Decidable c} {tgt : Nat} {off : Int} (d : decode y.2.1 pc = .ok (.ifCond .eq off, 3)) (ht : (pc : Int) + off = (tgt : Int)) (kt : ¬ c → J tgt L S G) (kf : c → J (pc + 3) L S G) : J pc L (.int (@ite _ c hc 1 0) :: S) G := bf_if_eq r.1 d ht (fun q => kt (bf_ite0.mp q)) (fun q => kf (Decidable.not_not.mp (fun e => q (bf_ite0.mpr e))))
theorem nb_ne (r : bf_All C 57 Post y J) {c : Prop} {hc : Decidable c} {tgt : Nat} {off : Int} (d : decode y.2.1 pc = .ok (.ifCond .ne off, 3)) (ht : (pc : Int) + off = (tgt : Int)) (kt : c → J tgt L S G) (kf : ¬ c → J (pc + 3) L S G) : J pc L (.int (@ite _ c hc 1 0) :: S) G := bf_if_ne r.1 d ht (fun q => kt (Decidable.not_not.mp (fun e => q (bf_ite0.mpr e)))) (fun q => kf (bf_ite0.mp q))
end bfI
/-- a call with one answer -/
def bf_Cf (d : Nat) (y : bf_M) (vs : List Value) (D : bf_D) (r : Option Value) (D' : bf_D) : Prop := bf_Cl d y vs (bf_MD D) 57 (fun r' G' => r' = r ∧ G' = bf_MD D')
theorem bf_Cf_le {d d' : Nat} {y : bf_M} {vs : List Value} {D D' : bf_D} {r : Option Value} (h : d ≤ d') (hC : bf_Cf d y vs D r D') : bf_Cf d' y vs D r D' := bf_Cl_le h hC
theorem bf_Cf_of {d : Nat} {y : bf_M} {vs : List Value} {D D' : bf_D} {r : Option Value} {n : Nat} (k : Nat) (hd : k + 1 ≤ d) (ho : bf_mo y n) (hl : (bf_sl vs).length ≤ y.2.2.1) (h : ∀ (e : Nat), k ≤ e → ∀ J : bf_J, bf_All (bf_Cl e) 57 (fun r' G' => r' = r ∧ G' = bf_MD D') y J → J 0 (bf_ini y.2.2.1 vs) [] (bf_MD D)) : bf_Cf d y vs D r D' := by
  obtain ⟨e, rfl⟩ : ∃ e, d = e + 1 := ⟨d - 1, by omega⟩
  exact ⟨⟨ho.1, ho.2.2.1⟩, Nat.le_refl _, Nat.le_refl _, hl, h e (by omega)⟩
section bfK
variable {e : Nat} {Post : bf_P} {y : bf_M} {J : bf_J} {pc : Nat} {L : bf_L} {D : bf_D}
theorem cl_v (r : bf_All (bf_Cl e) 57 Post y J) {S0 : List Value} {i ci n a : Nat} {y2 : bf_M} {res : Option Value} {D' : bf_D} (d : decode y.2.1 pc = .ok (.invokevirtual i, 3)) (hli : bf_li y.1.cls i y2.1) (hm : bf_mv y2 ci n) (hk : (bf_kd a).1 = ci) (ha : a < 57) (vs S : List Value) (hn : vs.length = n) (hsum : (S.map Value.category).sum ≤ 8) (hS : S0 = vs.reverse ++ .ref a :: S) (hC : bf_Cf e y2 (.ref a :: vs) D res D') (k : J (pc + 3) L (res.toList ++ S) (bf_MD D')) : J pc L S0 (bf_MD D) :=
  r.2.1.1 pc L S S0 (bf_MD D) i y2 ci n a vs 57 _ d hli hm hk ha hn hsum hS hC (Nat.le_refl _) (fun r' G' h _ => by rw [h.1, h.2]; exact k)
theorem cl_s (r : bf_All (bf_Cl e) 57 Post y J) {S0 : List Value} {i n : Nat} {y2 : bf_M} {res : Option Value} {D' : bf_D} (d : decode y.2.1 pc = .ok (.invokestatic i, 3)) (hli : bf_li y.1.cls i y2.1) (hm : bf_ms y2 n) (vs S : List Value) (hn : vs.length = n) (hsum : (S.map Value.category).sum ≤ 8) (hS : S0 = vs.reverse ++ S) (hC : bf_Cf e y2 vs D res D') (k : J (pc + 3) L (res.toList ++ S) (bf_MD D')) : J pc L S0 (bf_MD D) :=
  r.2.1.2.1 pc L S S0 (bf_MD D) i y2 n vs 57 _ d hli hm hn hsum hS hC (Nat.le_refl _) (fun r' G' h _ => by rw [h.1, h.2]; exact k)
theorem cl_max (r : bf_All (bf_Cl e) 57 Post y J) {S : List Value} {i : Nat} {x z : Int32} (d : decode y.2.1 pc = .ok (.invokestatic i, 3)) (hw : Cond.methodLink y.1.cls i Lib.Math.max.name ∈ lw_tbl) (hsum : (S.map Value.category).sum ≤ 8) (k : J (pc + 3) L (.int (if x < z then z else x) :: S) (bf_MD D)) : J pc L (.int z :: .int x :: S) (bf_MD D) := r.2.1.2.2.2.2.2.2.2.2.2.1 pc L S _ i x z d hw (Nat.le_refl _) hsum k
theorem cl_min (r : bf_All (bf_Cl e) 57 Post y J) {S : List Value} {i : Nat} {x z : Int32} (d : decode y.2.1 pc = .ok (.invokestatic i, 3)) (hw : Cond.methodLink y.1.cls i Lib.Math.min.name ∈ lw_tbl) (hsum : (S.map Value.category).sum ≤ 8) (k : J (pc + 3) L (.int (if z < x then z else x) :: S) (bf_MD D)) : J pc L (.int z :: .int x :: S) (bf_MD D) := r.2.1.2.2.2.2.2.2.2.2.2.2 pc L S _ i x z d hw (Nat.le_refl _) hsum k
def bf_cpD (D : bf_D) (a0 a1 sp dp n : Nat) : bf_D := fun b j => if b = a1 then va_cpy (D a0) (D a1) sp dp n j else D b j
theorem cl_cpy (r : bf_All (bf_Cl e) 57 Post y J) {S : List Value} {i a0 a1 n0 n1 sp dp n : Nat} (d : decode y.2.1 pc = .ok (.invokestatic i, 3)) (hw : Cond.methodLink y.1.cls i arraycopyName ∈ lw_tbl) (hk0 : bf_kd a0 = (9, n0)) (hk1 : bf_kd a1 = (9, n1)) (ha0 : a0 < 57) (ha1 : a1 < 57) (h4 : sp + n ≤ n0) (h5 : dp + n ≤ n1) (hsum : (S.map Value.category).sum ≤ 8) (k : J (pc + 3) L S (bf_MD (bf_cpD D a0 a1 sp dp n))) : J pc L (.int (nI n) :: .int (nI dp) :: .ref a1 :: .int (nI sp) :: .ref a0 :: S) (bf_MD D) := by
  have b0 := bf_kdn hk0 ha0
  have b1 := bf_kdn hk1 ha1
  have c1 := nI_clamp (n := sp) (by omega)
  have c2 := nI_clamp (n := dp) (by omega)
  have c3 := nI_clamp (n := n) (by omega)
  refine r.2.1.2.2.2.2.2.2.2.2.1 pc L S (bf_MD D) i a0 a1 n0 n1 (D a0) (D a1) (nI sp) (nI dp) (nI n) d hw hk0 hk1 ha0 ha1 (fun j => bf_mk0 (bf_rt9 hk0 ha0 j)) (fun j => bf_mk0 (bf_rt9 hk1 ha1 j)) (nI_pos (by omega)) (nI_pos (by omega)) (nI_pos (by omega)) (by rw [c1, c3]; exact h4) (by rw [c2, c3]; exact h5) hsum ?_
  rw [c1, c2, c3]
  have e2 : bf_fill (bf_MD D).2 a1 (fun j => .int (va_cpy (D a0) (D a1) sp dp n j)) = bf_mk (bf_cpD D a0 a1 sp dp n) := by
    funext b j
    by_cases hb : b = a1
    · subst hb
      simp [bf_fill, bf_mk, bf_rt9 hk1 ha1 j, bf_cpD]
    · simp [bf_fill, bf_MD, bf_mk, bf_cpD, hb]
  rw [e2]
  exact k
theorem rt_i {C : bf_CR} {D' : bf_D} {v v' : Int32} {ty : FieldType} (r : bf_All C 57 (fun r' G' => r' = some (.int v') ∧ G' = bf_MD D') y J) (d : decode y.2.1 pc = .ok (.ireturn, 1)) (hty : y.2.2.2 = some ty) (hn : narrow ty (.int v) = .int v) (hv : v = v') (hD : D = D') : J pc L [.int v] (bf_MD D) := r.2.2.2.1 pc L (bf_MD D) v ty d hty hn rfl ⟨by rw [hv], by rw [hD]⟩
theorem rt_l {C : bf_CR} {D' : bf_D} {v v' : Int64} (r : bf_All C 57 (fun r' G' => r' = some (.long v') ∧ G' = bf_MD D') y J) (d : decode y.2.1 pc = .ok (.lreturn, 1)) (hty : y.2.2.2 = some .long) (hv : v = v') (hD : D = D') : J pc L [.long v] (bf_MD D) := r.2.2.2.2.1 pc L (bf_MD D) v d hty rfl ⟨by rw [hv], by rw [hD]⟩
theorem rt_v {C : bf_CR} {D' : bf_D} (r : bf_All C 57 (fun r' G' => r' = none ∧ G' = bf_MD D') y J) (d : decode y.2.1 pc = .ok (.return_, 1)) (hty : y.2.2.2 = none) (hD : D = D') : J pc L [] (bf_MD D) := r.2.2.2.2.2 pc L (bf_MD D) d hty rfl ⟨rfl, by rw [hD]⟩
end bfK
