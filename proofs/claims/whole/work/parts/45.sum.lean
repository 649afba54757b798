/-! ===== sums ===== -/
def tsm (x v : Int) : List (Nat × Nat) → Nat
  | [] => 0
  | a :: t => (if x = -1 ∨ ((dg a.1 x.toNat : Nat) : Int) = v then a.2 else 0) + tsm x v t
theorem tsm_le (x v : Int) : ∀ l, tsm x v l ≤ msum l
  | [] => Nat.le_refl _
  | a :: t => by
    show (if x = -1 ∨ ((dg a.1 x.toNat : Nat) : Int) = v then a.2 else 0) + tsm x v t ≤ a.2 + msum t
    have := tsm_le x v t
    split <;> omega
theorem tsm_all (v : Int) : ∀ l, tsm (-1) v l = msum l
  | [] => rfl
  | a :: t => by
    show (if (-1 : Int) = -1 ∨ ((dg a.1 (-1 : Int).toNat : Nat) : Int) = v then a.2 else 0) + tsm (-1) v t = a.2 + msum t
    rw [if_pos (Or.inl rfl), tsm_all v t]
def okx (x v : Int) : Prop := x = -1 ∨ (0 ≤ x ∧ x ≤ 5 ∧ 0 ≤ v ∧ v ≤ 9)
theorem dg9 (c x : Nat) : dg c x ≤ 9 := dg_le c x
theorem e_totC {P : Pr} {L : Ld} {S : St} {p : Nat} {x v : Int} (hL : RCL P L S) (hlen : ∀ q, (lLs L q).length ≤ 200) (hcd : ∀ q c' m', (c', m') ∈ lLs L q → c' < 1000000) (hp : p ≤ 30) (ho : okx x v) : f_X1_total (iv (p : Int)) (iv x) (iv v) S = some (jv (tsm x v (lLs L p)), S) := by
  have hl := hlen p
  have key : ∀ (b a : List (Nat × Nat)) (fuel acc : Nat), lLs L p = a ++ b → b.length < fuel → lp_X1_total_13 (iv (p : Int)) (iv x) (iv v) (iv (lLs L p).length) fuel (jv acc) (iv (a.length : Int)) S = some (jv ((acc + tsm x v b : Nat) : Int), S) := by
    intro b
    induction b with
    | nil =>
      intro a fuel acc h1 h2
      obtain ⟨n, rfl⟩ : ∃ k, fuel = k + 1 := ⟨fuel - 1, by have : 0 < fuel := h2; omega⟩
      rw [List.append_nil] at h1
      rw [lp_X1_total_13, h1, if_pos ((iv_le (by omega) (by rw [h1] at hl; omega) (by omega) (by rw [h1] at hl; omega)).mpr (Int.le_refl _))]
      rfl
    | cons y b ih =>
      intro a fuel acc h1 h2
      obtain ⟨c, m⟩ := y
      have h2 : b.length + 1 < fuel := h2
      obtain ⟨n, rfl⟩ : ∃ k, fuel = k + 1 := ⟨fuel - 1, by omega⟩
      have hol : (lLs L p).length = a.length + 1 + b.length := by
        rw [h1, List.length_append]
        show a.length + (b.length + 1) = _
        omega
      have hg : (lLs L p)[a.length]? = some (c, m) := by rw [h1]; simp
      have hc := hcd p c m (List.mem_of_getElem? hg)
      have e1 := e_held hL hp hg
      have e2 := e_mass hL hp hg
      have ih' := ih (a ++ [(c, m)]) n
      rw [show (a ++ [(c, m)]).length = a.length + 1 by simp] at ih'
      have hd9 := dg9 c x.toNat
      rw [lp_X1_total_13]
      show _ = some (jv ((acc + ((if x = -1 ∨ ((dg c x.toNat : Nat) : Int) = v then m else 0) + tsm x v b) : Nat) : Int), S)
      rcases ho with rfl | ⟨o1, o2, o3, o4⟩
      · rw [if_pos (Or.inl rfl), ← Nat.add_assoc]
        simp (disch := omega) only [nxt_e, bnd_s, chk_T, chk_nF, ↓reduceIte, i_0, i_1, i_2, i_3, i_4, i_5, i_6, i_8, i_9, i_10, i_15, i_19, i_20, i_30, i_31, i_40, i_60, i_100, i_200, i_1000, i_20000, iv_neg, iv_add, iv_sub, iv_mul, iv_lt, iv_le, iv_eq, iv_cl, iv_in, ltT, ltF, leT, leF, eqT, eqF, gI_e, gI_n, gI_sA, gI_sL, gI_sB, gL_e, gL_n, gL_sI, gL_sA, gL_sB, gA_e, gA_n, gA_sI, gA_sL, gA_sB, gB_e, gB_n, gB_sI, gB_sL, gB_sA, up_e, up_n, uL_e, uL_n, e2, jv_add]
        exact ih' (acc + m) (by rw [h1]; simp) (by omega)
      · obtain ⟨x, rfl⟩ := Int.eq_ofNat_of_zero_le o1
        have e3 := e_val (S := S) hc (show x < 6 by omega)
        rw [Int.toNat_natCast] at hd9 ⊢
        by_cases e : ((dg c x : Nat) : Int) = v
        · rw [if_pos (Or.inr e), ← Nat.add_assoc]
          simp (disch := omega) only [nxt_e, bnd_s, chk_T, chk_nF, ↓reduceIte, i_0, i_1, i_2, i_3, i_4, i_5, i_6, i_8, i_9, i_10, i_15, i_19, i_20, i_30, i_31, i_40, i_60, i_100, i_200, i_1000, i_20000, iv_neg, iv_add, iv_sub, iv_mul, iv_lt, iv_le, iv_eq, iv_cl, iv_in, ltT, ltF, leT, leF, eqT, eqF, gI_e, gI_n, gI_sA, gI_sL, gI_sB, gL_e, gL_n, gL_sI, gL_sA, gL_sB, gA_e, gA_n, gA_sI, gA_sL, gA_sB, gB_e, gB_n, gB_sI, gB_sL, gB_sA, up_e, up_n, uL_e, uL_n, e1, e2, e3, jv_add]
          exact ih' (acc + m) (by rw [h1]; simp) (by omega)
        · rw [if_neg (show ¬ ((x : Int) = -1 ∨ ((dg c x : Nat) : Int) = v) by rintro (z | z); omega; exact e z), Nat.zero_add]
          simp (disch := omega) only [nxt_e, bnd_s, chk_T, chk_nF, ↓reduceIte, i_0, i_1, i_2, i_3, i_4, i_5, i_6, i_8, i_9, i_10, i_15, i_19, i_20, i_30, i_31, i_40, i_60, i_100, i_200, i_1000, i_20000, iv_neg, iv_add, iv_sub, iv_mul, iv_lt, iv_le, iv_eq, iv_cl, iv_in, ltT, ltF, leT, leF, eqT, eqF, gI_e, gI_n, gI_sA, gI_sL, gI_sB, gL_e, gL_n, gL_sI, gL_sA, gL_sB, gA_e, gA_n, gA_sI, gA_sL, gA_sB, gB_e, gB_n, gB_sI, gB_sL, gB_sA, up_e, up_n, uL_e, uL_n, e1, e2, e3, jv_add]
          exact ih' acc (by rw [h1]; simp) (by omega)
  unfold f_X1_total
  rw [e_size hL hp, bnd_s]
  have := key (lLs L p) [] FU 0 rfl (by rw [FU_v]; omega)
  rw [Nat.zero_add] at this
  exact this
theorem e_totM {P : Pr} {L : Ld} {S : St} {p : Nat} {x v : Int} (hL : RML P L S) (hlen : ∀ q, (lLs L q).length ≤ 200) (hcd : ∀ q c' m', (c', m') ∈ lLs L q → c' < 1000000) (hp : p ≤ 30) (ho : okx x v) : f_X5_sumAt (iv (p : Int)) (iv x) (iv v) S = some (jv (tsm x v (lLs L p)), S) := by
  have hl := hlen p
  have l1 := hL.1 p hp
  have key : ∀ (b a : List (Nat × Nat)) (fuel acc : Nat), lLs L p = a ++ b → b.length < fuel → lp_X5_sumAt_6 (iv (p : Int)) (iv x) (iv v) fuel (jv acc) (iv (a.length : Int)) S = some (jv ((acc + tsm x v b : Nat) : Int), S) := by
    intro b
    induction b with
    | nil =>
      intro a fuel acc h1 h2
      obtain ⟨n, rfl⟩ : ∃ k, fuel = k + 1 := ⟨fuel - 1, by have : 0 < fuel := h2; omega⟩
      rw [List.append_nil] at h1
      rw [h1] at l1 hl
      rw [lp_X5_sumAt_6]
      simp (disch := omega) only [nxt_e, bnd_s, chk_T, chk_nF, ↓reduceIte, i_0, i_1, i_2, i_3, i_4, i_5, i_6, i_8, i_9, i_10, i_15, i_19, i_20, i_30, i_31, i_40, i_60, i_100, i_200, i_1000, i_20000, iv_neg, iv_add, iv_sub, iv_mul, iv_lt, iv_le, iv_eq, iv_cl, iv_in, ltT, ltF, leT, leF, eqT, eqF, gI_e, gI_n, gI_sA, gI_sL, gI_sB, gL_e, gL_n, gL_sI, gL_sA, gL_sB, gA_e, gA_n, gA_sI, gA_sL, gA_sB, gB_e, gB_n, gB_sI, gB_sL, gB_sA, up_e, up_n, uL_e, uL_n, Int.toNat_natCast, l1]
      rfl
    | cons y b ih =>
      intro a fuel acc h1 h2
      obtain ⟨c, m⟩ := y
      have h2 : b.length + 1 < fuel := h2
      obtain ⟨n, rfl⟩ : ∃ k, fuel = k + 1 := ⟨fuel - 1, by omega⟩
      have hol : (lLs L p).length = a.length + 1 + b.length := by
        rw [h1, List.length_append]
        show a.length + (b.length + 1) = _
        omega
      have hg : (lLs L p)[a.length]? = some (c, m) := by rw [h1]; simp
      have hc := hcd p c m (List.mem_of_getElem? hg)
      obtain ⟨e1, e2⟩ := hL.2.1 p a.length c m hp hg
      have ih' := ih (a ++ [(c, m)]) n
      rw [show (a ++ [(c, m)]).length = a.length + 1 by simp] at ih'
      have hd9 := dg9 c x.toNat
      rw [lp_X5_sumAt_6]
      show _ = some (jv ((acc + ((if x = -1 ∨ ((dg c x.toNat : Nat) : Int) = v then m else 0) + tsm x v b) : Nat) : Int), S)
      have ei : ((200 : Int) * (p : Int) + (a.length : Int)).toNat = 200 * p + a.length := by omega
      rcases ho with rfl | ⟨o1, o2, o3, o4⟩
      · rw [if_pos (Or.inl rfl), ← Nat.add_assoc]
        simp (disch := omega) only [nxt_e, bnd_s, chk_T, chk_nF, ↓reduceIte, i_0, i_1, i_2, i_3, i_4, i_5, i_6, i_8, i_9, i_10, i_15, i_19, i_20, i_30, i_31, i_40, i_60, i_100, i_200, i_1000, i_20000, iv_neg, iv_add, iv_sub, iv_mul, iv_lt, iv_le, iv_eq, iv_cl, iv_in, ltT, ltF, leT, leF, eqT, eqF, gI_e, gI_n, gI_sA, gI_sL, gI_sB, gL_e, gL_n, gL_sI, gL_sA, gL_sB, gA_e, gA_n, gA_sI, gA_sL, gA_sB, gB_e, gB_n, gB_sI, gB_sL, gB_sA, up_e, up_n, uL_e, uL_n, Int.toNat_natCast, l1, ei, e2, jv_add]
        exact ih' (acc + m) (by rw [h1]; simp) (by omega)
      · obtain ⟨x, rfl⟩ := Int.eq_ofNat_of_zero_le o1
        have e3 := e_dig (S := S) hc (show x < 6 by omega)
        rw [Int.toNat_natCast] at hd9 ⊢
        by_cases e : ((dg c x : Nat) : Int) = v
        · rw [if_pos (Or.inr e), ← Nat.add_assoc]
          simp (disch := omega) only [nxt_e, bnd_s, chk_T, chk_nF, ↓reduceIte, i_0, i_1, i_2, i_3, i_4, i_5, i_6, i_8, i_9, i_10, i_15, i_19, i_20, i_30, i_31, i_40, i_60, i_100, i_200, i_1000, i_20000, iv_neg, iv_add, iv_sub, iv_mul, iv_lt, iv_le, iv_eq, iv_cl, iv_in, ltT, ltF, leT, leF, eqT, eqF, gI_e, gI_n, gI_sA, gI_sL, gI_sB, gL_e, gL_n, gL_sI, gL_sA, gL_sB, gA_e, gA_n, gA_sI, gA_sL, gA_sB, gB_e, gB_n, gB_sI, gB_sL, gB_sA, up_e, up_n, uL_e, uL_n, Int.toNat_natCast, l1, ei, e1, e2, e3, jv_add]
          exact ih' (acc + m) (by rw [h1]; simp) (by omega)
        · rw [if_neg (show ¬ ((x : Int) = -1 ∨ ((dg c x : Nat) : Int) = v) by rintro (z | z); omega; exact e z), Nat.zero_add]
          simp (disch := omega) only [nxt_e, bnd_s, chk_T, chk_nF, ↓reduceIte, i_0, i_1, i_2, i_3, i_4, i_5, i_6, i_8, i_9, i_10, i_15, i_19, i_20, i_30, i_31, i_40, i_60, i_100, i_200, i_1000, i_20000, iv_neg, iv_add, iv_sub, iv_mul, iv_lt, iv_le, iv_eq, iv_cl, iv_in, ltT, ltF, leT, leF, eqT, eqF, gI_e, gI_n, gI_sA, gI_sL, gI_sB, gL_e, gL_n, gL_sI, gL_sA, gL_sB, gA_e, gA_n, gA_sI, gA_sL, gA_sB, gB_e, gB_n, gB_sI, gB_sL, gB_sA, up_e, up_n, uL_e, uL_n, Int.toNat_natCast, l1, ei, e1, e2, e3, j_0, jv_add]
          exact ih' acc (by rw [h1]; simp) (by omega)
  unfold f_X5_sumAt
  have := key (lLs L p) [] FU 0 rfl (by rw [FU_v]; omega)
  rw [Nat.zero_add] at this
  exact this
def tbN (L : Ld) (x v : Int) : Nat → Nat → Nat
  | 0, _ => 0
  | r + 1, k => tsm x v (lLs L k) + tbN L x v r (k + 1)
theorem e_tbC {P : Pr} {L : Ld} {S : St} {x v : Int} (hw : Wf P) (hR : RC P S) (hL : RCL P L S) (hlen : ∀ q, (lLs L q).length ≤ 200) (hcd : ∀ q c' m', (c', m') ∈ lLs L q → c' < 1000000) (ho : okx x v) : f_X1_totalBeforeEnd (iv x) (iv v) S = some (jv (tbN L x v (pN P) 0), S) := by
  have q1 := hw.1
  have m1 := hR.1
  have key : ∀ r k fuel acc : Nat, r + k = pN P → r < fuel → lp_X1_totalBeforeEnd_5 (iv x) (iv v) fuel (jv acc) (iv (k : Int)) S = some (jv ((acc + tbN L x v r k : Nat) : Int), S) := by
    intro r
    induction r with
    | zero =>
      intro k fuel acc h1 h2
      obtain ⟨n, rfl⟩ : ∃ k, fuel = k + 1 := ⟨fuel - 1, by omega⟩
      rw [lp_X1_totalBeforeEnd_5]
      simp (disch := omega) only [nxt_e, bnd_s, chk_T, chk_nF, ↓reduceIte, i_0, i_1, i_2, i_3, i_4, i_5, i_6, i_8, i_9, i_10, i_15, i_19, i_20, i_30, i_31, i_40, i_60, i_100, i_200, i_1000, i_20000, iv_neg, iv_add, iv_sub, iv_mul, iv_lt, iv_le, iv_eq, iv_cl, iv_in, ltT, ltF, leT, leF, eqT, eqF, gI_e, gI_n, gI_sA, gI_sL, gI_sB, gL_e, gL_n, gL_sI, gL_sA, gL_sB, gA_e, gA_n, gA_sI, gA_sL, gA_sB, gB_e, gB_n, gB_sI, gB_sL, gB_sA, up_e, up_n, uL_e, uL_n, m1]
      rfl
    | succ r ih =>
      intro k fuel acc h1 h2
      obtain ⟨n, rfl⟩ : ∃ k, fuel = k + 1 := ⟨fuel - 1, by omega⟩
      have e := e_totC (p := k) hL hlen hcd (by omega) ho
      rw [lp_X1_totalBeforeEnd_5]
      simp (disch := omega) only [nxt_e, bnd_s, chk_T, chk_nF, ↓reduceIte, i_0, i_1, i_2, i_3, i_4, i_5, i_6, i_8, i_9, i_10, i_15, i_19, i_20, i_30, i_31, i_40, i_60, i_100, i_200, i_1000, i_20000, iv_neg, iv_add, iv_sub, iv_mul, iv_lt, iv_le, iv_eq, iv_cl, iv_in, ltT, ltF, leT, leF, eqT, eqF, gI_e, gI_n, gI_sA, gI_sL, gI_sB, gL_e, gL_n, gL_sI, gL_sA, gL_sB, gA_e, gA_n, gA_sI, gA_sL, gA_sB, gB_e, gB_n, gB_sI, gB_sL, gB_sA, up_e, up_n, uL_e, uL_n, m1, e, jv_add]
      show _ = some (jv ((acc + (tsm x v (lLs L k) + tbN L x v r (k + 1)) : Nat) : Int), S)
      rw [← Nat.add_assoc]
      exact ih (k + 1) n (acc + tsm x v (lLs L k)) (by omega) (by omega)
  unfold f_X1_totalBeforeEnd
  have := key (pN P) 0 FU 0 (by omega) (by rw [FU_v]; omega)
  rw [Nat.zero_add] at this
  exact this
theorem e_tbM {P : Pr} {L : Ld} {S : St} {x v : Int} (hw : Wf P) (hR : RM P S) (hL : RML P L S) (hlen : ∀ q, (lLs L q).length ≤ 200) (hcd : ∀ q c' m', (c', m') ∈ lLs L q → c' < 1000000) (ho : okx x v) : lp_X5_sum_93 (iv x) (iv v) FU 0 (iv 0) S = some (jv (tbN L x v (pN P) 0), S) := by
  have q1 := hw.1
  have m1 := hR.1
  have key : ∀ r k fuel acc : Nat, r + k = pN P → r < fuel → lp_X5_sum_93 (iv x) (iv v) fuel (jv acc) (iv (k : Int)) S = some (jv ((acc + tbN L x v r k : Nat) : Int), S) := by
    intro r
    induction r with
    | zero =>
      intro k fuel acc h1 h2
      obtain ⟨n, rfl⟩ : ∃ k, fuel = k + 1 := ⟨fuel - 1, by omega⟩
      rw [lp_X5_sum_93]
      simp (disch := omega) only [nxt_e, bnd_s, chk_T, chk_nF, ↓reduceIte, i_0, i_1, i_2, i_3, i_4, i_5, i_6, i_8, i_9, i_10, i_15, i_19, i_20, i_30, i_31, i_40, i_60, i_100, i_200, i_1000, i_20000, iv_neg, iv_add, iv_sub, iv_mul, iv_lt, iv_le, iv_eq, iv_cl, iv_in, ltT, ltF, leT, leF, eqT, eqF, gI_e, gI_n, gI_sA, gI_sL, gI_sB, gL_e, gL_n, gL_sI, gL_sA, gL_sB, gA_e, gA_n, gA_sI, gA_sL, gA_sB, gB_e, gB_n, gB_sI, gB_sL, gB_sA, up_e, up_n, uL_e, uL_n, m1]
      rfl
    | succ r ih =>
      intro k fuel acc h1 h2
      obtain ⟨n, rfl⟩ : ∃ k, fuel = k + 1 := ⟨fuel - 1, by omega⟩
      have e := e_totM (p := k) hL hlen hcd (by omega) ho
      rw [lp_X5_sum_93]
      simp (disch := omega) only [nxt_e, bnd_s, chk_T, chk_nF, ↓reduceIte, i_0, i_1, i_2, i_3, i_4, i_5, i_6, i_8, i_9, i_10, i_15, i_19, i_20, i_30, i_31, i_40, i_60, i_100, i_200, i_1000, i_20000, iv_neg, iv_add, iv_sub, iv_mul, iv_lt, iv_le, iv_eq, iv_cl, iv_in, ltT, ltF, leT, leF, eqT, eqF, gI_e, gI_n, gI_sA, gI_sL, gI_sB, gL_e, gL_n, gL_sI, gL_sA, gL_sB, gA_e, gA_n, gA_sI, gA_sL, gA_sB, gB_e, gB_n, gB_sI, gB_sL, gB_sA, up_e, up_n, uL_e, uL_n, m1, e, jv_add]
      show _ = some (jv ((acc + (tsm x v (lLs L k) + tbN L x v r (k + 1)) : Nat) : Int), S)
      rw [← Nat.add_assoc]
      exact ih (k + 1) n (acc + tsm x v (lLs L k)) (by omega) (by omega)
  have := key (pN P) 0 FU 0 (by omega) (by rw [FU_v]; omega)
  rw [Nat.zero_add] at this
  exact this
theorem isCh_t {x v : Int} {S : St} (h : okx x v) : f_X4_isChoice (iv x) (iv v) S = some (iv 1, S) := by
  unfold f_X4_isChoice
  rcases h with rfl | ⟨o1, o2, o3, o4⟩
  · simp (disch := omega) only [nxt_e, bnd_s, chk_T, chk_nF, ↓reduceIte, i_0, i_1, i_2, i_3, i_4, i_5, i_6, i_8, i_9, i_10, i_15, i_19, i_20, i_30, i_31, i_40, i_60, i_100, i_200, i_1000, i_20000, iv_neg, iv_add, iv_sub, iv_mul, iv_lt, iv_le, iv_eq, iv_cl, iv_in, ltT, ltF, leT, leF, eqT, eqF, gI_e, gI_n, gI_sA, gI_sL, gI_sB, gL_e, gL_n, gL_sI, gL_sA, gL_sB, gA_e, gA_n, gA_sI, gA_sL, gA_sB, gB_e, gB_n, gB_sI, gB_sL, gB_sA, up_e, up_n, uL_e, uL_n, isIn_t, isIn_f, isTmM_t, isTmM_f, isRow_t, isRow_f, isVal_t, isVal_f, isVar_t, isVar_f, isTmC_t, isTmC_f]
  · simp (disch := omega) only [nxt_e, bnd_s, chk_T, chk_nF, ↓reduceIte, i_0, i_1, i_2, i_3, i_4, i_5, i_6, i_8, i_9, i_10, i_15, i_19, i_20, i_30, i_31, i_40, i_60, i_100, i_200, i_1000, i_20000, iv_neg, iv_add, iv_sub, iv_mul, iv_lt, iv_le, iv_eq, iv_cl, iv_in, ltT, ltF, leT, leF, eqT, eqF, gI_e, gI_n, gI_sA, gI_sL, gI_sB, gL_e, gL_n, gL_sI, gL_sA, gL_sB, gA_e, gA_n, gA_sI, gA_sL, gA_sB, gB_e, gB_n, gB_sI, gB_sL, gB_sA, up_e, up_n, uL_e, uL_n, isIn_t, isIn_f, isTmM_t, isTmM_f, isRow_t, isRow_f, isVal_t, isVal_f, isVar_t, isVar_f, isTmC_t, isTmC_f]
theorem isCh_f {x v : Int} {S : St} (h : ¬ okx x v) (hx1 : -2147483648 ≤ x) (hx2 : x < 2147483648) (hv1 : -2147483648 ≤ v) (hv2 : v < 2147483648) : f_X4_isChoice (iv x) (iv v) S = some (iv 0, S) := by
  unfold okx at h
  unfold f_X4_isChoice
  by_cases a : 0 ≤ x ∧ x ≤ 5
  · simp (disch := omega) only [nxt_e, bnd_s, chk_T, chk_nF, ↓reduceIte, i_0, i_1, i_2, i_3, i_4, i_5, i_6, i_8, i_9, i_10, i_15, i_19, i_20, i_30, i_31, i_40, i_60, i_100, i_200, i_1000, i_20000, iv_neg, iv_add, iv_sub, iv_mul, iv_lt, iv_le, iv_eq, iv_cl, iv_in, ltT, ltF, leT, leF, eqT, eqF, gI_e, gI_n, gI_sA, gI_sL, gI_sB, gL_e, gL_n, gL_sI, gL_sA, gL_sB, gA_e, gA_n, gA_sI, gA_sL, gA_sB, gB_e, gB_n, gB_sI, gB_sL, gB_sA, up_e, up_n, uL_e, uL_n, isIn_t, isIn_f, isTmM_t, isTmM_f, isRow_t, isRow_f, isVal_t, isVal_f, isVar_t, isVar_f, isTmC_t, isTmC_f]
  · simp (disch := omega) only [nxt_e, bnd_s, chk_T, chk_nF, ↓reduceIte, i_0, i_1, i_2, i_3, i_4, i_5, i_6, i_8, i_9, i_10, i_15, i_19, i_20, i_30, i_31, i_40, i_60, i_100, i_200, i_1000, i_20000, iv_neg, iv_add, iv_sub, iv_mul, iv_lt, iv_le, iv_eq, iv_cl, iv_in, ltT, ltF, leT, leF, eqT, eqF, gI_e, gI_n, gI_sA, gI_sL, gI_sB, gL_e, gL_n, gL_sI, gL_sA, gL_sB, gA_e, gA_n, gA_sI, gA_sL, gA_sB, gB_e, gB_n, gB_sI, gB_sL, gB_sA, up_e, up_n, uL_e, uL_n, isIn_t, isIn_f, isTmM_t, isTmM_f, isRow_t, isRow_f, isVal_t, isVal_f, isVar_t, isVar_f, isTmC_t, isTmC_f]
theorem sm_sum (a b c : Int32) : Sm (f_X4_sum a b c) (f_X5_sum a b c) := by
  intro Z SC SM hI
  obtain ⟨a, rfl, ha1, ha2⟩ := iv_ex a
  obtain ⟨b, rfl, hb1, hb2⟩ := iv_ex b
  obtain ⟨c, rfl, hc1, hc2⟩ := iv_ex c
  have hI2 := hI
  obtain ⟨w1, w2, w3, w4, w5⟩ := hI
  have q1 := w1.1
  have fin : ∀ r : Int64, f_X4_sum (iv a) (iv b) (iv c) SC = some (r, SC) → f_X5_sum (iv a) (iv b) (iv c) SM = some (r, sI SM 0 (iv 0)) → ∃ (r : Int64) (SC' SM' : St) (Z' : Zt), f_X4_sum (iv a) (iv b) (iv c) SC = some (r, SC') ∧ f_X5_sum (iv a) (iv b) (iv c) SM = some (r, SM') ∧ Inv Z' SC' SM' := fun r h1 h2 => ⟨r, SC, _, Z, h1, h2, Inv_thr _ hI2⟩
  by_cases h : 0 ≤ a ∧ a ≤ 2
  · by_cases h2 : okx b c
    · have ch := isCh_t (S := SC) h2
      by_cases h3 : b ≠ -1 ∧ a = 1
      · have h2' : 0 ≤ b ∧ b ≤ 5 ∧ 0 ≤ c ∧ c ≤ 9 := h2.resolve_left h3.1
        refine fin (-1) ?_ ?_
        · unfold f_X4_sum
          simp (disch := omega) only [nxt_e, bnd_s, chk_T, chk_nF, ↓reduceIte, i_0, i_1, i_2, i_3, i_4, i_5, i_6, i_8, i_9, i_10, i_15, i_19, i_20, i_30, i_31, i_40, i_60, i_100, i_200, i_1000, i_20000, iv_neg, iv_add, iv_sub, iv_mul, iv_lt, iv_le, iv_eq, iv_cl, iv_in, ltT, ltF, leT, leF, eqT, eqF, gI_e, gI_n, gI_sA, gI_sL, gI_sB, gL_e, gL_n, gL_sI, gL_sA, gL_sB, gA_e, gA_n, gA_sI, gA_sL, gA_sB, gB_e, gB_n, gB_sI, gB_sL, gB_sA, up_e, up_n, uL_e, uL_n, ch]
        · unfold f_X5_sum
          simp (disch := omega) only [nxt_e, bnd_s, chk_T, chk_nF, ↓reduceIte, i_0, i_1, i_2, i_3, i_4, i_5, i_6, i_8, i_9, i_10, i_15, i_19, i_20, i_30, i_31, i_40, i_60, i_100, i_200, i_1000, i_20000, iv_neg, iv_add, iv_sub, iv_mul, iv_lt, iv_le, iv_eq, iv_cl, iv_in, ltT, ltF, leT, leF, eqT, eqF, gI_e, gI_n, gI_sA, gI_sL, gI_sB, gL_e, gL_n, gL_sI, gL_sA, gL_sB, gA_e, gA_n, gA_sI, gA_sL, gA_sB, gB_e, gB_n, gB_sI, gB_sL, gB_sA, up_e, up_n, uL_e, uL_n, isIn_t]
      · rcases w5 with ⟨o, o1, o2⟩ | ⟨o, o1, o2, o3, o4, o5⟩
        · refine fin (-3) ?_ ?_
          · unfold f_X4_sum
            by_cases e1 : b = -1
            · simp (disch := omega) only [nxt_e, bnd_s, chk_T, chk_nF, ↓reduceIte, i_0, i_1, i_2, i_3, i_4, i_5, i_6, i_8, i_9, i_10, i_15, i_19, i_20, i_30, i_31, i_40, i_60, i_100, i_200, i_1000, i_20000, iv_neg, iv_add, iv_sub, iv_mul, iv_lt, iv_le, iv_eq, iv_cl, iv_in, ltT, ltF, leT, leF, eqT, eqF, gI_e, gI_n, gI_sA, gI_sL, gI_sB, gL_e, gL_n, gL_sI, gL_sA, gL_sB, gA_e, gA_n, gA_sI, gA_sL, gA_sB, gB_e, gB_n, gB_sI, gB_sL, gB_sA, up_e, up_n, uL_e, uL_n, ch, o1]
            · simp (disch := omega) only [nxt_e, bnd_s, chk_T, chk_nF, ↓reduceIte, i_0, i_1, i_2, i_3, i_4, i_5, i_6, i_8, i_9, i_10, i_15, i_19, i_20, i_30, i_31, i_40, i_60, i_100, i_200, i_1000, i_20000, iv_neg, iv_add, iv_sub, iv_mul, iv_lt, iv_le, iv_eq, iv_cl, iv_in, ltT, ltF, leT, leF, eqT, eqF, gI_e, gI_n, gI_sA, gI_sL, gI_sB, gL_e, gL_n, gL_sI, gL_sA, gL_sB, gA_e, gA_n, gA_sI, gA_sL, gA_sB, gB_e, gB_n, gB_sI, gB_sL, gB_sA, up_e, up_n, uL_e, uL_n, ch, o1]
          · unfold f_X5_sum
            by_cases e1 : b = -1
            · by_cases e2 : a = 1
              · simp (disch := omega) only [nxt_e, bnd_s, chk_T, chk_nF, ↓reduceIte, i_0, i_1, i_2, i_3, i_4, i_5, i_6, i_8, i_9, i_10, i_15, i_19, i_20, i_30, i_31, i_40, i_60, i_100, i_200, i_1000, i_20000, iv_neg, iv_add, iv_sub, iv_mul, iv_lt, iv_le, iv_eq, iv_cl, iv_in, ltT, ltF, leT, leF, eqT, eqF, gI_e, gI_n, gI_sA, gI_sL, gI_sB, gL_e, gL_n, gL_sI, gL_sA, gL_sB, gA_e, gA_n, gA_sI, gA_sL, gA_sB, gB_e, gB_n, gB_sI, gB_sL, gB_sA, up_e, up_n, uL_e, uL_n, isIn_t, o2]
              · simp (disch := omega) only [nxt_e, bnd_s, chk_T, chk_nF, ↓reduceIte, i_0, i_1, i_2, i_3, i_4, i_5, i_6, i_8, i_9, i_10, i_15, i_19, i_20, i_30, i_31, i_40, i_60, i_100, i_200, i_1000, i_20000, iv_neg, iv_add, iv_sub, iv_mul, iv_lt, iv_le, iv_eq, iv_cl, iv_in, ltT, ltF, leT, leF, eqT, eqF, gI_e, gI_n, gI_sA, gI_sL, gI_sB, gL_e, gL_n, gL_sI, gL_sA, gL_sB, gA_e, gA_n, gA_sI, gA_sL, gA_sB, gB_e, gB_n, gB_sI, gB_sL, gB_sA, up_e, up_n, uL_e, uL_n, isIn_t, o2]
            · have h2' : 0 ≤ b ∧ b ≤ 5 ∧ 0 ≤ c ∧ c ≤ 9 := h2.resolve_left e1
              simp (disch := omega) only [nxt_e, bnd_s, chk_T, chk_nF, ↓reduceIte, i_0, i_1, i_2, i_3, i_4, i_5, i_6, i_8, i_9, i_10, i_15, i_19, i_20, i_30, i_31, i_40, i_60, i_100, i_200, i_1000, i_20000, iv_neg, iv_add, iv_sub, iv_mul, iv_lt, iv_le, iv_eq, iv_cl, iv_in, ltT, ltF, leT, leF, eqT, eqF, gI_e, gI_n, gI_sA, gI_sL, gI_sB, gL_e, gL_n, gL_sI, gL_sA, gL_sB, gA_e, gA_n, gA_sI, gA_sL, gA_sB, gB_e, gB_n, gB_sI, gB_sL, gB_sA, up_e, up_n, uL_e, uL_n, isIn_t, o2]
        · have w3' := RM_sI (v := iv 0) (k := 0) (by decide) w3
          have o5' := RML_sI (v := iv 0) (k := 0) (by decide) o5
          have hcd : ∀ q c' m', (c', m') ∈ lLs Z.2.2 q → c' < 1000000 := fun q c' m' h => (o3.2.2.2.1 q c' m' h).1
          have c1 := w2.1
          have m1 := w3.1
          by_cases ea : a = 1
          · have eb : b = -1 := Decidable.byContradiction fun z => h3 ⟨z, ea⟩
            subst ea
            subst eb
            obtain ⟨fs, x1, x2, x3, x4, x5, x6, x7⟩ := o4
            refine fin (jv (lLo Z.2.2)) ?_ ?_
            · unfold f_X4_sum
              simp (disch := omega) only [nxt_e, bnd_s, chk_T, chk_nF, ↓reduceIte, i_0, i_1, i_2, i_3, i_4, i_5, i_6, i_8, i_9, i_10, i_15, i_19, i_20, i_30, i_31, i_40, i_60, i_100, i_200, i_1000, i_20000, iv_neg, iv_add, iv_sub, iv_mul, iv_lt, iv_le, iv_eq, iv_cl, iv_in, ltT, ltF, leT, leF, eqT, eqF, gI_e, gI_n, gI_sA, gI_sL, gI_sB, gL_e, gL_n, gL_sI, gL_sA, gL_sB, gA_e, gA_n, gA_sI, gA_sL, gA_sB, gB_e, gB_n, gB_sI, gB_sL, gB_sA, up_e, up_n, uL_e, uL_n, ch, o1, x5]
            · unfold f_X5_sum
              simp (disch := omega) only [nxt_e, bnd_s, chk_T, chk_nF, ↓reduceIte, i_0, i_1, i_2, i_3, i_4, i_5, i_6, i_8, i_9, i_10, i_15, i_19, i_20, i_30, i_31, i_40, i_60, i_100, i_200, i_1000, i_20000, iv_neg, iv_add, iv_sub, iv_mul, iv_lt, iv_le, iv_eq, iv_cl, iv_in, ltT, ltF, leT, leF, eqT, eqF, gI_e, gI_n, gI_sA, gI_sL, gI_sB, gL_e, gL_n, gL_sI, gL_sA, gL_sB, gA_e, gA_n, gA_sI, gA_sL, gA_sB, gB_e, gB_n, gB_sI, gB_sL, gB_sA, up_e, up_n, uL_e, uL_n, isIn_t, o2, o5.2.2.2.2.1]
          · by_cases ea0 : a = 0
            · have tC := e_totC (p := pN Z.1) o4 o3.2.1 hcd (by omega) h2
              have tM := e_totM (p := pN Z.1) o5' o3.2.1 hcd (by omega) h2
              refine fin (jv (tsm b c (lLs Z.2.2 (pN Z.1)))) ?_ ?_
              · unfold f_X4_sum
                by_cases e1 : b = -1
                · simp (disch := omega) only [nxt_e, bnd_s, chk_T, chk_nF, ↓reduceIte, i_0, i_1, i_2, i_3, i_4, i_5, i_6, i_8, i_9, i_10, i_15, i_19, i_20, i_30, i_31, i_40, i_60, i_100, i_200, i_1000, i_20000, iv_neg, iv_add, iv_sub, iv_mul, iv_lt, iv_le, iv_eq, iv_cl, iv_in, ltT, ltF, leT, leF, eqT, eqF, gI_e, gI_n, gI_sA, gI_sL, gI_sB, gL_e, gL_n, gL_sI, gL_sA, gL_sB, gA_e, gA_n, gA_sI, gA_sL, gA_sB, gB_e, gB_n, gB_sI, gB_sL, gB_sA, up_e, up_n, uL_e, uL_n, ch, o1, c1, tC]
                · simp (disch := omega) only [nxt_e, bnd_s, chk_T, chk_nF, ↓reduceIte, i_0, i_1, i_2, i_3, i_4, i_5, i_6, i_8, i_9, i_10, i_15, i_19, i_20, i_30, i_31, i_40, i_60, i_100, i_200, i_1000, i_20000, iv_neg, iv_add, iv_sub, iv_mul, iv_lt, iv_le, iv_eq, iv_cl, iv_in, ltT, ltF, leT, leF, eqT, eqF, gI_e, gI_n, gI_sA, gI_sL, gI_sB, gL_e, gL_n, gL_sI, gL_sA, gL_sB, gA_e, gA_n, gA_sI, gA_sL, gA_sB, gB_e, gB_n, gB_sI, gB_sL, gB_sA, up_e, up_n, uL_e, uL_n, ch, o1, c1, tC]
              · unfold f_X5_sum
                by_cases e1 : b = -1
                · simp (disch := omega) only [nxt_e, bnd_s, chk_T, chk_nF, ↓reduceIte, i_0, i_1, i_2, i_3, i_4, i_5, i_6, i_8, i_9, i_10, i_15, i_19, i_20, i_30, i_31, i_40, i_60, i_100, i_200, i_1000, i_20000, iv_neg, iv_add, iv_sub, iv_mul, iv_lt, iv_le, iv_eq, iv_cl, iv_in, ltT, ltF, leT, leF, eqT, eqF, gI_e, gI_n, gI_sA, gI_sL, gI_sB, gL_e, gL_n, gL_sI, gL_sA, gL_sB, gA_e, gA_n, gA_sI, gA_sL, gA_sB, gB_e, gB_n, gB_sI, gB_sL, gB_sA, up_e, up_n, uL_e, uL_n, isIn_t, o2, m1, tM]
                · have h2' : 0 ≤ b ∧ b ≤ 5 ∧ 0 ≤ c ∧ c ≤ 9 := h2.resolve_left e1
                  simp (disch := omega) only [nxt_e, bnd_s, chk_T, chk_nF, ↓reduceIte, i_0, i_1, i_2, i_3, i_4, i_5, i_6, i_8, i_9, i_10, i_15, i_19, i_20, i_30, i_31, i_40, i_60, i_100, i_200, i_1000, i_20000, iv_neg, iv_add, iv_sub, iv_mul, iv_lt, iv_le, iv_eq, iv_cl, iv_in, ltT, ltF, leT, leF, eqT, eqF, gI_e, gI_n, gI_sA, gI_sL, gI_sB, gL_e, gL_n, gL_sI, gL_sA, gL_sB, gA_e, gA_n, gA_sI, gA_sL, gA_sB, gB_e, gB_n, gB_sI, gB_sL, gB_sA, up_e, up_n, uL_e, uL_n, isIn_t, o2, m1, tM]
            · have tC := e_tbC w1 w2 o4 o3.2.1 hcd h2
              have tM := e_tbM w1 w3' o5' o3.2.1 hcd h2
              refine fin (jv (tbN Z.2.2 b c (pN Z.1) 0)) ?_ ?_
              · unfold f_X4_sum
                by_cases e1 : b = -1
                · simp (disch := omega) only [nxt_e, bnd_s, chk_T, chk_nF, ↓reduceIte, i_0, i_1, i_2, i_3, i_4, i_5, i_6, i_8, i_9, i_10, i_15, i_19, i_20, i_30, i_31, i_40, i_60, i_100, i_200, i_1000, i_20000, iv_neg, iv_add, iv_sub, iv_mul, iv_lt, iv_le, iv_eq, iv_cl, iv_in, ltT, ltF, leT, leF, eqT, eqF, gI_e, gI_n, gI_sA, gI_sL, gI_sB, gL_e, gL_n, gL_sI, gL_sA, gL_sB, gA_e, gA_n, gA_sI, gA_sL, gA_sB, gB_e, gB_n, gB_sI, gB_sL, gB_sA, up_e, up_n, uL_e, uL_n, ch, o1, c1, tC]
                · simp (disch := omega) only [nxt_e, bnd_s, chk_T, chk_nF, ↓reduceIte, i_0, i_1, i_2, i_3, i_4, i_5, i_6, i_8, i_9, i_10, i_15, i_19, i_20, i_30, i_31, i_40, i_60, i_100, i_200, i_1000, i_20000, iv_neg, iv_add, iv_sub, iv_mul, iv_lt, iv_le, iv_eq, iv_cl, iv_in, ltT, ltF, leT, leF, eqT, eqF, gI_e, gI_n, gI_sA, gI_sL, gI_sB, gL_e, gL_n, gL_sI, gL_sA, gL_sB, gA_e, gA_n, gA_sI, gA_sL, gA_sB, gB_e, gB_n, gB_sI, gB_sL, gB_sA, up_e, up_n, uL_e, uL_n, ch, o1, c1, tC]
              · unfold f_X5_sum
                by_cases e1 : b = -1
                · simp (disch := omega) only [nxt_e, bnd_s, chk_T, chk_nF, ↓reduceIte, i_0, i_1, i_2, i_3, i_4, i_5, i_6, i_8, i_9, i_10, i_15, i_19, i_20, i_30, i_31, i_40, i_60, i_100, i_200, i_1000, i_20000, iv_neg, iv_add, iv_sub, iv_mul, iv_lt, iv_le, iv_eq, iv_cl, iv_in, ltT, ltF, leT, leF, eqT, eqF, gI_e, gI_n, gI_sA, gI_sL, gI_sB, gL_e, gL_n, gL_sI, gL_sA, gL_sB, gA_e, gA_n, gA_sI, gA_sL, gA_sB, gB_e, gB_n, gB_sI, gB_sL, gB_sA, up_e, up_n, uL_e, uL_n, isIn_t, o2, m1, tM]
                · have h2' : 0 ≤ b ∧ b ≤ 5 ∧ 0 ≤ c ∧ c ≤ 9 := h2.resolve_left e1
                  simp (disch := omega) only [nxt_e, bnd_s, chk_T, chk_nF, ↓reduceIte, i_0, i_1, i_2, i_3, i_4, i_5, i_6, i_8, i_9, i_10, i_15, i_19, i_20, i_30, i_31, i_40, i_60, i_100, i_200, i_1000, i_20000, iv_neg, iv_add, iv_sub, iv_mul, iv_lt, iv_le, iv_eq, iv_cl, iv_in, ltT, ltF, leT, leF, eqT, eqF, gI_e, gI_n, gI_sA, gI_sL, gI_sB, gL_e, gL_n, gL_sI, gL_sA, gL_sB, gA_e, gA_n, gA_sI, gA_sL, gA_sB, gB_e, gB_n, gB_sI, gB_sL, gB_sA, up_e, up_n, uL_e, uL_n, isIn_t, o2, m1, tM]
    · have ch := isCh_f (S := SC) h2 hb1 hb2 hc1 hc2
      unfold okx at h2
      refine fin (-1) ?_ ?_
      · unfold f_X4_sum
        simp (disch := omega) only [nxt_e, bnd_s, chk_T, chk_nF, ↓reduceIte, i_0, i_1, i_2, i_3, i_4, i_5, i_6, i_8, i_9, i_10, i_15, i_19, i_20, i_30, i_31, i_40, i_60, i_100, i_200, i_1000, i_20000, iv_neg, iv_add, iv_sub, iv_mul, iv_lt, iv_le, iv_eq, iv_cl, iv_in, ltT, ltF, leT, leF, eqT, eqF, gI_e, gI_n, gI_sA, gI_sL, gI_sB, gL_e, gL_n, gL_sI, gL_sA, gL_sB, gA_e, gA_n, gA_sI, gA_sL, gA_sB, gB_e, gB_n, gB_sI, gB_sL, gB_sA, up_e, up_n, uL_e, uL_n, ch]
      · unfold f_X5_sum
        by_cases e1 : -1 ≤ b ∧ b ≤ 5
        · by_cases ea : a = 1
          · simp (disch := omega) only [nxt_e, bnd_s, chk_T, chk_nF, ↓reduceIte, i_0, i_1, i_2, i_3, i_4, i_5, i_6, i_8, i_9, i_10, i_15, i_19, i_20, i_30, i_31, i_40, i_60, i_100, i_200, i_1000, i_20000, iv_neg, iv_add, iv_sub, iv_mul, iv_lt, iv_le, iv_eq, iv_cl, iv_in, ltT, ltF, leT, leF, eqT, eqF, gI_e, gI_n, gI_sA, gI_sL, gI_sB, gL_e, gL_n, gL_sI, gL_sA, gL_sB, gA_e, gA_n, gA_sI, gA_sL, gA_sB, gB_e, gB_n, gB_sI, gB_sL, gB_sA, up_e, up_n, uL_e, uL_n, isIn_t]
          · simp (disch := omega) only [nxt_e, bnd_s, chk_T, chk_nF, ↓reduceIte, i_0, i_1, i_2, i_3, i_4, i_5, i_6, i_8, i_9, i_10, i_15, i_19, i_20, i_30, i_31, i_40, i_60, i_100, i_200, i_1000, i_20000, iv_neg, iv_add, iv_sub, iv_mul, iv_lt, iv_le, iv_eq, iv_cl, iv_in, ltT, ltF, leT, leF, eqT, eqF, gI_e, gI_n, gI_sA, gI_sL, gI_sB, gL_e, gL_n, gL_sI, gL_sA, gL_sB, gA_e, gA_n, gA_sI, gA_sL, gA_sB, gB_e, gB_n, gB_sI, gB_sL, gB_sA, up_e, up_n, uL_e, uL_n, isIn_t, isIn_f]
        · simp (disch := omega) only [nxt_e, bnd_s, chk_T, chk_nF, ↓reduceIte, i_0, i_1, i_2, i_3, i_4, i_5, i_6, i_8, i_9, i_10, i_15, i_19, i_20, i_30, i_31, i_40, i_60, i_100, i_200, i_1000, i_20000, iv_neg, iv_add, iv_sub, iv_mul, iv_lt, iv_le, iv_eq, iv_cl, iv_in, ltT, ltF, leT, leF, eqT, eqF, gI_e, gI_n, gI_sA, gI_sL, gI_sB, gL_e, gL_n, gL_sI, gL_sA, gL_sB, gA_e, gA_n, gA_sI, gA_sL, gA_sB, gB_e, gB_n, gB_sI, gB_sL, gB_sA, up_e, up_n, uL_e, uL_n, isIn_t, isIn_f]
  · refine fin (-1) ?_ ?_
    · unfold f_X4_sum
      by_cases e : a < 0
      · simp (disch := omega) only [nxt_e, bnd_s, chk_T, chk_nF, ↓reduceIte, i_0, i_1, i_2, i_3, i_4, i_5, i_6, i_8, i_9, i_10, i_15, i_19, i_20, i_30, i_31, i_40, i_60, i_100, i_200, i_1000, i_20000, iv_neg, iv_add, iv_sub, iv_mul, iv_lt, iv_le, iv_eq, iv_cl, iv_in, ltT, ltF, leT, leF, eqT, eqF, gI_e, gI_n, gI_sA, gI_sL, gI_sB, gL_e, gL_n, gL_sI, gL_sA, gL_sB, gA_e, gA_n, gA_sI, gA_sL, gA_sB, gB_e, gB_n, gB_sI, gB_sL, gB_sA, up_e, up_n, uL_e, uL_n]
      · simp (disch := omega) only [nxt_e, bnd_s, chk_T, chk_nF, ↓reduceIte, i_0, i_1, i_2, i_3, i_4, i_5, i_6, i_8, i_9, i_10, i_15, i_19, i_20, i_30, i_31, i_40, i_60, i_100, i_200, i_1000, i_20000, iv_neg, iv_add, iv_sub, iv_mul, iv_lt, iv_le, iv_eq, iv_cl, iv_in, ltT, ltF, leT, leF, eqT, eqF, gI_e, gI_n, gI_sA, gI_sL, gI_sB, gL_e, gL_n, gL_sI, gL_sA, gL_sB, gA_e, gA_n, gA_sI, gA_sL, gA_sB, gB_e, gB_n, gB_sI, gB_sL, gB_sA, up_e, up_n, uL_e, uL_n]
    · unfold f_X5_sum
      simp (disch := omega) only [nxt_e, bnd_s, chk_T, chk_nF, ↓reduceIte, i_0, i_1, i_2, i_3, i_4, i_5, i_6, i_8, i_9, i_10, i_15, i_19, i_20, i_30, i_31, i_40, i_60, i_100, i_200, i_1000, i_20000, iv_neg, iv_add, iv_sub, iv_mul, iv_lt, iv_le, iv_eq, iv_cl, iv_in, ltT, ltF, leT, leF, eqT, eqF, gI_e, gI_n, gI_sA, gI_sL, gI_sB, gL_e, gL_n, gL_sI, gL_sA, gL_sB, gA_e, gA_n, gA_sI, gA_sL, gA_sB, gB_e, gB_n, gB_sI, gB_sL, gB_sA, up_e, up_n, uL_e, uL_n, isIn_f]
