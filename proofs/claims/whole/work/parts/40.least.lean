/-! ===== the least place ===== -/
def lsN (L : Ld) : Nat → Nat → Nat
  | 0, p => p
  | r + 1, p => if (lLs L p).length = 0 then lsN L r (p + 1) else p
def lsP (P : Pr) (L : Ld) : Nat := lsN L (pN P) 0
theorem lsN_le (L : Ld) : ∀ r p, p ≤ lsN L r p ∧ lsN L r p ≤ p + r
  | 0, p => ⟨Nat.le_refl _, Nat.le_refl _⟩
  | r + 1, p => by
    show p ≤ (if (lLs L p).length = 0 then lsN L r (p + 1) else p) ∧ (if (lLs L p).length = 0 then lsN L r (p + 1) else p) ≤ _
    have := lsN_le L r (p + 1)
    split <;> omega
theorem lsN_em (L : Ld) : ∀ r p q, p ≤ q → q < lsN L r p → lLs L q = []
  | 0, p, q, h1, h2 => by
    have h2 : q < p := h2
    omega
  | r + 1, p, q, h1, h2 => by
    have h2 : q < (if (lLs L p).length = 0 then lsN L r (p + 1) else p) := h2
    split at h2
    · rename_i h
      by_cases e : q = p
      · rw [e]; exact List.length_eq_zero_iff.mp h
      · exact lsN_em L r (p + 1) q (by omega) h2
    · omega
theorem lsN_ne (L : Ld) : ∀ r p, lsN L r p < p + r → lLs L (lsN L r p) ≠ []
  | 0, p, h => by
    have h : p < p + 0 := h
    omega
  | r + 1, p, h => by
    by_cases e : (lLs L p).length = 0
    · rw [show lsN L (r + 1) p = lsN L r (p + 1) from if_pos e] at h ⊢
      exact lsN_ne L r (p + 1) (by omega)
    · rw [show lsN L (r + 1) p = p from if_neg e]
      intro z
      rw [z] at e
      exact e rfl
theorem lsP_le (P : Pr) (L : Ld) : lsP P L ≤ pN P := by
  have := (lsN_le L (pN P) 0).2
  unfold lsP; omega
theorem lsP_em {P : Pr} {L : Ld} {q : Nat} (h : q < lsP P L) : lLs L q = [] := lsN_em L _ 0 q (Nat.zero_le _) h
theorem lsP_ne {P : Pr} {L : Ld} (h : lsP P L ≠ pN P) : lLs L (lsP P L) ≠ [] := by
  have := lsP_le P L
  exact lsN_ne L (pN P) 0 (by have : lsN L (pN P) 0 ≠ pN P := h; have : lsN L (pN P) 0 ≤ pN P := lsP_le P L; omega)
theorem e_leastM {P : Pr} {L : Ld} {S : St} (hw : Wf P) (hR : RM P S) (hL : RML P L S) (hlen : ∀ q, (lLs L q).length ≤ 200) : f_X5_least S = some (iv (if lsP P L = pN P then -5 else (lsP P L : Int)), S) := by
  have q1 := hw.1
  have m1 := hR.1
  have l1 := hL.1
  have key : ∀ r p fuel : Nat, r + p = pN P → r < fuel → lp_X5_least_2 fuel (iv (p : Int)) S = some (iv (if lsN L r p = pN P then -5 else (lsN L r p : Int)), S) := by
    intro r
    induction r with
    | zero =>
      intro p fuel h1 h2
      obtain ⟨n, rfl⟩ : ∃ k, fuel = k + 1 := ⟨fuel - 1, by omega⟩
      rw [lp_X5_least_2]
      simp (disch := omega) only [nxt_e, bnd_s, chk_T, chk_nF, ↓reduceIte, i_0, i_1, i_2, i_3, i_4, i_5, i_6, i_8, i_9, i_10, i_15, i_19, i_20, i_30, i_31, i_40, i_60, i_100, i_200, i_1000, i_20000, iv_neg, iv_add, iv_sub, iv_mul, iv_lt, iv_le, iv_eq, iv_cl, iv_in, ltT, ltF, leT, leF, eqT, eqF, gI_e, gI_n, gI_sA, gI_sL, gI_sB, gL_e, gL_n, gL_sI, gL_sA, gL_sB, gA_e, gA_n, gA_sI, gA_sL, gA_sB, gB_e, gB_n, gB_sI, gB_sL, gB_sA, up_e, up_n, uL_e, uL_n, m1]
      rw [if_pos (show lsN L 0 p = pN P by show p = _; omega)]
    | succ r ih =>
      intro p fuel h1 h2
      obtain ⟨n, rfl⟩ : ∃ k, fuel = k + 1 := ⟨fuel - 1, by omega⟩
      have e := l1 p (by omega)
      have hl := hlen p
      rw [lp_X5_least_2]
      by_cases h0 : (lLs L p).length = 0
      · simp (disch := omega) only [nxt_e, bnd_s, chk_T, chk_nF, ↓reduceIte, i_0, i_1, i_2, i_3, i_4, i_5, i_6, i_8, i_9, i_10, i_15, i_19, i_20, i_30, i_31, i_40, i_60, i_100, i_200, i_1000, i_20000, iv_neg, iv_add, iv_sub, iv_mul, iv_lt, iv_le, iv_eq, iv_cl, iv_in, ltT, ltF, leT, leF, eqT, eqF, gI_e, gI_n, gI_sA, gI_sL, gI_sB, gL_e, gL_n, gL_sI, gL_sA, gL_sB, gA_e, gA_n, gA_sI, gA_sL, gA_sB, gB_e, gB_n, gB_sI, gB_sL, gB_sA, up_e, up_n, uL_e, uL_n, m1, Int.toNat_natCast, e]
        rw [show lsN L (r + 1) p = lsN L r (p + 1) from if_pos h0]
        exact ih (p + 1) n (by omega) (by omega)
      · simp (disch := omega) only [nxt_e, bnd_s, chk_T, chk_nF, ↓reduceIte, i_0, i_1, i_2, i_3, i_4, i_5, i_6, i_8, i_9, i_10, i_15, i_19, i_20, i_30, i_31, i_40, i_60, i_100, i_200, i_1000, i_20000, iv_neg, iv_add, iv_sub, iv_mul, iv_lt, iv_le, iv_eq, iv_cl, iv_in, ltT, ltF, leT, leF, eqT, eqF, gI_e, gI_n, gI_sA, gI_sL, gI_sB, gL_e, gL_n, gL_sI, gL_sA, gL_sB, gA_e, gA_n, gA_sI, gA_sL, gA_sB, gB_e, gB_n, gB_sI, gB_sL, gB_sA, up_e, up_n, uL_e, uL_n, m1, Int.toNat_natCast, e]
        rw [show lsN L (r + 1) p = p from if_neg h0, if_neg (by omega)]
  unfold f_X5_least lsP
  rw [i_0, ← i0n]
  exact key (pN P) 0 FU (by omega) (by rw [FU_v]; omega)
theorem e_leastC {P : Pr} {L : Ld} {S : St} (hw : Wf P) (hR : RC P S) (hL : RCL P L S) (hlen : ∀ q, (lLs L q).length ≤ 200) : f_X1_leastPlace S = some (iv (if lsP P L = pN P then -5 else (lsP P L : Int)), S) := by
  have q1 := hw.1
  have m1 := hR.1
  have key : ∀ r p fuel : Nat, r + p = pN P → r < fuel → lp_X1_leastPlace_2 fuel (iv (p : Int)) S = some (iv (if lsN L r p = pN P then -5 else (lsN L r p : Int)), S) := by
    intro r
    induction r with
    | zero =>
      intro p fuel h1 h2
      obtain ⟨n, rfl⟩ : ∃ k, fuel = k + 1 := ⟨fuel - 1, by omega⟩
      rw [lp_X1_leastPlace_2]
      simp (disch := omega) only [nxt_e, bnd_s, chk_T, chk_nF, ↓reduceIte, i_0, i_1, i_2, i_3, i_4, i_5, i_6, i_8, i_9, i_10, i_15, i_19, i_20, i_30, i_31, i_40, i_60, i_100, i_200, i_1000, i_20000, iv_neg, iv_add, iv_sub, iv_mul, iv_lt, iv_le, iv_eq, iv_cl, iv_in, ltT, ltF, leT, leF, eqT, eqF, gI_e, gI_n, gI_sA, gI_sL, gI_sB, gL_e, gL_n, gL_sI, gL_sA, gL_sB, gA_e, gA_n, gA_sI, gA_sL, gA_sB, gB_e, gB_n, gB_sI, gB_sL, gB_sA, up_e, up_n, uL_e, uL_n, m1]
      rw [if_pos (show lsN L 0 p = pN P by show p = _; omega)]
    | succ r ih =>
      intro p fuel h1 h2
      obtain ⟨n, rfl⟩ : ∃ k, fuel = k + 1 := ⟨fuel - 1, by omega⟩
      have e := e_size hL (show p ≤ 30 by omega)
      have hl := hlen p
      rw [lp_X1_leastPlace_2]
      by_cases h0 : (lLs L p).length = 0
      · simp (disch := omega) only [nxt_e, bnd_s, chk_T, chk_nF, ↓reduceIte, i_0, i_1, i_2, i_3, i_4, i_5, i_6, i_8, i_9, i_10, i_15, i_19, i_20, i_30, i_31, i_40, i_60, i_100, i_200, i_1000, i_20000, iv_neg, iv_add, iv_sub, iv_mul, iv_lt, iv_le, iv_eq, iv_cl, iv_in, ltT, ltF, leT, leF, eqT, eqF, gI_e, gI_n, gI_sA, gI_sL, gI_sB, gL_e, gL_n, gL_sI, gL_sA, gL_sB, gA_e, gA_n, gA_sI, gA_sL, gA_sB, gB_e, gB_n, gB_sI, gB_sL, gB_sA, up_e, up_n, uL_e, uL_n, m1, e]
        rw [show lsN L (r + 1) p = lsN L r (p + 1) from if_pos h0]
        exact ih (p + 1) n (by omega) (by omega)
      · simp (disch := omega) only [nxt_e, bnd_s, chk_T, chk_nF, ↓reduceIte, i_0, i_1, i_2, i_3, i_4, i_5, i_6, i_8, i_9, i_10, i_15, i_19, i_20, i_30, i_31, i_40, i_60, i_100, i_200, i_1000, i_20000, iv_neg, iv_add, iv_sub, iv_mul, iv_lt, iv_le, iv_eq, iv_cl, iv_in, ltT, ltF, leT, leF, eqT, eqF, gI_e, gI_n, gI_sA, gI_sL, gI_sB, gL_e, gL_n, gL_sI, gL_sA, gL_sB, gA_e, gA_n, gA_sI, gA_sL, gA_sB, gB_e, gB_n, gB_sI, gB_sL, gB_sA, up_e, up_n, uL_e, uL_n, m1, e]
        rw [show lsN L (r + 1) p = p from if_neg h0, if_neg (by omega)]
  unfold f_X1_leastPlace lsP
  rw [i_0, ← i0n]
  exact key (pN P) 0 FU (by omega) (by rw [FU_v]; omega)
