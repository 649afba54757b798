/-! ===== states, code, mass, clear ===== -/
theorem e_size {P : Pr} {L : Ld} {S : St} {p : Nat} (hR : RCL P L S) (hp : p ≤ 30) : f_X1_size (iv (p : Int)) S = some (iv (lLs L p).length, S) := by
  obtain ⟨fs, x1, x2, x3, x4, x5, x6, x7⟩ := hR
  obtain ⟨y1, y2, y3⟩ := x1 p hp
  unfold f_X1_size
  simp (disch := omega) only [nxt_e, bnd_s, chk_T, chk_nF, ↓reduceIte, i_0, i_1, i_2, i_3, i_4, i_5, i_6, i_8, i_9, i_10, i_15, i_19, i_20, i_30, i_31, i_40, i_60, i_100, i_200, i_1000, i_20000, iv_neg, iv_add, iv_sub, iv_mul, iv_lt, iv_le, iv_eq, iv_cl, iv_in, ltT, ltF, leT, leF, eqT, eqF, gI_e, gI_n, gI_sA, gI_sL, gI_sB, gL_e, gL_n, gL_sI, gL_sA, gL_sB, gA_e, gA_n, gA_sI, gA_sL, gA_sB, gB_e, gB_n, gB_sI, gB_sL, gB_sA, up_e, up_n, uL_e, uL_n, Int.toNat_natCast, y1, y2]
  rw [show (((fs p + (lLs L p).length : Nat) : Int) - (fs p : Int)) = ((lLs L p).length : Int) by omega]
theorem e_has_t {P : Pr} {L : Ld} {S : St} {p i : Nat} (hR : RCL P L S) (hp : p ≤ 30) (hi : i < (lLs L p).length) : f_X1_has (iv (p : Int)) (iv (i : Int)) S = some (iv 1, S) := by
  have := e_size hR hp
  obtain ⟨fs, x1, x2, x3, x4, x5, x6, x7⟩ := hR
  obtain ⟨y1, y2, y3⟩ := x1 p hp
  unfold f_X1_has
  simp (disch := omega) only [nxt_e, bnd_s, chk_T, chk_nF, ↓reduceIte, i_0, i_1, i_2, i_3, i_4, i_5, i_6, i_8, i_9, i_10, i_15, i_19, i_20, i_30, i_31, i_40, i_60, i_100, i_200, i_1000, i_20000, iv_neg, iv_add, iv_sub, iv_mul, iv_lt, iv_le, iv_eq, iv_cl, iv_in, ltT, ltF, leT, leF, eqT, eqF, gI_e, gI_n, gI_sA, gI_sL, gI_sB, gL_e, gL_n, gL_sI, gL_sA, gL_sB, gA_e, gA_n, gA_sI, gA_sL, gA_sB, gB_e, gB_n, gB_sI, gB_sL, gB_sA, up_e, up_n, uL_e, uL_n, this]
theorem e_has_f {P : Pr} {L : Ld} {S : St} {p : Nat} {z : Int} (hR : RCL P L S) (hp : p ≤ 30) (h : z < 0 ∨ ((lLs L p).length : Int) ≤ z) (h1 : -2147483648 ≤ z) (h2 : z < 2147483648) : f_X1_has (iv (p : Int)) (iv z) S = some (iv 0, S) := by
  have := e_size hR hp
  obtain ⟨fs, x1, x2, x3, x4, x5, x6, x7⟩ := hR
  obtain ⟨y1, y2, y3⟩ := x1 p hp
  unfold f_X1_has
  rcases h with h | h
  · simp (disch := omega) only [nxt_e, bnd_s, chk_T, chk_nF, ↓reduceIte, i_0, i_1, i_2, i_3, i_4, i_5, i_6, i_8, i_9, i_10, i_15, i_19, i_20, i_30, i_31, i_40, i_60, i_100, i_200, i_1000, i_20000, iv_neg, iv_add, iv_sub, iv_mul, iv_lt, iv_le, iv_eq, iv_cl, iv_in, ltT, ltF, leT, leF, eqT, eqF, gI_e, gI_n, gI_sA, gI_sL, gI_sB, gL_e, gL_n, gL_sI, gL_sA, gL_sB, gA_e, gA_n, gA_sI, gA_sL, gA_sB, gB_e, gB_n, gB_sI, gB_sL, gB_sA, up_e, up_n, uL_e, uL_n, this]
  · by_cases h' : z < 0
    · simp (disch := omega) only [nxt_e, bnd_s, chk_T, chk_nF, ↓reduceIte, i_0, i_1, i_2, i_3, i_4, i_5, i_6, i_8, i_9, i_10, i_15, i_19, i_20, i_30, i_31, i_40, i_60, i_100, i_200, i_1000, i_20000, iv_neg, iv_add, iv_sub, iv_mul, iv_lt, iv_le, iv_eq, iv_cl, iv_in, ltT, ltF, leT, leF, eqT, eqF, gI_e, gI_n, gI_sA, gI_sL, gI_sB, gL_e, gL_n, gL_sI, gL_sA, gL_sB, gA_e, gA_n, gA_sI, gA_sL, gA_sB, gB_e, gB_n, gB_sI, gB_sL, gB_sA, up_e, up_n, uL_e, uL_n, this]
    · simp (disch := omega) only [nxt_e, bnd_s, chk_T, chk_nF, ↓reduceIte, i_0, i_1, i_2, i_3, i_4, i_5, i_6, i_8, i_9, i_10, i_15, i_19, i_20, i_30, i_31, i_40, i_60, i_100, i_200, i_1000, i_20000, iv_neg, iv_add, iv_sub, iv_mul, iv_lt, iv_le, iv_eq, iv_cl, iv_in, ltT, ltF, leT, leF, eqT, eqF, gI_e, gI_n, gI_sA, gI_sL, gI_sB, gL_e, gL_n, gL_sI, gL_sA, gL_sB, gA_e, gA_n, gA_sI, gA_sL, gA_sB, gB_e, gB_n, gB_sI, gB_sL, gB_sA, up_e, up_n, uL_e, uL_n, this]
theorem e_held {P : Pr} {L : Ld} {S : St} {p i c m : Nat} (hR : RCL P L S) (hp : p ≤ 30) (hi : (lLs L p)[i]? = some (c, m)) : f_X1_heldAt (iv (p : Int)) (iv (i : Int)) S = some (iv (hx c), S) := by
  have hl := (List.getElem?_eq_some_iff.mp hi).1
  have := e_has_t hR hp hl
  obtain ⟨fs, x1, x2, x3, x4, x5, x6, x7⟩ := hR
  obtain ⟨y1, y2, y3⟩ := x1 p hp
  obtain ⟨z1, z2⟩ := x3 p i c m hp hi
  unfold f_X1_heldAt
  simp (disch := omega) only [nxt_e, bnd_s, chk_T, chk_nF, ↓reduceIte, i_0, i_1, i_2, i_3, i_4, i_5, i_6, i_8, i_9, i_10, i_15, i_19, i_20, i_30, i_31, i_40, i_60, i_100, i_200, i_1000, i_20000, iv_neg, iv_add, iv_sub, iv_mul, iv_lt, iv_le, iv_eq, iv_cl, iv_in, ltT, ltF, leT, leF, eqT, eqF, gI_e, gI_n, gI_sA, gI_sL, gI_sB, gL_e, gL_n, gL_sI, gL_sA, gL_sB, gA_e, gA_n, gA_sI, gA_sL, gA_sB, gB_e, gB_n, gB_sI, gB_sL, gB_sA, up_e, up_n, uL_e, uL_n, this, y1, Int.toNat_natCast]
  rw [show ((fs p : Int) + (i : Int)).toNat = fs p + i by omega, z1]
theorem e_mass {P : Pr} {L : Ld} {S : St} {p i c m : Nat} (hR : RCL P L S) (hp : p ≤ 30) (hi : (lLs L p)[i]? = some (c, m)) : f_X1_massAt (iv (p : Int)) (iv (i : Int)) S = some (jv m, S) := by
  have hl := (List.getElem?_eq_some_iff.mp hi).1
  have := e_has_t hR hp hl
  obtain ⟨fs, x1, x2, x3, x4, x5, x6, x7⟩ := hR
  obtain ⟨y1, y2, y3⟩ := x1 p hp
  obtain ⟨z1, z2⟩ := x3 p i c m hp hi
  unfold f_X1_massAt
  simp (disch := omega) only [nxt_e, bnd_s, chk_T, chk_nF, ↓reduceIte, i_0, i_1, i_2, i_3, i_4, i_5, i_6, i_8, i_9, i_10, i_15, i_19, i_20, i_30, i_31, i_40, i_60, i_100, i_200, i_1000, i_20000, iv_neg, iv_add, iv_sub, iv_mul, iv_lt, iv_le, iv_eq, iv_cl, iv_in, ltT, ltF, leT, leF, eqT, eqF, gI_e, gI_n, gI_sA, gI_sL, gI_sB, gL_e, gL_n, gL_sI, gL_sA, gL_sB, gA_e, gA_n, gA_sI, gA_sL, gA_sB, gB_e, gB_n, gB_sI, gB_sL, gB_sA, up_e, up_n, uL_e, uL_n, this, y1, Int.toNat_natCast]
  rw [show ((fs p : Int) + (i : Int)).toNat = fs p + i by omega, z2]
theorem sm_states (a b : Int32) : Sm (f_X4_states a b) (f_X5_states a b) := by
  intro Z SC SM hI
  obtain ⟨a, rfl, ha1, ha2⟩ := iv_ex a
  obtain ⟨b, rfl, hb1, hb2⟩ := iv_ex b
  have hI2 := hI
  obtain ⟨w1, w2, w3, w4, w5⟩ := hI
  have q1 := w1.1
  have m1 := w3.1
  have fin : ∀ r : Int32, f_X4_states (iv a) (iv b) SC = some (r, SC) → f_X5_states (iv a) (iv b) SM = some (r, sI SM 0 (iv 0)) → ∃ (r : Int32) (SC' SM' : St) (Z' : Zt), f_X4_states (iv a) (iv b) SC = some (r, SC') ∧ f_X5_states (iv a) (iv b) SM = some (r, SM') ∧ Inv Z' SC' SM' := fun r h1 h2 => ⟨r, SC, _, Z, h1, h2, Inv_thr _ hI2⟩
  by_cases h : 0 ≤ a ∧ a ≤ pN Z.1
  · obtain ⟨p, rfl⟩ := Int.eq_ofNat_of_zero_le h.1
    have pt := isPl_t w1 w2 h.1 h.2
    by_cases h2 : 0 ≤ b ∧ b ≤ 2
    · rcases w5 with ⟨o, o1, o2⟩ | ⟨o, o1, o2, o3, o4, o5⟩
      · refine fin (iv (-3)) ?_ ?_
        · unfold f_X4_states
          simp (disch := omega) only [nxt_e, bnd_s, chk_T, chk_nF, ↓reduceIte, i_0, i_1, i_2, i_3, i_4, i_5, i_6, i_8, i_9, i_10, i_15, i_19, i_20, i_30, i_31, i_40, i_60, i_100, i_200, i_1000, i_20000, iv_neg, iv_add, iv_sub, iv_mul, iv_lt, iv_le, iv_eq, iv_cl, iv_in, ltT, ltF, leT, leF, eqT, eqF, gI_e, gI_n, gI_sA, gI_sL, gI_sB, gL_e, gL_n, gL_sI, gL_sA, gL_sB, gA_e, gA_n, gA_sI, gA_sL, gA_sB, gB_e, gB_n, gB_sI, gB_sL, gB_sA, up_e, up_n, uL_e, uL_n, pt, o1]
        · unfold f_X5_states
          simp (disch := omega) only [nxt_e, bnd_s, chk_T, chk_nF, ↓reduceIte, i_0, i_1, i_2, i_3, i_4, i_5, i_6, i_8, i_9, i_10, i_15, i_19, i_20, i_30, i_31, i_40, i_60, i_100, i_200, i_1000, i_20000, iv_neg, iv_add, iv_sub, iv_mul, iv_lt, iv_le, iv_eq, iv_cl, iv_in, ltT, ltF, leT, leF, eqT, eqF, gI_e, gI_n, gI_sA, gI_sL, gI_sB, gL_e, gL_n, gL_sI, gL_sA, gL_sB, gA_e, gA_n, gA_sI, gA_sL, gA_sB, gB_e, gB_n, gB_sI, gB_sL, gB_sA, up_e, up_n, uL_e, uL_n, m1, isIn_t, o2]
      · have es := e_size o4 (p := p) (by omega)
        obtain ⟨fs, x1, x2, x3, x4, x5, x6, x7⟩ := o4
        obtain ⟨y1, y2, y3, y4, y5, y6, y7⟩ := o5
        have x2p := x2 p (by omega)
        have y1p := y1 p (by omega)
        have y3p := y3 p (by omega)
        have y4p := y4 p (by omega)
        by_cases b0 : b = 0
        · refine fin (iv (lLs Z.2.2 p).length) ?_ ?_
          · unfold f_X4_states
            simp (disch := omega) only [nxt_e, bnd_s, chk_T, chk_nF, ↓reduceIte, i_0, i_1, i_2, i_3, i_4, i_5, i_6, i_8, i_9, i_10, i_15, i_19, i_20, i_30, i_31, i_40, i_60, i_100, i_200, i_1000, i_20000, iv_neg, iv_add, iv_sub, iv_mul, iv_lt, iv_le, iv_eq, iv_cl, iv_in, ltT, ltF, leT, leF, eqT, eqF, gI_e, gI_n, gI_sA, gI_sL, gI_sB, gL_e, gL_n, gL_sI, gL_sA, gL_sB, gA_e, gA_n, gA_sI, gA_sL, gA_sB, gB_e, gB_n, gB_sI, gB_sL, gB_sA, up_e, up_n, uL_e, uL_n, pt, o1, es]
          · unfold f_X5_states
            simp (disch := omega) only [nxt_e, bnd_s, chk_T, chk_nF, ↓reduceIte, i_0, i_1, i_2, i_3, i_4, i_5, i_6, i_8, i_9, i_10, i_15, i_19, i_20, i_30, i_31, i_40, i_60, i_100, i_200, i_1000, i_20000, iv_neg, iv_add, iv_sub, iv_mul, iv_lt, iv_le, iv_eq, iv_cl, iv_in, ltT, ltF, leT, leF, eqT, eqF, gI_e, gI_n, gI_sA, gI_sL, gI_sB, gL_e, gL_n, gL_sI, gL_sA, gL_sB, gA_e, gA_n, gA_sI, gA_sL, gA_sB, gB_e, gB_n, gB_sI, gB_sL, gB_sA, up_e, up_n, uL_e, uL_n, m1, isIn_t, o2, Int.toNat_natCast, y1p]
        · by_cases b1 : b = 1
          · refine fin (iv (lCm Z.2.2 p)) ?_ ?_
            · unfold f_X4_states
              simp (disch := omega) only [nxt_e, bnd_s, chk_T, chk_nF, ↓reduceIte, i_0, i_1, i_2, i_3, i_4, i_5, i_6, i_8, i_9, i_10, i_15, i_19, i_20, i_30, i_31, i_40, i_60, i_100, i_200, i_1000, i_20000, iv_neg, iv_add, iv_sub, iv_mul, iv_lt, iv_le, iv_eq, iv_cl, iv_in, ltT, ltF, leT, leF, eqT, eqF, gI_e, gI_n, gI_sA, gI_sL, gI_sB, gL_e, gL_n, gL_sI, gL_sA, gL_sB, gA_e, gA_n, gA_sI, gA_sL, gA_sB, gB_e, gB_n, gB_sI, gB_sL, gB_sA, up_e, up_n, uL_e, uL_n, pt, o1, Int.toNat_natCast, x2p.1]
            · unfold f_X5_states
              simp (disch := omega) only [nxt_e, bnd_s, chk_T, chk_nF, ↓reduceIte, i_0, i_1, i_2, i_3, i_4, i_5, i_6, i_8, i_9, i_10, i_15, i_19, i_20, i_30, i_31, i_40, i_60, i_100, i_200, i_1000, i_20000, iv_neg, iv_add, iv_sub, iv_mul, iv_lt, iv_le, iv_eq, iv_cl, iv_in, ltT, ltF, leT, leF, eqT, eqF, gI_e, gI_n, gI_sA, gI_sL, gI_sB, gL_e, gL_n, gL_sI, gL_sA, gL_sB, gA_e, gA_n, gA_sI, gA_sL, gA_sB, gB_e, gB_n, gB_sI, gB_sL, gB_sA, up_e, up_n, uL_e, uL_n, m1, isIn_t, o2, Int.toNat_natCast, y3p]
          · refine fin (iv (lJn Z.2.2 p)) ?_ ?_
            · unfold f_X4_states
              simp (disch := omega) only [nxt_e, bnd_s, chk_T, chk_nF, ↓reduceIte, i_0, i_1, i_2, i_3, i_4, i_5, i_6, i_8, i_9, i_10, i_15, i_19, i_20, i_30, i_31, i_40, i_60, i_100, i_200, i_1000, i_20000, iv_neg, iv_add, iv_sub, iv_mul, iv_lt, iv_le, iv_eq, iv_cl, iv_in, ltT, ltF, leT, leF, eqT, eqF, gI_e, gI_n, gI_sA, gI_sL, gI_sB, gL_e, gL_n, gL_sI, gL_sA, gL_sB, gA_e, gA_n, gA_sI, gA_sL, gA_sB, gB_e, gB_n, gB_sI, gB_sL, gB_sA, up_e, up_n, uL_e, uL_n, pt, o1, Int.toNat_natCast, x2p.2]
            · unfold f_X5_states
              simp (disch := omega) only [nxt_e, bnd_s, chk_T, chk_nF, ↓reduceIte, i_0, i_1, i_2, i_3, i_4, i_5, i_6, i_8, i_9, i_10, i_15, i_19, i_20, i_30, i_31, i_40, i_60, i_100, i_200, i_1000, i_20000, iv_neg, iv_add, iv_sub, iv_mul, iv_lt, iv_le, iv_eq, iv_cl, iv_in, ltT, ltF, leT, leF, eqT, eqF, gI_e, gI_n, gI_sA, gI_sL, gI_sB, gL_e, gL_n, gL_sI, gL_sA, gL_sB, gA_e, gA_n, gA_sI, gA_sL, gA_sB, gB_e, gB_n, gB_sI, gB_sL, gB_sA, up_e, up_n, uL_e, uL_n, m1, isIn_t, o2, Int.toNat_natCast, y4p]
    · refine fin (iv (-1)) ?_ ?_
      · unfold f_X4_states
        by_cases b0 : b < 0
        · simp (disch := omega) only [nxt_e, bnd_s, chk_T, chk_nF, ↓reduceIte, i_0, i_1, i_2, i_3, i_4, i_5, i_6, i_8, i_9, i_10, i_15, i_19, i_20, i_30, i_31, i_40, i_60, i_100, i_200, i_1000, i_20000, iv_neg, iv_add, iv_sub, iv_mul, iv_lt, iv_le, iv_eq, iv_cl, iv_in, ltT, ltF, leT, leF, eqT, eqF, gI_e, gI_n, gI_sA, gI_sL, gI_sB, gL_e, gL_n, gL_sI, gL_sA, gL_sB, gA_e, gA_n, gA_sI, gA_sL, gA_sB, gB_e, gB_n, gB_sI, gB_sL, gB_sA, up_e, up_n, uL_e, uL_n, pt]
        · simp (disch := omega) only [nxt_e, bnd_s, chk_T, chk_nF, ↓reduceIte, i_0, i_1, i_2, i_3, i_4, i_5, i_6, i_8, i_9, i_10, i_15, i_19, i_20, i_30, i_31, i_40, i_60, i_100, i_200, i_1000, i_20000, iv_neg, iv_add, iv_sub, iv_mul, iv_lt, iv_le, iv_eq, iv_cl, iv_in, ltT, ltF, leT, leF, eqT, eqF, gI_e, gI_n, gI_sA, gI_sL, gI_sB, gL_e, gL_n, gL_sI, gL_sA, gL_sB, gA_e, gA_n, gA_sI, gA_sL, gA_sB, gB_e, gB_n, gB_sI, gB_sL, gB_sA, up_e, up_n, uL_e, uL_n, pt]
      · unfold f_X5_states
        simp (disch := omega) only [nxt_e, bnd_s, chk_T, chk_nF, ↓reduceIte, i_0, i_1, i_2, i_3, i_4, i_5, i_6, i_8, i_9, i_10, i_15, i_19, i_20, i_30, i_31, i_40, i_60, i_100, i_200, i_1000, i_20000, iv_neg, iv_add, iv_sub, iv_mul, iv_lt, iv_le, iv_eq, iv_cl, iv_in, ltT, ltF, leT, leF, eqT, eqF, gI_e, gI_n, gI_sA, gI_sL, gI_sB, gL_e, gL_n, gL_sI, gL_sA, gL_sB, gA_e, gA_n, gA_sI, gA_sL, gA_sB, gB_e, gB_n, gB_sI, gB_sL, gB_sA, up_e, up_n, uL_e, uL_n, m1, isIn_t, isIn_f]
  · refine fin (iv (-1)) ?_ ?_
    · unfold f_X4_states
      rw [isPl_f w1 w2 (by omega) ha1 ha2]
      simp (disch := omega) only [nxt_e, bnd_s, chk_T, chk_nF, ↓reduceIte, i_0, i_1, i_2, i_3, i_4, i_5, i_6, i_8, i_9, i_10, i_15, i_19, i_20, i_30, i_31, i_40, i_60, i_100, i_200, i_1000, i_20000, iv_neg, iv_add, iv_sub, iv_mul, iv_lt, iv_le, iv_eq, iv_cl, iv_in, ltT, ltF, leT, leF, eqT, eqF, gI_e, gI_n, gI_sA, gI_sL, gI_sB, gL_e, gL_n, gL_sI, gL_sA, gL_sB, gA_e, gA_n, gA_sI, gA_sL, gA_sB, gB_e, gB_n, gB_sI, gB_sL, gB_sA, up_e, up_n, uL_e, uL_n]
    · unfold f_X5_states
      simp (disch := omega) only [nxt_e, bnd_s, chk_T, chk_nF, ↓reduceIte, i_0, i_1, i_2, i_3, i_4, i_5, i_6, i_8, i_9, i_10, i_15, i_19, i_20, i_30, i_31, i_40, i_60, i_100, i_200, i_1000, i_20000, iv_neg, iv_add, iv_sub, iv_mul, iv_lt, iv_le, iv_eq, iv_cl, iv_in, ltT, ltF, leT, leF, eqT, eqF, gI_e, gI_n, gI_sA, gI_sL, gI_sB, gL_e, gL_n, gL_sI, gL_sA, gL_sB, gA_e, gA_n, gA_sI, gA_sL, gA_sB, gB_e, gB_n, gB_sI, gB_sL, gB_sA, up_e, up_n, uL_e, uL_n, m1, isIn_f]
theorem sm_code (a b : Int32) : Sm (f_X4_code a b) (f_X5_code a b) := by
  intro Z SC SM hI
  obtain ⟨a, rfl, ha1, ha2⟩ := iv_ex a
  obtain ⟨b, rfl, hb1, hb2⟩ := iv_ex b
  have hI2 := hI
  obtain ⟨w1, w2, w3, w4, w5⟩ := hI
  have q1 := w1.1
  have m1 := w3.1
  have fin : ∀ r : Int32, f_X4_code (iv a) (iv b) SC = some (r, SC) → f_X5_code (iv a) (iv b) SM = some (r, sI SM 0 (iv 0)) → ∃ (r : Int32) (SC' SM' : St) (Z' : Zt), f_X4_code (iv a) (iv b) SC = some (r, SC') ∧ f_X5_code (iv a) (iv b) SM = some (r, SM') ∧ Inv Z' SC' SM' := fun r h1 h2 => ⟨r, SC, _, Z, h1, h2, Inv_thr _ hI2⟩
  by_cases h : 0 ≤ a ∧ a ≤ pN Z.1
  · obtain ⟨p, rfl⟩ := Int.eq_ofNat_of_zero_le h.1
    have pt := isPl_t w1 w2 h.1 h.2
    rcases w5 with ⟨o, o1, o2⟩ | ⟨o, o1, o2, o3, o4, o5⟩
    · refine fin (iv (-3)) ?_ ?_
      · unfold f_X4_code
        simp (disch := omega) only [nxt_e, bnd_s, chk_T, chk_nF, ↓reduceIte, i_0, i_1, i_2, i_3, i_4, i_5, i_6, i_8, i_9, i_10, i_15, i_19, i_20, i_30, i_31, i_40, i_60, i_100, i_200, i_1000, i_20000, iv_neg, iv_add, iv_sub, iv_mul, iv_lt, iv_le, iv_eq, iv_cl, iv_in, ltT, ltF, leT, leF, eqT, eqF, gI_e, gI_n, gI_sA, gI_sL, gI_sB, gL_e, gL_n, gL_sI, gL_sA, gL_sB, gA_e, gA_n, gA_sI, gA_sL, gA_sB, gB_e, gB_n, gB_sI, gB_sL, gB_sA, up_e, up_n, uL_e, uL_n, pt, o1]
      · unfold f_X5_code
        simp (disch := omega) only [nxt_e, bnd_s, chk_T, chk_nF, ↓reduceIte, i_0, i_1, i_2, i_3, i_4, i_5, i_6, i_8, i_9, i_10, i_15, i_19, i_20, i_30, i_31, i_40, i_60, i_100, i_200, i_1000, i_20000, iv_neg, iv_add, iv_sub, iv_mul, iv_lt, iv_le, iv_eq, iv_cl, iv_in, ltT, ltF, leT, leF, eqT, eqF, gI_e, gI_n, gI_sA, gI_sL, gI_sB, gL_e, gL_n, gL_sI, gL_sA, gL_sB, gA_e, gA_n, gA_sI, gA_sL, gA_sB, gB_e, gB_n, gB_sI, gB_sL, gB_sA, up_e, up_n, uL_e, uL_n, m1, isIn_t, o2]
    · have o4' := o4
      have hlen := o3.2.1 p
      obtain ⟨y1, y2, y3, y4, y5, y6, y7⟩ := o5
      have y1p := y1 p (by omega)
      by_cases hb : 0 ≤ b ∧ b < (lLs Z.2.2 p).length
      · obtain ⟨i, rfl⟩ := Int.eq_ofNat_of_zero_le hb.1
        have hi : (lLs Z.2.2 p)[i]? = some ((lLs Z.2.2 p)[i]'(by omega)) := List.getElem?_eq_getElem (by omega)
        generalize (lLs Z.2.2 p)[i]'(by omega) = cm at hi
        obtain ⟨c, m⟩ := cm
        have hc := (o3.2.2.2.1 p c m (List.mem_of_getElem? hi)).1
        refine fin (iv c) ?_ ?_
        · unfold f_X4_code
          simp (disch := omega) only [nxt_e, bnd_s, chk_T, chk_nF, ↓reduceIte, i_0, i_1, i_2, i_3, i_4, i_5, i_6, i_8, i_9, i_10, i_15, i_19, i_20, i_30, i_31, i_40, i_60, i_100, i_200, i_1000, i_20000, iv_neg, iv_add, iv_sub, iv_mul, iv_lt, iv_le, iv_eq, iv_cl, iv_in, ltT, ltF, leT, leF, eqT, eqF, gI_e, gI_n, gI_sA, gI_sL, gI_sB, gL_e, gL_n, gL_sI, gL_sA, gL_sB, gA_e, gA_n, gA_sI, gA_sL, gA_sB, gB_e, gB_n, gB_sI, gB_sL, gB_sA, up_e, up_n, uL_e, uL_n, pt, o1, e_has_t o4' (show p ≤ 30 by omega) (show i < (lLs Z.2.2 p).length by omega), e_held o4' (show p ≤ 30 by omega) hi, e_dec hc]
        · unfold f_X5_code
          simp (disch := omega) only [nxt_e, bnd_s, chk_T, chk_nF, ↓reduceIte, i_0, i_1, i_2, i_3, i_4, i_5, i_6, i_8, i_9, i_10, i_15, i_19, i_20, i_30, i_31, i_40, i_60, i_100, i_200, i_1000, i_20000, iv_neg, iv_add, iv_sub, iv_mul, iv_lt, iv_le, iv_eq, iv_cl, iv_in, ltT, ltF, leT, leF, eqT, eqF, gI_e, gI_n, gI_sA, gI_sL, gI_sB, gL_e, gL_n, gL_sI, gL_sA, gL_sB, gA_e, gA_n, gA_sI, gA_sL, gA_sB, gB_e, gB_n, gB_sI, gB_sL, gB_sA, up_e, up_n, uL_e, uL_n, m1, isIn_t, o2, Int.toNat_natCast, y1p]
          rw [show ((200 : Int) * (p : Int) + (i : Int)).toNat = 200 * p + i by omega, (y2 p i c m (by omega) hi).1]
      · refine fin (iv (-5)) ?_ ?_
        · unfold f_X4_code
          simp (disch := omega) only [nxt_e, bnd_s, chk_T, chk_nF, ↓reduceIte, i_0, i_1, i_2, i_3, i_4, i_5, i_6, i_8, i_9, i_10, i_15, i_19, i_20, i_30, i_31, i_40, i_60, i_100, i_200, i_1000, i_20000, iv_neg, iv_add, iv_sub, iv_mul, iv_lt, iv_le, iv_eq, iv_cl, iv_in, ltT, ltF, leT, leF, eqT, eqF, gI_e, gI_n, gI_sA, gI_sL, gI_sB, gL_e, gL_n, gL_sI, gL_sA, gL_sB, gA_e, gA_n, gA_sI, gA_sL, gA_sB, gB_e, gB_n, gB_sI, gB_sL, gB_sA, up_e, up_n, uL_e, uL_n, pt, o1, e_has_f o4' (show p ≤ 30 by omega) (z := b) (by omega) hb1 hb2]
        · unfold f_X5_code
          simp (disch := omega) only [nxt_e, bnd_s, chk_T, chk_nF, ↓reduceIte, i_0, i_1, i_2, i_3, i_4, i_5, i_6, i_8, i_9, i_10, i_15, i_19, i_20, i_30, i_31, i_40, i_60, i_100, i_200, i_1000, i_20000, iv_neg, iv_add, iv_sub, iv_mul, iv_lt, iv_le, iv_eq, iv_cl, iv_in, ltT, ltF, leT, leF, eqT, eqF, gI_e, gI_n, gI_sA, gI_sL, gI_sB, gL_e, gL_n, gL_sI, gL_sA, gL_sB, gA_e, gA_n, gA_sI, gA_sL, gA_sB, gB_e, gB_n, gB_sI, gB_sL, gB_sA, up_e, up_n, uL_e, uL_n, m1, isIn_t, o2, Int.toNat_natCast, y1p, isIn_f]
  · refine fin (iv (-1)) ?_ ?_
    · unfold f_X4_code
      rw [isPl_f w1 w2 (by omega) ha1 ha2]
      simp (disch := omega) only [nxt_e, bnd_s, chk_T, chk_nF, ↓reduceIte, i_0, i_1, i_2, i_3, i_4, i_5, i_6, i_8, i_9, i_10, i_15, i_19, i_20, i_30, i_31, i_40, i_60, i_100, i_200, i_1000, i_20000, iv_neg, iv_add, iv_sub, iv_mul, iv_lt, iv_le, iv_eq, iv_cl, iv_in, ltT, ltF, leT, leF, eqT, eqF, gI_e, gI_n, gI_sA, gI_sL, gI_sB, gL_e, gL_n, gL_sI, gL_sA, gL_sB, gA_e, gA_n, gA_sI, gA_sL, gA_sB, gB_e, gB_n, gB_sI, gB_sL, gB_sA, up_e, up_n, uL_e, uL_n]
    · unfold f_X5_code
      simp (disch := omega) only [nxt_e, bnd_s, chk_T, chk_nF, ↓reduceIte, i_0, i_1, i_2, i_3, i_4, i_5, i_6, i_8, i_9, i_10, i_15, i_19, i_20, i_30, i_31, i_40, i_60, i_100, i_200, i_1000, i_20000, iv_neg, iv_add, iv_sub, iv_mul, iv_lt, iv_le, iv_eq, iv_cl, iv_in, ltT, ltF, leT, leF, eqT, eqF, gI_e, gI_n, gI_sA, gI_sL, gI_sB, gL_e, gL_n, gL_sI, gL_sA, gL_sB, gA_e, gA_n, gA_sI, gA_sL, gA_sB, gB_e, gB_n, gB_sI, gB_sL, gB_sA, up_e, up_n, uL_e, uL_n, m1, isIn_f]
theorem sm_mass (a b : Int32) : Sm (f_X4_mass a b) (f_X5_mass a b) := by
  intro Z SC SM hI
  obtain ⟨a, rfl, ha1, ha2⟩ := iv_ex a
  obtain ⟨b, rfl, hb1, hb2⟩ := iv_ex b
  have hI2 := hI
  obtain ⟨w1, w2, w3, w4, w5⟩ := hI
  have q1 := w1.1
  have m1 := w3.1
  have fin : ∀ r : Int64, f_X4_mass (iv a) (iv b) SC = some (r, SC) → f_X5_mass (iv a) (iv b) SM = some (r, sI SM 0 (iv 0)) → ∃ (r : Int64) (SC' SM' : St) (Z' : Zt), f_X4_mass (iv a) (iv b) SC = some (r, SC') ∧ f_X5_mass (iv a) (iv b) SM = some (r, SM') ∧ Inv Z' SC' SM' := fun r h1 h2 => ⟨r, SC, _, Z, h1, h2, Inv_thr _ hI2⟩
  rcases w5 with ⟨o, o1, o2⟩ | ⟨o, o1, o2, o3, o4, o5⟩
  · refine fin 0 ?_ ?_
    · unfold f_X4_mass
      by_cases h : 0 ≤ a ∧ a ≤ pN Z.1
      · rw [isPl_t w1 w2 h.1 h.2]
        simp (disch := omega) only [nxt_e, bnd_s, chk_T, chk_nF, ↓reduceIte, i_0, i_1, i_2, i_3, i_4, i_5, i_6, i_8, i_9, i_10, i_15, i_19, i_20, i_30, i_31, i_40, i_60, i_100, i_200, i_1000, i_20000, iv_neg, iv_add, iv_sub, iv_mul, iv_lt, iv_le, iv_eq, iv_cl, iv_in, ltT, ltF, leT, leF, eqT, eqF, gI_e, gI_n, gI_sA, gI_sL, gI_sB, gL_e, gL_n, gL_sI, gL_sA, gL_sB, gA_e, gA_n, gA_sI, gA_sL, gA_sB, gB_e, gB_n, gB_sI, gB_sL, gB_sA, up_e, up_n, uL_e, uL_n, o1]
      · rw [isPl_f w1 w2 (by omega) ha1 ha2]
        simp (disch := omega) only [nxt_e, bnd_s, chk_T, chk_nF, ↓reduceIte, i_0, i_1, i_2, i_3, i_4, i_5, i_6, i_8, i_9, i_10, i_15, i_19, i_20, i_30, i_31, i_40, i_60, i_100, i_200, i_1000, i_20000, iv_neg, iv_add, iv_sub, iv_mul, iv_lt, iv_le, iv_eq, iv_cl, iv_in, ltT, ltF, leT, leF, eqT, eqF, gI_e, gI_n, gI_sA, gI_sL, gI_sB, gL_e, gL_n, gL_sI, gL_sA, gL_sB, gA_e, gA_n, gA_sI, gA_sL, gA_sB, gB_e, gB_n, gB_sI, gB_sL, gB_sA, up_e, up_n, uL_e, uL_n, o1]
    · unfold f_X5_mass
      simp (disch := omega) only [nxt_e, bnd_s, chk_T, chk_nF, ↓reduceIte, i_0, i_1, i_2, i_3, i_4, i_5, i_6, i_8, i_9, i_10, i_15, i_19, i_20, i_30, i_31, i_40, i_60, i_100, i_200, i_1000, i_20000, iv_neg, iv_add, iv_sub, iv_mul, iv_lt, iv_le, iv_eq, iv_cl, iv_in, ltT, ltF, leT, leF, eqT, eqF, gI_e, gI_n, gI_sA, gI_sL, gI_sB, gL_e, gL_n, gL_sI, gL_sA, gL_sB, gA_e, gA_n, gA_sI, gA_sL, gA_sB, gB_e, gB_n, gB_sI, gB_sL, gB_sA, up_e, up_n, uL_e, uL_n, o2]
  · by_cases h : 0 ≤ a ∧ a ≤ pN Z.1
    · obtain ⟨p, rfl⟩ := Int.eq_ofNat_of_zero_le h.1
      have pt := isPl_t w1 w2 h.1 h.2
      have hlen := o3.2.1 p
      obtain ⟨y1, y2, y3, y4, y5, y6, y7⟩ := o5
      have y1p := y1 p (by omega)
      by_cases hb : 0 ≤ b ∧ b < (lLs Z.2.2 p).length
      · obtain ⟨i, rfl⟩ := Int.eq_ofNat_of_zero_le hb.1
        have hi : (lLs Z.2.2 p)[i]? = some ((lLs Z.2.2 p)[i]'(by omega)) := List.getElem?_eq_getElem (by omega)
        generalize (lLs Z.2.2 p)[i]'(by omega) = cm at hi
        obtain ⟨c, m⟩ := cm
        refine fin (jv m) ?_ ?_
        · unfold f_X4_mass
          simp (disch := omega) only [nxt_e, bnd_s, chk_T, chk_nF, ↓reduceIte, i_0, i_1, i_2, i_3, i_4, i_5, i_6, i_8, i_9, i_10, i_15, i_19, i_20, i_30, i_31, i_40, i_60, i_100, i_200, i_1000, i_20000, iv_neg, iv_add, iv_sub, iv_mul, iv_lt, iv_le, iv_eq, iv_cl, iv_in, ltT, ltF, leT, leF, eqT, eqF, gI_e, gI_n, gI_sA, gI_sL, gI_sB, gL_e, gL_n, gL_sI, gL_sA, gL_sB, gA_e, gA_n, gA_sI, gA_sL, gA_sB, gB_e, gB_n, gB_sI, gB_sL, gB_sA, up_e, up_n, uL_e, uL_n, pt, o1, e_has_t o4 (show p ≤ 30 by omega) (show i < (lLs Z.2.2 p).length by omega), e_mass o4 (show p ≤ 30 by omega) hi]
        · unfold f_X5_mass
          simp (disch := omega) only [nxt_e, bnd_s, chk_T, chk_nF, ↓reduceIte, i_0, i_1, i_2, i_3, i_4, i_5, i_6, i_8, i_9, i_10, i_15, i_19, i_20, i_30, i_31, i_40, i_60, i_100, i_200, i_1000, i_20000, iv_neg, iv_add, iv_sub, iv_mul, iv_lt, iv_le, iv_eq, iv_cl, iv_in, ltT, ltF, leT, leF, eqT, eqF, gI_e, gI_n, gI_sA, gI_sL, gI_sB, gL_e, gL_n, gL_sI, gL_sA, gL_sB, gA_e, gA_n, gA_sI, gA_sL, gA_sB, gB_e, gB_n, gB_sI, gB_sL, gB_sA, up_e, up_n, uL_e, uL_n, m1, isIn_t, o2, Int.toNat_natCast, y1p]
          rw [show ((200 : Int) * (p : Int) + (i : Int)).toNat = 200 * p + i by omega, (y2 p i c m (by omega) hi).2]
      · refine fin 0 ?_ ?_
        · unfold f_X4_mass
          simp (disch := omega) only [nxt_e, bnd_s, chk_T, chk_nF, ↓reduceIte, i_0, i_1, i_2, i_3, i_4, i_5, i_6, i_8, i_9, i_10, i_15, i_19, i_20, i_30, i_31, i_40, i_60, i_100, i_200, i_1000, i_20000, iv_neg, iv_add, iv_sub, iv_mul, iv_lt, iv_le, iv_eq, iv_cl, iv_in, ltT, ltF, leT, leF, eqT, eqF, gI_e, gI_n, gI_sA, gI_sL, gI_sB, gL_e, gL_n, gL_sI, gL_sA, gL_sB, gA_e, gA_n, gA_sI, gA_sL, gA_sB, gB_e, gB_n, gB_sI, gB_sL, gB_sA, up_e, up_n, uL_e, uL_n, pt, o1, e_has_f o4 (show p ≤ 30 by omega) (z := b) (by omega) hb1 hb2]
        · unfold f_X5_mass
          simp (disch := omega) only [nxt_e, bnd_s, chk_T, chk_nF, ↓reduceIte, i_0, i_1, i_2, i_3, i_4, i_5, i_6, i_8, i_9, i_10, i_15, i_19, i_20, i_30, i_31, i_40, i_60, i_100, i_200, i_1000, i_20000, iv_neg, iv_add, iv_sub, iv_mul, iv_lt, iv_le, iv_eq, iv_cl, iv_in, ltT, ltF, leT, leF, eqT, eqF, gI_e, gI_n, gI_sA, gI_sL, gI_sB, gL_e, gL_n, gL_sI, gL_sA, gL_sB, gA_e, gA_n, gA_sI, gA_sL, gA_sB, gB_e, gB_n, gB_sI, gB_sL, gB_sA, up_e, up_n, uL_e, uL_n, m1, isIn_t, o2, Int.toNat_natCast, y1p, isIn_f]
    · refine fin 0 ?_ ?_
      · unfold f_X4_mass
        rw [isPl_f w1 w2 (by omega) ha1 ha2]
        simp (disch := omega) only [nxt_e, bnd_s, chk_T, chk_nF, ↓reduceIte, i_0, i_1, i_2, i_3, i_4, i_5, i_6, i_8, i_9, i_10, i_15, i_19, i_20, i_30, i_31, i_40, i_60, i_100, i_200, i_1000, i_20000, iv_neg, iv_add, iv_sub, iv_mul, iv_lt, iv_le, iv_eq, iv_cl, iv_in, ltT, ltF, leT, leF, eqT, eqF, gI_e, gI_n, gI_sA, gI_sL, gI_sB, gL_e, gL_n, gL_sI, gL_sA, gL_sB, gA_e, gA_n, gA_sI, gA_sL, gA_sB, gB_e, gB_n, gB_sI, gB_sL, gB_sA, up_e, up_n, uL_e, uL_n]
      · unfold f_X5_mass
        simp (disch := omega) only [nxt_e, bnd_s, chk_T, chk_nF, ↓reduceIte, i_0, i_1, i_2, i_3, i_4, i_5, i_6, i_8, i_9, i_10, i_15, i_19, i_20, i_30, i_31, i_40, i_60, i_100, i_200, i_1000, i_20000, iv_neg, iv_add, iv_sub, iv_mul, iv_lt, iv_le, iv_eq, iv_cl, iv_in, ltT, ltF, leT, leF, eqT, eqF, gI_e, gI_n, gI_sA, gI_sL, gI_sB, gL_e, gL_n, gL_sI, gL_sA, gL_sB, gA_e, gA_n, gA_sI, gA_sL, gA_sB, gB_e, gB_n, gB_sI, gB_sL, gB_sA, up_e, up_n, uL_e, uL_n, m1, o2, isIn_f]
/-! clear -/
theorem rsM50 : ∀ (j x fuel : Nat) (S : St), j + x = 6 → j < fuel → ∃ f, lp_X5_reset_50 fuel (iv (x : Int)) S = some ((), sI (sA S 7 f) 11 (iv 0)) ∧ (∀ y, y < 6 → f y = if x ≤ y then iv 0 else gA S 7 y) := by
  intro j
  induction j with
  | zero =>
    intro x fuel S hx hf
    obtain ⟨n, rfl⟩ : ∃ k, fuel = k + 1 := ⟨fuel - 1, by omega⟩
    refine ⟨gA S 7, ?_, fun y h1 => by rw [if_neg (show ¬ x ≤ y by omega)]⟩
    rw [lp_X5_reset_50, sA_self]
    simp (disch := omega) only [nxt_e, bnd_s, chk_T, chk_nF, ↓reduceIte, i_0, i_1, i_2, i_3, i_4, i_5, i_6, i_8, i_9, i_10, i_15, i_19, i_20, i_30, i_31, i_40, i_60, i_100, i_200, i_1000, i_20000, iv_neg, iv_add, iv_sub, iv_mul, iv_lt, iv_le, iv_eq, iv_cl, iv_in, ltT, ltF, leT, leF, eqT, eqF, gI_e, gI_n, gI_sA, gI_sL, gI_sB, gL_e, gL_n, gL_sI, gL_sA, gL_sB, gA_e, gA_n, gA_sI, gA_sL, gA_sB, gB_e, gB_n, gB_sI, gB_sL, gB_sA, up_e, up_n, uL_e, uL_n]
  | succ j ih =>
    intro x fuel S hx hf
    obtain ⟨n, rfl⟩ : ∃ k, fuel = k + 1 := ⟨fuel - 1, by omega⟩
    rw [lp_X5_reset_50]
    simp (disch := omega) only [nxt_e, bnd_s, chk_T, chk_nF, ↓reduceIte, i_0, i_1, i_2, i_3, i_4, i_5, i_6, i_8, i_9, i_10, i_15, i_19, i_20, i_30, i_31, i_40, i_60, i_100, i_200, i_1000, i_20000, iv_neg, iv_add, iv_sub, iv_mul, iv_lt, iv_le, iv_eq, iv_cl, iv_in, ltT, ltF, leT, leF, eqT, eqF, gI_e, gI_n, gI_sA, gI_sL, gI_sB, gL_e, gL_n, gL_sI, gL_sA, gL_sB, gA_e, gA_n, gA_sI, gA_sL, gA_sB, gB_e, gB_n, gB_sI, gB_sL, gB_sA, up_e, up_n, uL_e, uL_n, Int.toNat_natCast, bz0]
    obtain ⟨f, f1, f2⟩ := ih (x + 1) n (sA S 7 (upd (gA S 7) x (iv 0))) (by omega) (by omega)
    rw [sA_sA] at f1
    refine ⟨f, f1, fun y hy => ?_⟩
    rw [f2 y hy, gA_e]
    by_cases e : y = x
    · rw [if_neg (show ¬ x + 1 ≤ y by omega), if_pos (show x ≤ y by omega), up_e e]
    · by_cases e2 : x + 1 ≤ y
      · rw [if_pos e2, if_pos (show x ≤ y by omega)]
      · rw [if_neg e2, if_neg (show ¬ x ≤ y by omega), up_n e]
theorem rsM17 : ∀ (j x fuel : Nat) (S : St), j + x = 40 → j < fuel → ∃ f g, lp_X5_reset_17 fuel (iv (x : Int)) S = some ((), sI (sA (sA S 6 f) 7 g) 11 (iv 0)) ∧ (∀ y, y < 40 → f y = if x ≤ y then (if y % 10 = 0 then iv 60 else iv 0) else gA S 6 y) ∧ ∀ y, y < 6 → g y = iv 0 := by
  intro j
  induction j with
  | zero =>
    intro x fuel S hx hf
    obtain ⟨n, rfl⟩ : ∃ k, fuel = k + 1 := ⟨fuel - 1, by omega⟩
    obtain ⟨g, g1, g2⟩ := rsM50 6 0 FU S rfl (by rw [FU_v]; decide)
    refine ⟨gA S 6, g, ?_, fun y h1 => by rw [if_neg (show ¬ x ≤ y by omega)], fun y hy => by rw [g2 y hy, if_pos (Nat.zero_le y)]⟩
    rw [lp_X5_reset_17, sA_self]
    simp (disch := omega) only [nxt_e, bnd_s, chk_T, chk_nF, ↓reduceIte, i_0, i_1, i_2, i_3, i_4, i_5, i_6, i_8, i_9, i_10, i_15, i_19, i_20, i_30, i_31, i_40, i_60, i_100, i_200, i_1000, i_20000, iv_neg, iv_add, iv_sub, iv_mul, iv_lt, iv_le, iv_eq, iv_cl, iv_in, ltT, ltF, leT, leF, eqT, eqF, gI_e, gI_n, gI_sA, gI_sL, gI_sB, gL_e, gL_n, gL_sI, gL_sA, gL_sB, gA_e, gA_n, gA_sI, gA_sL, gA_sB, gB_e, gB_n, gB_sI, gB_sL, gB_sA, up_e, up_n, uL_e, uL_n]
    exact g1
  | succ j ih =>
    intro x fuel S hx hf
    obtain ⟨n, rfl⟩ : ∃ k, fuel = k + 1 := ⟨fuel - 1, by omega⟩
    have step : ∀ v : Int32, v = (if x % 10 = 0 then iv 60 else iv 0) → ∃ f g, lp_X5_reset_17 n (iv ((x : Int) + 1)) (sA S 6 (upd (gA S 6) x v)) = some ((), sI (sA (sA S 6 f) 7 g) 11 (iv 0)) ∧ (∀ y, y < 40 → f y = if x ≤ y then (if y % 10 = 0 then iv 60 else iv 0) else gA S 6 y) ∧ ∀ y, y < 6 → g y = iv 0 := by
      intro v hv
      obtain ⟨f, g, f1, f2, f3⟩ := ih (x + 1) n (sA S 6 (upd (gA S 6) x v)) (by omega) (by omega)
      rw [sA_sA] at f1
      refine ⟨f, g, f1, fun y hy => ?_, f3⟩
      rw [f2 y hy, gA_e]
      by_cases e : y = x
      · rw [if_neg (show ¬ x + 1 ≤ y by omega), if_pos (show x ≤ y by omega), up_e e, hv, e]
      · by_cases e2 : x + 1 ≤ y
        · rw [if_pos e2, if_pos (show x ≤ y by omega)]
        · rw [if_neg e2, if_neg (show ¬ x ≤ y by omega), up_n e]
    rw [lp_X5_reset_17]
    by_cases hm : x % 10 = 0
    · simp (disch := omega) only [nxt_e, bnd_s, chk_T, chk_nF, ↓reduceIte, i_0, i_1, i_2, i_3, i_4, i_5, i_6, i_8, i_9, i_10, i_15, i_19, i_20, i_30, i_31, i_40, i_60, i_100, i_200, i_1000, i_20000, iv_neg, iv_add, iv_sub, iv_mul, iv_lt, iv_le, iv_eq, iv_cl, iv_in, ltT, ltF, leT, leF, eqT, eqF, gI_e, gI_n, gI_sA, gI_sL, gI_sB, gL_e, gL_n, gL_sI, gL_sA, gL_sB, gA_e, gA_n, gA_sI, gA_sL, gA_sB, gB_e, gB_n, gB_sI, gB_sL, gB_sA, up_e, up_n, uL_e, uL_n, Int.toNat_natCast, iv_div]
      exact step _ (by rw [if_pos hm])
    · simp (disch := omega) only [nxt_e, bnd_s, chk_T, chk_nF, ↓reduceIte, i_0, i_1, i_2, i_3, i_4, i_5, i_6, i_8, i_9, i_10, i_15, i_19, i_20, i_30, i_31, i_40, i_60, i_100, i_200, i_1000, i_20000, iv_neg, iv_add, iv_sub, iv_mul, iv_lt, iv_le, iv_eq, iv_cl, iv_in, ltT, ltF, leT, leF, eqT, eqF, gI_e, gI_n, gI_sA, gI_sL, gI_sB, gL_e, gL_n, gL_sI, gL_sA, gL_sB, gA_e, gA_n, gA_sI, gA_sL, gA_sB, gB_e, gB_n, gB_sI, gB_sL, gB_sA, up_e, up_n, uL_e, uL_n, Int.toNat_natCast, iv_div]
      exact step _ (by rw [if_neg hm])
theorem rsC29 {r : Nat} (hr : r < 4) {k : Int32 → St → Option (Unit × St)} : ∀ (j x fuel : Nat) (S : St), j + x = 10 → j < fuel → ∃ f, lp_X2_reset_29 (iv (r : Int)) k fuel (iv (x : Int)) S = k (iv ((r : Int) + 1)) (sA S (19 + r) f) ∧ (∀ y, y < 10 → f y = if x ≤ y then (if y = 0 then iv 60 else iv 0) else gA S (19 + r) y) := by
  intro j
  induction j with
  | zero =>
    intro x fuel S hx hf
    obtain ⟨n, rfl⟩ : ∃ k, fuel = k + 1 := ⟨fuel - 1, by omega⟩
    refine ⟨gA S (19 + r), ?_, fun y h1 => by rw [if_neg (show ¬ x ≤ y by omega)]⟩
    rw [lp_X2_reset_29, sA_self]
    simp (disch := omega) only [nxt_e, bnd_s, chk_T, chk_nF, ↓reduceIte, i_0, i_1, i_2, i_3, i_4, i_5, i_6, i_8, i_9, i_10, i_15, i_19, i_20, i_30, i_31, i_40, i_60, i_100, i_200, i_1000, i_20000, iv_neg, iv_add, iv_sub, iv_mul, iv_lt, iv_le, iv_eq, iv_cl, iv_in, ltT, ltF, leT, leF, eqT, eqF, gI_e, gI_n, gI_sA, gI_sL, gI_sB, gL_e, gL_n, gL_sI, gL_sA, gL_sB, gA_e, gA_n, gA_sI, gA_sL, gA_sB, gB_e, gB_n, gB_sI, gB_sL, gB_sA, up_e, up_n, uL_e, uL_n]
  | succ j ih =>
    intro x fuel S hx hf
    obtain ⟨n, rfl⟩ : ∃ k, fuel = k + 1 := ⟨fuel - 1, by omega⟩
    have step : ∀ v : Int32, v = (if x = 0 then iv 60 else iv 0) → ∃ f, lp_X2_reset_29 (iv (r : Int)) k n (iv ((x : Int) + 1)) (sA S (19 + r) (upd (gA S (19 + r)) x v)) = k (iv ((r : Int) + 1)) (sA S (19 + r) f) ∧ (∀ y, y < 10 → f y = if x ≤ y then (if y = 0 then iv 60 else iv 0) else gA S (19 + r) y) := by
      intro v hv
      obtain ⟨f, f1, f2⟩ := ih (x + 1) n (sA S (19 + r) (upd (gA S (19 + r)) x v)) (by omega) (by omega)
      rw [sA_sA] at f1
      refine ⟨f, f1, fun y hy => ?_⟩
      rw [f2 y hy, gA_e]
      by_cases e : y = x
      · rw [if_neg (show ¬ x + 1 ≤ y by omega), if_pos (show x ≤ y by omega), up_e e, hv, e]
      · by_cases e2 : x + 1 ≤ y
        · rw [if_pos e2, if_pos (show x ≤ y by omega)]
        · rw [if_neg e2, if_neg (show ¬ x ≤ y by omega), up_n e]
    rw [lp_X2_reset_29]
    by_cases hm : x = 0
    · simp (disch := omega) only [nxt_e, bnd_s, chk_T, chk_nF, ↓reduceIte, i_0, i_1, i_2, i_3, i_4, i_5, i_6, i_8, i_9, i_10, i_15, i_19, i_20, i_30, i_31, i_40, i_60, i_100, i_200, i_1000, i_20000, iv_neg, iv_add, iv_sub, iv_mul, iv_lt, iv_le, iv_eq, iv_cl, iv_in, ltT, ltF, leT, leF, eqT, eqF, gI_e, gI_n, gI_sA, gI_sL, gI_sB, gL_e, gL_n, gL_sI, gL_sA, gL_sB, gA_e, gA_n, gA_sI, gA_sL, gA_sB, gB_e, gB_n, gB_sI, gB_sL, gB_sA, up_e, up_n, uL_e, uL_n, Int.toNat_natCast]
      exact step _ (by rw [if_pos hm])
    · simp (disch := omega) only [nxt_e, bnd_s, chk_T, chk_nF, ↓reduceIte, i_0, i_1, i_2, i_3, i_4, i_5, i_6, i_8, i_9, i_10, i_15, i_19, i_20, i_30, i_31, i_40, i_60, i_100, i_200, i_1000, i_20000, iv_neg, iv_add, iv_sub, iv_mul, iv_lt, iv_le, iv_eq, iv_cl, iv_in, ltT, ltF, leT, leF, eqT, eqF, gI_e, gI_n, gI_sA, gI_sL, gI_sB, gL_e, gL_n, gL_sI, gL_sA, gL_sB, gA_e, gA_n, gA_sI, gA_sL, gA_sB, gB_e, gB_n, gB_sI, gB_sL, gB_sA, up_e, up_n, uL_e, uL_n, Int.toNat_natCast]
      exact step _ (by rw [if_neg hm])
theorem rsC22 : ∀ (j r fuel : Nat) (S : St), j + r = 4 → j < fuel → ∃ S', lp_X2_reset_22 fuel (iv (r : Int)) S = some ((), S') ∧ (∀ k, gI S' k = gI S k) ∧ (∀ k, gL S' k = gL S k) ∧ (∀ k, gB S' k = gB S k) ∧ (∀ k, (k < 19 + r ∨ 23 ≤ k) → gA S' k = gA S k) ∧ ∀ r' v, r ≤ r' → r' < 4 → v < 10 → gA S' (19 + r') v = if v = 0 then iv 60 else iv 0 := by
  intro j
  induction j with
  | zero =>
    intro r fuel S hr hf
    obtain ⟨n, rfl⟩ : ∃ k, fuel = k + 1 := ⟨fuel - 1, by omega⟩
    refine ⟨S, ?_, fun _ => rfl, fun _ => rfl, fun _ => rfl, fun _ _ => rfl, fun r' v h1 h2 _ => by omega⟩
    rw [lp_X2_reset_22]
    simp (disch := omega) only [nxt_e, bnd_s, chk_T, chk_nF, ↓reduceIte, i_0, i_1, i_2, i_3, i_4, i_5, i_6, i_8, i_9, i_10, i_15, i_19, i_20, i_30, i_31, i_40, i_60, i_100, i_200, i_1000, i_20000, iv_neg, iv_add, iv_sub, iv_mul, iv_lt, iv_le, iv_eq, iv_cl, iv_in, ltT, ltF, leT, leF, eqT, eqF, gI_e, gI_n, gI_sA, gI_sL, gI_sB, gL_e, gL_n, gL_sI, gL_sA, gL_sB, gA_e, gA_n, gA_sI, gA_sL, gA_sB, gB_e, gB_n, gB_sI, gB_sL, gB_sA, up_e, up_n, uL_e, uL_n]
  | succ j ih =>
    intro r fuel S hr hf
    obtain ⟨n, rfl⟩ : ∃ k, fuel = k + 1 := ⟨fuel - 1, by omega⟩
    rw [lp_X2_reset_22]
    simp (disch := omega) only [nxt_e, bnd_s, chk_T, chk_nF, ↓reduceIte, i_0, i_1, i_2, i_3, i_4, i_5, i_6, i_8, i_9, i_10, i_15, i_19, i_20, i_30, i_31, i_40, i_60, i_100, i_200, i_1000, i_20000, iv_neg, iv_add, iv_sub, iv_mul, iv_lt, iv_le, iv_eq, iv_cl, iv_in, ltT, ltF, leT, leF, eqT, eqF, gI_e, gI_n, gI_sA, gI_sL, gI_sB, gL_e, gL_n, gL_sI, gL_sA, gL_sB, gA_e, gA_n, gA_sI, gA_sL, gA_sB, gB_e, gB_n, gB_sI, gB_sL, gB_sA, up_e, up_n, uL_e, uL_n]
    obtain ⟨f, f1, f2⟩ := rsC29 (r := r) (by omega) (k := lp_X2_reset_22 n) 10 0 FU S rfl (by rw [FU_v]; decide)
    rw [show iv 0 = iv ((0 : Nat) : Int) from rfl, f1]
    obtain ⟨S', s1, s2, s3, s4, s5, s6⟩ := ih (r + 1) n (sA S (19 + r) f) (by omega) (by omega)
    refine ⟨S', s1, s2, s3, s4, fun k hk => ?_, fun r' v h1 h2 h3 => ?_⟩
    · rw [s5 k (by omega), gA_n (by omega)]
    · by_cases e : r' = r
      · subst e
        rw [s5 _ (by omega), gA_e, f2 v h3, if_pos (Nat.zero_le v)]
        rfl
      · exact s6 r' v (by omega) h2 h3
theorem i0n : iv ((0 : Nat) : Int) = iv 0 := rfl
def pClr (P : Pr) : Pr := (0, pK P, pG P, pE P, pA P, pB P, fun _ v => if v = 0 then 60 else 0, fun _ => 0)
theorem clrC {SC S' : St} {P : Pr} (c1 : gI SC 208 = iv (pN P)) (s1 : lp_X2_reset_22 FU (iv 0) (sI (sI (sI (sI (sI (sI SC 108 (iv 0)) 304 (iv 0)) 208 (iv 0)) 209 (iv 0)) 210 (iv 0)) 207 (iv 0)) = some ((), S')) : f_X4_clear SC = some (iv (pN P), S') := by
  unfold f_X4_clear f_X2_reset
  simp (disch := omega) only [nxt_e, bnd_s, chk_T, chk_nF, ↓reduceIte, i_0, i_1, i_2, i_3, i_4, i_5, i_6, i_8, i_9, i_10, i_15, i_19, i_20, i_30, i_31, i_40, i_60, i_100, i_200, i_1000, i_20000, iv_neg, iv_add, iv_sub, iv_mul, iv_lt, iv_le, iv_eq, iv_cl, iv_in, ltT, ltF, leT, leF, eqT, eqF, gI_e, gI_n, gI_sA, gI_sL, gI_sB, gL_e, gL_n, gL_sI, gL_sA, gL_sB, gA_e, gA_n, gA_sI, gA_sL, gA_sB, gB_e, gB_n, gB_sI, gB_sL, gB_sA, up_e, up_n, uL_e, uL_n, c1, e_chg]
  rw [s1, bnd_s]
theorem clrM {SM S' : St} {P : Pr} (m1 : gI SM 1 = iv (pN P)) (f1 : lp_X5_reset_17 FU (iv 0) (sI (sI (sI (sI SM 0 (iv 0)) 1 (iv 0)) 2 (iv 0)) 3 (iv 0)) = some ((), S')) : f_X5_clear SM = some (iv (pN P), S') := by
  unfold f_X5_clear f_X5_reset
  simp (disch := omega) only [nxt_e, bnd_s, chk_T, chk_nF, ↓reduceIte, i_0, i_1, i_2, i_3, i_4, i_5, i_6, i_8, i_9, i_10, i_15, i_19, i_20, i_30, i_31, i_40, i_60, i_100, i_200, i_1000, i_20000, iv_neg, iv_add, iv_sub, iv_mul, iv_lt, iv_le, iv_eq, iv_cl, iv_in, ltT, ltF, leT, leF, eqT, eqF, gI_e, gI_n, gI_sA, gI_sL, gI_sB, gL_e, gL_n, gL_sI, gL_sA, gL_sB, gA_e, gA_n, gA_sI, gA_sL, gA_sB, gB_e, gB_n, gB_sI, gB_sL, gB_sA, up_e, up_n, uL_e, uL_n, m1]
  rw [f1, bnd_s]
theorem sm_clear : Sm f_X4_clear f_X5_clear := by
  intro Z SC SM hI
  obtain ⟨w1, w2, w3, w4, w5⟩ := hI
  obtain ⟨m1, m2, m3, m4, m5, m6, m7, m8, m9, m10⟩ := w3
  obtain ⟨c1, c2, c3, c4, c5, c6, c7, c8, c9, c10⟩ := w2
  obtain ⟨q1, q2, q3, q4, q5, q6, q7, q8⟩ := w1
  have hw : Wf (pClr Z.1) := by
    refine ⟨show (0 : Nat) ≤ 30 by decide, fun k => ⟨(q2 k).1, (q2 k).2.1, (q2 k).2.2.1, (q2 k).2.2.2.1, fun h => absurd h (Nat.not_lt_zero k)⟩, q3, q4, fun r v => ?_, show (0 : Nat) ≤ 8 by decide, show (0 : Nat) ≤ 3 by decide, fun x => show (0 : Nat) ≤ 1 by decide⟩
    show (if v = 0 then 60 else 0) ≤ 60
    split <;> omega
  obtain ⟨S', s1, s2, s3, s4, s5, s6⟩ := rsC22 4 0 FU (sI (sI (sI (sI (sI (sI SC 108 (iv 0)) 304 (iv 0)) 208 (iv 0)) 209 (iv 0)) 210 (iv 0)) 207 (iv 0)) rfl (by rw [FU_v]; decide)
  obtain ⟨f, g, f1, f2, f3⟩ := rsM17 40 0 FU (sI (sI (sI (sI SM 0 (iv 0)) 1 (iv 0)) 2 (iv 0)) 3 (iv 0)) rfl (by rw [FU_v]; decide)
  rw [i0n] at s1 f1
  refine ⟨iv (pN Z.1), S', sI (sA (sA (sI (sI (sI (sI SM 0 (iv 0)) 1 (iv 0)) 2 (iv 0)) 3 (iv 0)) 6 f) 7 g) 11 (iv 0), (pClr Z.1, 0, Z.2.2), ?_, ?_, Inv_end hw ?_ ?_ ?_ ?_ ?_⟩
  · exact clrC c1 s1
  · exact clrM m1 f1
  · refine ⟨?_, ?_, ?_, ?_, ?_, ?_, ?_, ?_, ?_, ?_⟩
    · rw [s2]; rfl
    · rw [s2]; rfl
    · rw [s2]; rfl
    · rw [s5 _ (by decide)]; exact c4
    · rw [s5 _ (by decide)]; exact c5
    · rw [s5 _ (by decide)]; exact c6
    · rw [s5 _ (by decide)]; exact c7
    · rw [s5 _ (by decide)]; exact c8
    · intro r v hr hv
      rw [s6 r v (Nat.zero_le r) hr hv]
      show _ = iv (((if v = 0 then 60 else 0 : Nat)) : Int)
      split <;> rfl
    · rw [s2]; rfl
  · refine ⟨?_, ?_, ?_, ?_, ?_, ?_, ?_, ?_, ?_, ?_⟩
    · rfl
    · rfl
    · rfl
    · simp (disch := omega) only [gI_e, gI_n, gI_sA, gI_sL, gI_sB, gL_e, gL_n, gL_sI, gL_sA, gL_sB, gA_e, gA_n, gA_sI, gA_sL, gA_sB, gB_e, gB_n, gB_sI, gB_sL, gB_sA, up_e, up_n, uL_e, uL_n]; exact m4
    · simp (disch := omega) only [gI_e, gI_n, gI_sA, gI_sL, gI_sB, gL_e, gL_n, gL_sI, gL_sA, gL_sB, gA_e, gA_n, gA_sI, gA_sL, gA_sB, gB_e, gB_n, gB_sI, gB_sL, gB_sA, up_e, up_n, uL_e, uL_n]; exact m5
    · simp (disch := omega) only [gI_e, gI_n, gI_sA, gI_sL, gI_sB, gL_e, gL_n, gL_sI, gL_sA, gL_sB, gA_e, gA_n, gA_sI, gA_sL, gA_sB, gB_e, gB_n, gB_sI, gB_sL, gB_sA, up_e, up_n, uL_e, uL_n]; exact m6
    · simp (disch := omega) only [gI_e, gI_n, gI_sA, gI_sL, gI_sB, gL_e, gL_n, gL_sI, gL_sA, gL_sB, gA_e, gA_n, gA_sI, gA_sL, gA_sB, gB_e, gB_n, gB_sI, gB_sL, gB_sA, up_e, up_n, uL_e, uL_n]; exact m7
    · simp (disch := omega) only [gI_e, gI_n, gI_sA, gI_sL, gI_sB, gL_e, gL_n, gL_sI, gL_sA, gL_sB, gA_e, gA_n, gA_sI, gA_sL, gA_sB, gB_e, gB_n, gB_sI, gB_sL, gB_sA, up_e, up_n, uL_e, uL_n]; exact m8
    · intro r v hr hv
      simp (disch := omega) only [gI_e, gI_n, gI_sA, gI_sL, gI_sB, gL_e, gL_n, gL_sI, gL_sA, gL_sB, gA_e, gA_n, gA_sI, gA_sL, gA_sB, gB_e, gB_n, gB_sI, gB_sL, gB_sA, up_e, up_n, uL_e, uL_n]
      rw [f2 _ (by omega), if_pos (Nat.zero_le _)]
      show _ = iv (((if v = 0 then 60 else 0 : Nat)) : Int)
      by_cases e : v = 0
      · rw [if_pos (by omega), if_pos e]; rfl
      · rw [if_neg (by omega), if_neg e]; rfl
    · intro x hx
      simp (disch := omega) only [gI_e, gI_n, gI_sA, gI_sL, gI_sB, gL_e, gL_n, gL_sI, gL_sA, gL_sB, gA_e, gA_n, gA_sI, gA_sL, gA_sB, gB_e, gB_n, gB_sI, gB_sL, gB_sA, up_e, up_n, uL_e, uL_n]
      exact f3 x hx
  · rw [s2]; rfl
  · rw [s2]; rfl
  · rfl
