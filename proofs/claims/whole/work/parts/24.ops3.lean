theorem sm_set (a b c d : Int32) : Sm (f_X4_set a b c d) (f_X5_set a b c d) := by
  intro Z SC SM hI
  obtain ⟨a, rfl, ha1, ha2⟩ := iv_ex a
  obtain ⟨b, rfl, hb1, hb2⟩ := iv_ex b
  obtain ⟨c, rfl, hc1, hc2⟩ := iv_ex c
  obtain ⟨d, rfl, hd1, hd2⟩ := iv_ex d
  by_cases h1 : 0 ≤ a ∧ a ≤ 5
  · by_cases h2 : 0 ≤ b ∧ b ≤ 6
    · by_cases h3 : (0 ≤ c ∧ c ≤ 5) ∨ (10 ≤ c ∧ c ≤ 19)
      · by_cases h4 : (0 ≤ d ∧ d ≤ 5) ∨ (10 ≤ d ∧ d ≤ 19)
        · have hI2 := hI
          obtain ⟨w1, w2, w3, w4, w5⟩ := hI
          obtain ⟨m1, m2, m3, m4, m5, m6, m7, m8, m9, m10⟩ := w3
          have q1 := w1.1
          by_cases h5 : pN Z.1 = 30
          · refine ⟨iv (-2), SC, sI SM 0 (iv 0), Z, ?_, ?_, Inv_thr _ hI2⟩
            · unfold f_X4_set
              simp (disch := omega) only [nxt_e, bnd_s, chk_T, chk_nF, ↓reduceIte, i_0, i_1, i_2, i_3, i_4, i_5, i_6, i_8, i_9, i_10, i_15, i_19, i_20, i_30, i_31, i_40, i_60, i_100, i_200, i_1000, i_20000, iv_neg, iv_add, iv_sub, iv_mul, iv_lt, iv_le, iv_eq, iv_cl, iv_in, ltT, ltF, leT, leF, eqT, eqF, gI_e, gI_n, gI_sA, gI_sL, gI_sB, gL_e, gL_n, gL_sI, gL_sA, gL_sB, gA_e, gA_n, gA_sI, gA_sL, gA_sB, gB_e, gB_n, gB_sI, gB_sL, gB_sA, up_e, up_n, uL_e, uL_n, isIn_t, isIn_f, isTmM_t, isTmM_f, isRow_t, isRow_f, isVal_t, isVal_f, isVar_t, isVar_f, isTmC_t, isTmC_f]
              rw [show f_X4_addStep (iv 1) (iv a) (iv b) (iv c) (iv d) SC = some (iv (-2), SC) from e_full (k := 1) w1 w2 (by omega) (by omega)]
              rfl
            · unfold f_X5_set
              simp (disch := omega) only [nxt_e, bnd_s, chk_T, chk_nF, ↓reduceIte, i_0, i_1, i_2, i_3, i_4, i_5, i_6, i_8, i_9, i_10, i_15, i_19, i_20, i_30, i_31, i_40, i_60, i_100, i_200, i_1000, i_20000, iv_neg, iv_add, iv_sub, iv_mul, iv_lt, iv_le, iv_eq, iv_cl, iv_in, ltT, ltF, leT, leF, eqT, eqF, gI_e, gI_n, gI_sA, gI_sL, gI_sB, gL_e, gL_n, gL_sI, gL_sA, gL_sB, gA_e, gA_n, gA_sI, gA_sL, gA_sB, gB_e, gB_n, gB_sI, gB_sL, gB_sA, up_e, up_n, uL_e, uL_n, isIn_t, isIn_f, isTmM_t, isTmM_f, isRow_t, isRow_f, isVal_t, isVal_f, isVar_t, isVar_f, isTmC_t, isTmC_f, m1]
          · obtain ⟨x, rfl⟩ := Int.eq_ofNat_of_zero_le h1.1
            obtain ⟨r, rfl⟩ := Int.eq_ofNat_of_zero_le h2.1
            obtain ⟨t, rfl, ht⟩ := tm_of h3
            obtain ⟨u, rfl, hu⟩ := tm_of h4
            obtain ⟨SC', e1, e2, e3, e4⟩ := addC (k := 1) (g := x) (e := r) (a := t) (b := u) w1 w2 (by omega) (by omega) (by omega) (by omega)
            obtain ⟨SM', f1, f2, f3⟩ := addM (P := Z.1) (k := 1) (g := x) (e := r) (a := t) (b := u) (S := sI SM 0 (iv 0)) (by omega) (by rw [gI_n (by decide)]; exact m1) (by rw [gI_n (by decide), cnt_up1, m2]; rfl) (by rw [gI_n (by decide), cnt_up1, m3]; rfl) m4 m5 m6 m7 m8 m9 m10
            refine ⟨iv (pN Z.1), SC', SM', (pAdd Z.1 1 x r t u, 0, Z.2.2), ?_, ?_, Inv_end (Wf_add w1 (by omega) (by omega) ht hu (by omega) (by omega) (by omega) (by omega) (by omega) (by omega)) e2 f2 e3 e4 f3⟩
            · unfold f_X4_set
              simp (disch := omega) only [nxt_e, bnd_s, chk_T, chk_nF, ↓reduceIte, i_0, i_1, i_2, i_3, i_4, i_5, i_6, i_8, i_9, i_10, i_15, i_19, i_20, i_30, i_31, i_40, i_60, i_100, i_200, i_1000, i_20000, iv_neg, iv_add, iv_sub, iv_mul, iv_lt, iv_le, iv_eq, iv_cl, iv_in, ltT, ltF, leT, leF, eqT, eqF, gI_e, gI_n, gI_sA, gI_sL, gI_sB, gL_e, gL_n, gL_sI, gL_sA, gL_sB, gA_e, gA_n, gA_sI, gA_sL, gA_sB, gB_e, gB_n, gB_sI, gB_sL, gB_sA, up_e, up_n, uL_e, uL_n, isIn_t, isIn_f, isTmM_t, isTmM_f, isRow_t, isRow_f, isVal_t, isVal_f, isVar_t, isVar_f, isTmC_t, isTmC_f]
              rw [show f_X4_addStep (iv 1) (iv x) (iv r) (iv t) (iv u) SC = _ from e1]
              rfl
            · unfold f_X5_set
              simp (disch := omega) only [nxt_e, bnd_s, chk_T, chk_nF, ↓reduceIte, i_0, i_1, i_2, i_3, i_4, i_5, i_6, i_8, i_9, i_10, i_15, i_19, i_20, i_30, i_31, i_40, i_60, i_100, i_200, i_1000, i_20000, iv_neg, iv_add, iv_sub, iv_mul, iv_lt, iv_le, iv_eq, iv_cl, iv_in, ltT, ltF, leT, leF, eqT, eqF, gI_e, gI_n, gI_sA, gI_sL, gI_sB, gL_e, gL_n, gL_sI, gL_sA, gL_sB, gA_e, gA_n, gA_sI, gA_sL, gA_sB, gB_e, gB_n, gB_sI, gB_sL, gB_sA, up_e, up_n, uL_e, uL_n, isIn_t, isIn_f, isTmM_t, isTmM_f, isRow_t, isRow_f, isVal_t, isVal_f, isVar_t, isVar_f, isTmC_t, isTmC_f, m1]
              rw [show f_X5_added (iv 1) (iv x) (iv r) (iv t) (iv u) _ = _ from f1]
              rfl
        · refine ⟨iv (-1), SC, sI SM 0 (iv 0), Z, ?_, ?_, Inv_thr _ hI⟩
          · unfold f_X4_set
            simp (disch := omega) only [nxt_e, bnd_s, chk_T, chk_nF, ↓reduceIte, i_0, i_1, i_2, i_3, i_4, i_5, i_6, i_8, i_9, i_10, i_15, i_19, i_20, i_30, i_31, i_40, i_60, i_100, i_200, i_1000, i_20000, iv_neg, iv_add, iv_sub, iv_mul, iv_lt, iv_le, iv_eq, iv_cl, iv_in, ltT, ltF, leT, leF, eqT, eqF, gI_e, gI_n, gI_sA, gI_sL, gI_sB, gL_e, gL_n, gL_sI, gL_sA, gL_sB, gA_e, gA_n, gA_sI, gA_sL, gA_sB, gB_e, gB_n, gB_sI, gB_sL, gB_sA, up_e, up_n, uL_e, uL_n, isIn_t, isIn_f, isTmM_t, isTmM_f, isRow_t, isRow_f, isVal_t, isVal_f, isVar_t, isVar_f, isTmC_t, isTmC_f]
          · unfold f_X5_set
            simp (disch := omega) only [nxt_e, bnd_s, chk_T, chk_nF, ↓reduceIte, i_0, i_1, i_2, i_3, i_4, i_5, i_6, i_8, i_9, i_10, i_15, i_19, i_20, i_30, i_31, i_40, i_60, i_100, i_200, i_1000, i_20000, iv_neg, iv_add, iv_sub, iv_mul, iv_lt, iv_le, iv_eq, iv_cl, iv_in, ltT, ltF, leT, leF, eqT, eqF, gI_e, gI_n, gI_sA, gI_sL, gI_sB, gL_e, gL_n, gL_sI, gL_sA, gL_sB, gA_e, gA_n, gA_sI, gA_sL, gA_sB, gB_e, gB_n, gB_sI, gB_sL, gB_sA, up_e, up_n, uL_e, uL_n, isIn_t, isIn_f, isTmM_t, isTmM_f, isRow_t, isRow_f, isVal_t, isVal_f, isVar_t, isVar_f, isTmC_t, isTmC_f]
      · refine ⟨iv (-1), SC, sI SM 0 (iv 0), Z, ?_, ?_, Inv_thr _ hI⟩
        · unfold f_X4_set
          simp (disch := omega) only [nxt_e, bnd_s, chk_T, chk_nF, ↓reduceIte, i_0, i_1, i_2, i_3, i_4, i_5, i_6, i_8, i_9, i_10, i_15, i_19, i_20, i_30, i_31, i_40, i_60, i_100, i_200, i_1000, i_20000, iv_neg, iv_add, iv_sub, iv_mul, iv_lt, iv_le, iv_eq, iv_cl, iv_in, ltT, ltF, leT, leF, eqT, eqF, gI_e, gI_n, gI_sA, gI_sL, gI_sB, gL_e, gL_n, gL_sI, gL_sA, gL_sB, gA_e, gA_n, gA_sI, gA_sL, gA_sB, gB_e, gB_n, gB_sI, gB_sL, gB_sA, up_e, up_n, uL_e, uL_n, isIn_t, isIn_f, isTmM_t, isTmM_f, isRow_t, isRow_f, isVal_t, isVal_f, isVar_t, isVar_f, isTmC_t, isTmC_f]
        · unfold f_X5_set
          simp (disch := omega) only [nxt_e, bnd_s, chk_T, chk_nF, ↓reduceIte, i_0, i_1, i_2, i_3, i_4, i_5, i_6, i_8, i_9, i_10, i_15, i_19, i_20, i_30, i_31, i_40, i_60, i_100, i_200, i_1000, i_20000, iv_neg, iv_add, iv_sub, iv_mul, iv_lt, iv_le, iv_eq, iv_cl, iv_in, ltT, ltF, leT, leF, eqT, eqF, gI_e, gI_n, gI_sA, gI_sL, gI_sB, gL_e, gL_n, gL_sI, gL_sA, gL_sB, gA_e, gA_n, gA_sI, gA_sL, gA_sB, gB_e, gB_n, gB_sI, gB_sL, gB_sA, up_e, up_n, uL_e, uL_n, isIn_t, isIn_f, isTmM_t, isTmM_f, isRow_t, isRow_f, isVal_t, isVal_f, isVar_t, isVar_f, isTmC_t, isTmC_f]
    · refine ⟨iv (-1), SC, sI SM 0 (iv 0), Z, ?_, ?_, Inv_thr _ hI⟩
      · unfold f_X4_set
        by_cases h7 : b < 0
        · simp (disch := omega) only [nxt_e, bnd_s, chk_T, chk_nF, ↓reduceIte, i_0, i_1, i_2, i_3, i_4, i_5, i_6, i_8, i_9, i_10, i_15, i_19, i_20, i_30, i_31, i_40, i_60, i_100, i_200, i_1000, i_20000, iv_neg, iv_add, iv_sub, iv_mul, iv_lt, iv_le, iv_eq, iv_cl, iv_in, ltT, ltF, leT, leF, eqT, eqF, gI_e, gI_n, gI_sA, gI_sL, gI_sB, gL_e, gL_n, gL_sI, gL_sA, gL_sB, gA_e, gA_n, gA_sI, gA_sL, gA_sB, gB_e, gB_n, gB_sI, gB_sL, gB_sA, up_e, up_n, uL_e, uL_n, isIn_t, isIn_f, isTmM_t, isTmM_f, isRow_t, isRow_f, isVal_t, isVal_f, isVar_t, isVar_f, isTmC_t, isTmC_f]
        · simp (disch := omega) only [nxt_e, bnd_s, chk_T, chk_nF, ↓reduceIte, i_0, i_1, i_2, i_3, i_4, i_5, i_6, i_8, i_9, i_10, i_15, i_19, i_20, i_30, i_31, i_40, i_60, i_100, i_200, i_1000, i_20000, iv_neg, iv_add, iv_sub, iv_mul, iv_lt, iv_le, iv_eq, iv_cl, iv_in, ltT, ltF, leT, leF, eqT, eqF, gI_e, gI_n, gI_sA, gI_sL, gI_sB, gL_e, gL_n, gL_sI, gL_sA, gL_sB, gA_e, gA_n, gA_sI, gA_sL, gA_sB, gB_e, gB_n, gB_sI, gB_sL, gB_sA, up_e, up_n, uL_e, uL_n, isIn_t, isIn_f, isTmM_t, isTmM_f, isRow_t, isRow_f, isVal_t, isVal_f, isVar_t, isVar_f, isTmC_t, isTmC_f]
      · unfold f_X5_set
        simp (disch := omega) only [nxt_e, bnd_s, chk_T, chk_nF, ↓reduceIte, i_0, i_1, i_2, i_3, i_4, i_5, i_6, i_8, i_9, i_10, i_15, i_19, i_20, i_30, i_31, i_40, i_60, i_100, i_200, i_1000, i_20000, iv_neg, iv_add, iv_sub, iv_mul, iv_lt, iv_le, iv_eq, iv_cl, iv_in, ltT, ltF, leT, leF, eqT, eqF, gI_e, gI_n, gI_sA, gI_sL, gI_sB, gL_e, gL_n, gL_sI, gL_sA, gL_sB, gA_e, gA_n, gA_sI, gA_sL, gA_sB, gB_e, gB_n, gB_sI, gB_sL, gB_sA, up_e, up_n, uL_e, uL_n, isIn_t, isIn_f, isTmM_t, isTmM_f, isRow_t, isRow_f, isVal_t, isVal_f, isVar_t, isVar_f, isTmC_t, isTmC_f]
  · refine ⟨iv (-1), SC, sI SM 0 (iv 0), Z, ?_, ?_, Inv_thr _ hI⟩
    · unfold f_X4_set
      simp (disch := omega) only [nxt_e, bnd_s, chk_T, chk_nF, ↓reduceIte, i_0, i_1, i_2, i_3, i_4, i_5, i_6, i_8, i_9, i_10, i_15, i_19, i_20, i_30, i_31, i_40, i_60, i_100, i_200, i_1000, i_20000, iv_neg, iv_add, iv_sub, iv_mul, iv_lt, iv_le, iv_eq, iv_cl, iv_in, ltT, ltF, leT, leF, eqT, eqF, gI_e, gI_n, gI_sA, gI_sL, gI_sB, gL_e, gL_n, gL_sI, gL_sA, gL_sB, gA_e, gA_n, gA_sI, gA_sL, gA_sB, gB_e, gB_n, gB_sI, gB_sL, gB_sA, up_e, up_n, uL_e, uL_n, isIn_t, isIn_f, isTmM_t, isTmM_f, isRow_t, isRow_f, isVal_t, isVal_f, isVar_t, isVar_f, isTmC_t, isTmC_f]
    · unfold f_X5_set
      simp (disch := omega) only [nxt_e, bnd_s, chk_T, chk_nF, ↓reduceIte, i_0, i_1, i_2, i_3, i_4, i_5, i_6, i_8, i_9, i_10, i_15, i_19, i_20, i_30, i_31, i_40, i_60, i_100, i_200, i_1000, i_20000, iv_neg, iv_add, iv_sub, iv_mul, iv_lt, iv_le, iv_eq, iv_cl, iv_in, ltT, ltF, leT, leF, eqT, eqF, gI_e, gI_n, gI_sA, gI_sL, gI_sB, gL_e, gL_n, gL_sI, gL_sA, gL_sB, gA_e, gA_n, gA_sI, gA_sL, gA_sB, gB_e, gB_n, gB_sI, gB_sL, gB_sA, up_e, up_n, uL_e, uL_n, isIn_t, isIn_f, isTmM_t, isTmM_f, isRow_t, isRow_f, isVal_t, isVal_f, isVar_t, isVar_f, isTmC_t, isTmC_f]
theorem sm_observe (a b c : Int32) : Sm (f_X4_observe a b c) (f_X5_observe a b c) := by
  intro Z SC SM hI
  obtain ⟨a, rfl, ha1, ha2⟩ := iv_ex a
  obtain ⟨b, rfl, hb1, hb2⟩ := iv_ex b
  obtain ⟨c, rfl, hc1, hc2⟩ := iv_ex c
  by_cases h1 : (0 ≤ a ∧ a ≤ 5) ∨ (10 ≤ a ∧ a ≤ 19)
  · by_cases h2 : 0 ≤ b ∧ b ≤ 3
    · by_cases h3 : (0 ≤ c ∧ c ≤ 5) ∨ (10 ≤ c ∧ c ≤ 19)
      · have hI2 := hI
        obtain ⟨w1, w2, w3, w4, w5⟩ := hI
        obtain ⟨m1, m2, m3, m4, m5, m6, m7, m8, m9, m10⟩ := w3
        have q1 := w1.1
        by_cases h5 : pN Z.1 = 30
        · refine ⟨iv (-2), SC, sI SM 0 (iv 0), Z, ?_, ?_, Inv_thr _ hI2⟩
          · unfold f_X4_observe
            simp (disch := omega) only [nxt_e, bnd_s, chk_T, chk_nF, ↓reduceIte, i_0, i_1, i_2, i_3, i_4, i_5, i_6, i_8, i_9, i_10, i_15, i_19, i_20, i_30, i_31, i_40, i_60, i_100, i_200, i_1000, i_20000, iv_neg, iv_add, iv_sub, iv_mul, iv_lt, iv_le, iv_eq, iv_cl, iv_in, ltT, ltF, leT, leF, eqT, eqF, gI_e, gI_n, gI_sA, gI_sL, gI_sB, gL_e, gL_n, gL_sI, gL_sA, gL_sB, gA_e, gA_n, gA_sI, gA_sL, gA_sB, gB_e, gB_n, gB_sI, gB_sL, gB_sA, up_e, up_n, uL_e, uL_n, isIn_t, isIn_f, isTmM_t, isTmM_f, isRow_t, isRow_f, isVal_t, isVal_f, isVar_t, isVar_f, isTmC_t, isTmC_f]
            rw [show f_X4_addStep (iv 2) (iv 0) (iv b) (iv a) (iv c) SC = some (iv (-2), SC) from e_full (k := 2) w1 w2 (by omega) (by omega)]
            rfl
          · unfold f_X5_observe
            simp (disch := omega) only [nxt_e, bnd_s, chk_T, chk_nF, ↓reduceIte, i_0, i_1, i_2, i_3, i_4, i_5, i_6, i_8, i_9, i_10, i_15, i_19, i_20, i_30, i_31, i_40, i_60, i_100, i_200, i_1000, i_20000, iv_neg, iv_add, iv_sub, iv_mul, iv_lt, iv_le, iv_eq, iv_cl, iv_in, ltT, ltF, leT, leF, eqT, eqF, gI_e, gI_n, gI_sA, gI_sL, gI_sB, gL_e, gL_n, gL_sI, gL_sA, gL_sB, gA_e, gA_n, gA_sI, gA_sL, gA_sB, gB_e, gB_n, gB_sI, gB_sL, gB_sA, up_e, up_n, uL_e, uL_n, isIn_t, isIn_f, isTmM_t, isTmM_f, isRow_t, isRow_f, isVal_t, isVal_f, isVar_t, isVar_f, isTmC_t, isTmC_f, m1]
        · obtain ⟨r, rfl⟩ := Int.eq_ofNat_of_zero_le h2.1
          obtain ⟨t, rfl, ht⟩ := tm_of h1
          obtain ⟨u, rfl, hu⟩ := tm_of h3
          obtain ⟨SC', e1, e2, e3, e4⟩ := addC (k := 2) (g := 0) (e := r) (a := t) (b := u) w1 w2 (by omega) (by omega) (by omega) (by omega)
          obtain ⟨SM', f1, f2, f3⟩ := addM (P := Z.1) (k := 2) (g := 0) (e := r) (a := t) (b := u) (S := sI SM 0 (iv 0)) (by omega) (by rw [gI_n (by decide)]; exact m1) (by rw [gI_n (by decide), cnt_up1, m2]; rfl) (by rw [gI_n (by decide), cnt_up1, m3]; rfl) m4 m5 m6 m7 m8 m9 m10
          refine ⟨iv (pN Z.1), SC', SM', (pAdd Z.1 2 0 r t u, 0, Z.2.2), ?_, ?_, Inv_end (Wf_add w1 (by omega) (by omega) ht hu (by omega) (by omega) (by omega) (by omega) (by omega) (by omega)) e2 f2 e3 e4 f3⟩
          · unfold f_X4_observe
            simp (disch := omega) only [nxt_e, bnd_s, chk_T, chk_nF, ↓reduceIte, i_0, i_1, i_2, i_3, i_4, i_5, i_6, i_8, i_9, i_10, i_15, i_19, i_20, i_30, i_31, i_40, i_60, i_100, i_200, i_1000, i_20000, iv_neg, iv_add, iv_sub, iv_mul, iv_lt, iv_le, iv_eq, iv_cl, iv_in, ltT, ltF, leT, leF, eqT, eqF, gI_e, gI_n, gI_sA, gI_sL, gI_sB, gL_e, gL_n, gL_sI, gL_sA, gL_sB, gA_e, gA_n, gA_sI, gA_sL, gA_sB, gB_e, gB_n, gB_sI, gB_sL, gB_sA, up_e, up_n, uL_e, uL_n, isIn_t, isIn_f, isTmM_t, isTmM_f, isRow_t, isRow_f, isVal_t, isVal_f, isVar_t, isVar_f, isTmC_t, isTmC_f]
            rw [show f_X4_addStep (iv 2) (iv 0) (iv r) (iv t) (iv u) SC = _ from e1]
            rfl
          · unfold f_X5_observe
            simp (disch := omega) only [nxt_e, bnd_s, chk_T, chk_nF, ↓reduceIte, i_0, i_1, i_2, i_3, i_4, i_5, i_6, i_8, i_9, i_10, i_15, i_19, i_20, i_30, i_31, i_40, i_60, i_100, i_200, i_1000, i_20000, iv_neg, iv_add, iv_sub, iv_mul, iv_lt, iv_le, iv_eq, iv_cl, iv_in, ltT, ltF, leT, leF, eqT, eqF, gI_e, gI_n, gI_sA, gI_sL, gI_sB, gL_e, gL_n, gL_sI, gL_sA, gL_sB, gA_e, gA_n, gA_sI, gA_sL, gA_sB, gB_e, gB_n, gB_sI, gB_sL, gB_sA, up_e, up_n, uL_e, uL_n, isIn_t, isIn_f, isTmM_t, isTmM_f, isRow_t, isRow_f, isVal_t, isVal_f, isVar_t, isVar_f, isTmC_t, isTmC_f, m1]
            rw [show f_X5_added (iv 2) (iv 0) (iv r) (iv t) (iv u) _ = _ from f1]
            rfl
      · refine ⟨iv (-1), SC, sI SM 0 (iv 0), Z, ?_, ?_, Inv_thr _ hI⟩
        · unfold f_X4_observe
          simp (disch := omega) only [nxt_e, bnd_s, chk_T, chk_nF, ↓reduceIte, i_0, i_1, i_2, i_3, i_4, i_5, i_6, i_8, i_9, i_10, i_15, i_19, i_20, i_30, i_31, i_40, i_60, i_100, i_200, i_1000, i_20000, iv_neg, iv_add, iv_sub, iv_mul, iv_lt, iv_le, iv_eq, iv_cl, iv_in, ltT, ltF, leT, leF, eqT, eqF, gI_e, gI_n, gI_sA, gI_sL, gI_sB, gL_e, gL_n, gL_sI, gL_sA, gL_sB, gA_e, gA_n, gA_sI, gA_sL, gA_sB, gB_e, gB_n, gB_sI, gB_sL, gB_sA, up_e, up_n, uL_e, uL_n, isIn_t, isIn_f, isTmM_t, isTmM_f, isRow_t, isRow_f, isVal_t, isVal_f, isVar_t, isVar_f, isTmC_t, isTmC_f]
        · unfold f_X5_observe
          simp (disch := omega) only [nxt_e, bnd_s, chk_T, chk_nF, ↓reduceIte, i_0, i_1, i_2, i_3, i_4, i_5, i_6, i_8, i_9, i_10, i_15, i_19, i_20, i_30, i_31, i_40, i_60, i_100, i_200, i_1000, i_20000, iv_neg, iv_add, iv_sub, iv_mul, iv_lt, iv_le, iv_eq, iv_cl, iv_in, ltT, ltF, leT, leF, eqT, eqF, gI_e, gI_n, gI_sA, gI_sL, gI_sB, gL_e, gL_n, gL_sI, gL_sA, gL_sB, gA_e, gA_n, gA_sI, gA_sL, gA_sB, gB_e, gB_n, gB_sI, gB_sL, gB_sA, up_e, up_n, uL_e, uL_n, isIn_t, isIn_f, isTmM_t, isTmM_f, isRow_t, isRow_f, isVal_t, isVal_f, isVar_t, isVar_f, isTmC_t, isTmC_f]
    · refine ⟨iv (-1), SC, sI SM 0 (iv 0), Z, ?_, ?_, Inv_thr _ hI⟩
      · unfold f_X4_observe
        by_cases h7 : b < 0
        · simp (disch := omega) only [nxt_e, bnd_s, chk_T, chk_nF, ↓reduceIte, i_0, i_1, i_2, i_3, i_4, i_5, i_6, i_8, i_9, i_10, i_15, i_19, i_20, i_30, i_31, i_40, i_60, i_100, i_200, i_1000, i_20000, iv_neg, iv_add, iv_sub, iv_mul, iv_lt, iv_le, iv_eq, iv_cl, iv_in, ltT, ltF, leT, leF, eqT, eqF, gI_e, gI_n, gI_sA, gI_sL, gI_sB, gL_e, gL_n, gL_sI, gL_sA, gL_sB, gA_e, gA_n, gA_sI, gA_sL, gA_sB, gB_e, gB_n, gB_sI, gB_sL, gB_sA, up_e, up_n, uL_e, uL_n, isIn_t, isIn_f, isTmM_t, isTmM_f, isRow_t, isRow_f, isVal_t, isVal_f, isVar_t, isVar_f, isTmC_t, isTmC_f]
        · simp (disch := omega) only [nxt_e, bnd_s, chk_T, chk_nF, ↓reduceIte, i_0, i_1, i_2, i_3, i_4, i_5, i_6, i_8, i_9, i_10, i_15, i_19, i_20, i_30, i_31, i_40, i_60, i_100, i_200, i_1000, i_20000, iv_neg, iv_add, iv_sub, iv_mul, iv_lt, iv_le, iv_eq, iv_cl, iv_in, ltT, ltF, leT, leF, eqT, eqF, gI_e, gI_n, gI_sA, gI_sL, gI_sB, gL_e, gL_n, gL_sI, gL_sA, gL_sB, gA_e, gA_n, gA_sI, gA_sL, gA_sB, gB_e, gB_n, gB_sI, gB_sL, gB_sA, up_e, up_n, uL_e, uL_n, isIn_t, isIn_f, isTmM_t, isTmM_f, isRow_t, isRow_f, isVal_t, isVal_f, isVar_t, isVar_f, isTmC_t, isTmC_f]
      · unfold f_X5_observe
        simp (disch := omega) only [nxt_e, bnd_s, chk_T, chk_nF, ↓reduceIte, i_0, i_1, i_2, i_3, i_4, i_5, i_6, i_8, i_9, i_10, i_15, i_19, i_20, i_30, i_31, i_40, i_60, i_100, i_200, i_1000, i_20000, iv_neg, iv_add, iv_sub, iv_mul, iv_lt, iv_le, iv_eq, iv_cl, iv_in, ltT, ltF, leT, leF, eqT, eqF, gI_e, gI_n, gI_sA, gI_sL, gI_sB, gL_e, gL_n, gL_sI, gL_sA, gL_sB, gA_e, gA_n, gA_sI, gA_sL, gA_sB, gB_e, gB_n, gB_sI, gB_sL, gB_sA, up_e, up_n, uL_e, uL_n, isIn_t, isIn_f, isTmM_t, isTmM_f, isRow_t, isRow_f, isVal_t, isVal_f, isVar_t, isVar_f, isTmC_t, isTmC_f]
  · refine ⟨iv (-1), SC, sI SM 0 (iv 0), Z, ?_, ?_, Inv_thr _ hI⟩
    · unfold f_X4_observe
      simp (disch := omega) only [nxt_e, bnd_s, chk_T, chk_nF, ↓reduceIte, i_0, i_1, i_2, i_3, i_4, i_5, i_6, i_8, i_9, i_10, i_15, i_19, i_20, i_30, i_31, i_40, i_60, i_100, i_200, i_1000, i_20000, iv_neg, iv_add, iv_sub, iv_mul, iv_lt, iv_le, iv_eq, iv_cl, iv_in, ltT, ltF, leT, leF, eqT, eqF, gI_e, gI_n, gI_sA, gI_sL, gI_sB, gL_e, gL_n, gL_sI, gL_sA, gL_sB, gA_e, gA_n, gA_sI, gA_sL, gA_sB, gB_e, gB_n, gB_sI, gB_sL, gB_sA, up_e, up_n, uL_e, uL_n, isIn_t, isIn_f, isTmM_t, isTmM_f, isRow_t, isRow_f, isVal_t, isVal_f, isVar_t, isVar_f, isTmC_t, isTmC_f]
    · unfold f_X5_observe
      simp (disch := omega) only [nxt_e, bnd_s, chk_T, chk_nF, ↓reduceIte, i_0, i_1, i_2, i_3, i_4, i_5, i_6, i_8, i_9, i_10, i_15, i_19, i_20, i_30, i_31, i_40, i_60, i_100, i_200, i_1000, i_20000, iv_neg, iv_add, iv_sub, iv_mul, iv_lt, iv_le, iv_eq, iv_cl, iv_in, ltT, ltF, leT, leF, eqT, eqF, gI_e, gI_n, gI_sA, gI_sL, gI_sB, gL_e, gL_n, gL_sI, gL_sA, gL_sB, gA_e, gA_n, gA_sI, gA_sL, gA_sB, gB_e, gB_n, gB_sI, gB_sL, gB_sA, up_e, up_n, uL_e, uL_n, isIn_t, isIn_f, isTmM_t, isTmM_f, isRow_t, isRow_f, isVal_t, isVal_f, isVar_t, isVar_f, isTmC_t, isTmC_f]
theorem sm_weigh (a : Int32) : Sm (f_X4_weigh a) (f_X5_weigh a) := by
  intro Z SC SM hI
  obtain ⟨a, rfl, ha1, ha2⟩ := iv_ex a
  by_cases h1 : (0 ≤ a ∧ a ≤ 5) ∨ (10 ≤ a ∧ a ≤ 19)
  · have hI2 := hI
    obtain ⟨w1, w2, w3, w4, w5⟩ := hI
    obtain ⟨m1, m2, m3, m4, m5, m6, m7, m8, m9, m10⟩ := w3
    have q1 := w1.1
    have q7 := w1.2.2.2.2.2.2.1
    by_cases h3 : pN Z.1 = 30 ∨ cnt (pK Z.1) 3 (pN Z.1) = 3
    · refine ⟨iv (-2), SC, sI SM 0 (iv 0), Z, ?_, ?_, Inv_thr _ hI2⟩
      · unfold f_X4_weigh
        simp (disch := omega) only [nxt_e, bnd_s, chk_T, chk_nF, ↓reduceIte, i_0, i_1, i_2, i_3, i_4, i_5, i_6, i_8, i_9, i_10, i_15, i_19, i_20, i_30, i_31, i_40, i_60, i_100, i_200, i_1000, i_20000, iv_neg, iv_add, iv_sub, iv_mul, iv_lt, iv_le, iv_eq, iv_cl, iv_in, ltT, ltF, leT, leF, eqT, eqF, gI_e, gI_n, gI_sA, gI_sL, gI_sB, gL_e, gL_n, gL_sI, gL_sA, gL_sB, gA_e, gA_n, gA_sI, gA_sL, gA_sB, gB_e, gB_n, gB_sI, gB_sL, gB_sA, up_e, up_n, uL_e, uL_n, isIn_t, isIn_f, isTmM_t, isTmM_f, isRow_t, isRow_f, isVal_t, isVal_f, isVar_t, isVar_f, isTmC_t, isTmC_f]
        rw [show f_X4_addStep (iv 3) (iv 0) (iv 0) (iv a) (iv 10) SC = some (iv (-2), SC) from e_full (k := 3) w1 w2 (by omega) (by omega)]
        rfl
      · unfold f_X5_weigh
        by_cases h4 : pN Z.1 = 30
        · simp (disch := omega) only [nxt_e, bnd_s, chk_T, chk_nF, ↓reduceIte, i_0, i_1, i_2, i_3, i_4, i_5, i_6, i_8, i_9, i_10, i_15, i_19, i_20, i_30, i_31, i_40, i_60, i_100, i_200, i_1000, i_20000, iv_neg, iv_add, iv_sub, iv_mul, iv_lt, iv_le, iv_eq, iv_cl, iv_in, ltT, ltF, leT, leF, eqT, eqF, gI_e, gI_n, gI_sA, gI_sL, gI_sB, gL_e, gL_n, gL_sI, gL_sA, gL_sB, gA_e, gA_n, gA_sI, gA_sL, gA_sB, gB_e, gB_n, gB_sI, gB_sL, gB_sA, up_e, up_n, uL_e, uL_n, isIn_t, isIn_f, isTmM_t, isTmM_f, isRow_t, isRow_f, isVal_t, isVal_f, isVar_t, isVar_f, isTmC_t, isTmC_f, m1, m3]
        · simp (disch := omega) only [nxt_e, bnd_s, chk_T, chk_nF, ↓reduceIte, i_0, i_1, i_2, i_3, i_4, i_5, i_6, i_8, i_9, i_10, i_15, i_19, i_20, i_30, i_31, i_40, i_60, i_100, i_200, i_1000, i_20000, iv_neg, iv_add, iv_sub, iv_mul, iv_lt, iv_le, iv_eq, iv_cl, iv_in, ltT, ltF, leT, leF, eqT, eqF, gI_e, gI_n, gI_sA, gI_sL, gI_sB, gL_e, gL_n, gL_sI, gL_sA, gL_sB, gA_e, gA_n, gA_sI, gA_sL, gA_sB, gB_e, gB_n, gB_sI, gB_sL, gB_sA, up_e, up_n, uL_e, uL_n, isIn_t, isIn_f, isTmM_t, isTmM_f, isRow_t, isRow_f, isVal_t, isVal_f, isVar_t, isVar_f, isTmC_t, isTmC_f, m1, m3]
    · obtain ⟨t, rfl, ht⟩ := tm_of h1
      obtain ⟨SC', e1, e2, e3, e4⟩ := addC (k := 3) (g := 0) (e := 0) (a := t) (b := 10) w1 w2 (by omega) (by omega) (by omega) (by omega)
      obtain ⟨SM', f1, f2, f3⟩ := addM (P := Z.1) (k := 3) (g := 0) (e := 0) (a := t) (b := 10) (S := sI (sI SM 0 (iv 0)) 3 (iv ((cnt (pK Z.1) 3 (pN Z.1) : Nat) + 1))) (by omega) (by rw [gI_n (by decide), gI_n (by decide)]; exact m1) (by rw [gI_n (by decide), gI_n (by decide), cnt_up1, m2]; rfl) (by rw [gI_e, cnt_up1]; rfl) m4 m5 m6 m7 m8 m9 m10
      refine ⟨iv (pN Z.1), SC', SM', (pAdd Z.1 3 0 0 t 10, 0, Z.2.2), ?_, ?_, Inv_end (Wf_add w1 (by omega) (by omega) ht (by unfold isTm; omega) (by omega) (by omega) (by omega) (by omega) (by omega) (by omega)) e2 f2 e3 e4 f3⟩
      · unfold f_X4_weigh
        simp (disch := omega) only [nxt_e, bnd_s, chk_T, chk_nF, ↓reduceIte, i_0, i_1, i_2, i_3, i_4, i_5, i_6, i_8, i_9, i_10, i_15, i_19, i_20, i_30, i_31, i_40, i_60, i_100, i_200, i_1000, i_20000, iv_neg, iv_add, iv_sub, iv_mul, iv_lt, iv_le, iv_eq, iv_cl, iv_in, ltT, ltF, leT, leF, eqT, eqF, gI_e, gI_n, gI_sA, gI_sL, gI_sB, gL_e, gL_n, gL_sI, gL_sA, gL_sB, gA_e, gA_n, gA_sI, gA_sL, gA_sB, gB_e, gB_n, gB_sI, gB_sL, gB_sA, up_e, up_n, uL_e, uL_n, isIn_t, isIn_f, isTmM_t, isTmM_f, isRow_t, isRow_f, isVal_t, isVal_f, isVar_t, isVar_f, isTmC_t, isTmC_f]
        rw [show f_X4_addStep (iv 3) (iv 0) (iv 0) (iv t) (iv 10) SC = _ from e1]
        rfl
      · unfold f_X5_weigh
        simp (disch := omega) only [nxt_e, bnd_s, chk_T, chk_nF, ↓reduceIte, i_0, i_1, i_2, i_3, i_4, i_5, i_6, i_8, i_9, i_10, i_15, i_19, i_20, i_30, i_31, i_40, i_60, i_100, i_200, i_1000, i_20000, iv_neg, iv_add, iv_sub, iv_mul, iv_lt, iv_le, iv_eq, iv_cl, iv_in, ltT, ltF, leT, leF, eqT, eqF, gI_e, gI_n, gI_sA, gI_sL, gI_sB, gL_e, gL_n, gL_sI, gL_sA, gL_sB, gA_e, gA_n, gA_sI, gA_sL, gA_sB, gB_e, gB_n, gB_sI, gB_sL, gB_sA, up_e, up_n, uL_e, uL_n, isIn_t, isIn_f, isTmM_t, isTmM_f, isRow_t, isRow_f, isVal_t, isVal_f, isVar_t, isVar_f, isTmC_t, isTmC_f, m1, m3]
        rw [show f_X5_added (iv 3) (iv 0) (iv 0) (iv t) (iv 10) _ = _ from f1]
        rfl
  · refine ⟨iv (-1), SC, sI SM 0 (iv 0), Z, ?_, ?_, Inv_thr _ hI⟩
    · unfold f_X4_weigh
      simp (disch := omega) only [nxt_e, bnd_s, chk_T, chk_nF, ↓reduceIte, i_0, i_1, i_2, i_3, i_4, i_5, i_6, i_8, i_9, i_10, i_15, i_19, i_20, i_30, i_31, i_40, i_60, i_100, i_200, i_1000, i_20000, iv_neg, iv_add, iv_sub, iv_mul, iv_lt, iv_le, iv_eq, iv_cl, iv_in, ltT, ltF, leT, leF, eqT, eqF, gI_e, gI_n, gI_sA, gI_sL, gI_sB, gL_e, gL_n, gL_sI, gL_sA, gL_sB, gA_e, gA_n, gA_sI, gA_sL, gA_sB, gB_e, gB_n, gB_sI, gB_sL, gB_sA, up_e, up_n, uL_e, uL_n, isIn_t, isIn_f, isTmM_t, isTmM_f, isRow_t, isRow_f, isVal_t, isVal_f, isVar_t, isVar_f, isTmC_t, isTmC_f]
    · unfold f_X5_weigh
      simp (disch := omega) only [nxt_e, bnd_s, chk_T, chk_nF, ↓reduceIte, i_0, i_1, i_2, i_3, i_4, i_5, i_6, i_8, i_9, i_10, i_15, i_19, i_20, i_30, i_31, i_40, i_60, i_100, i_200, i_1000, i_20000, iv_neg, iv_add, iv_sub, iv_mul, iv_lt, iv_le, iv_eq, iv_cl, iv_in, ltT, ltF, leT, leF, eqT, eqF, gI_e, gI_n, gI_sA, gI_sL, gI_sB, gL_e, gL_n, gL_sI, gL_sA, gL_sB, gA_e, gA_n, gA_sI, gA_sL, gA_sB, gB_e, gB_n, gB_sI, gB_sL, gB_sA, up_e, up_n, uL_e, uL_n, isIn_t, isIn_f, isTmM_t, isTmM_f, isRow_t, isRow_f, isVal_t, isVal_f, isVar_t, isVar_f, isTmC_t, isTmC_f]
theorem sm_skip (a b : Int32) : Sm (f_X4_skip a b) (f_X5_skip a b) := by
  intro Z SC SM hI
  obtain ⟨a, rfl, ha1, ha2⟩ := iv_ex a
  obtain ⟨b, rfl, hb1, hb2⟩ := iv_ex b
  by_cases h1 : (0 ≤ a ∧ a ≤ 5) ∨ (10 ≤ a ∧ a ≤ 19)
  · by_cases h2 : 1 ≤ b ∧ b ≤ 9
    · have hI2 := hI
      obtain ⟨w1, w2, w3, w4, w5⟩ := hI
      obtain ⟨m1, m2, m3, m4, m5, m6, m7, m8, m9, m10⟩ := w3
      have q1 := w1.1
      by_cases h5 : pN Z.1 = 30
      · refine ⟨iv (-2), SC, sI SM 0 (iv 0), Z, ?_, ?_, Inv_thr _ hI2⟩
        · unfold f_X4_skip
          simp (disch := omega) only [nxt_e, bnd_s, chk_T, chk_nF, ↓reduceIte, i_0, i_1, i_2, i_3, i_4, i_5, i_6, i_8, i_9, i_10, i_15, i_19, i_20, i_30, i_31, i_40, i_60, i_100, i_200, i_1000, i_20000, iv_neg, iv_add, iv_sub, iv_mul, iv_lt, iv_le, iv_eq, iv_cl, iv_in, ltT, ltF, leT, leF, eqT, eqF, gI_e, gI_n, gI_sA, gI_sL, gI_sB, gL_e, gL_n, gL_sI, gL_sA, gL_sB, gA_e, gA_n, gA_sI, gA_sL, gA_sB, gB_e, gB_n, gB_sI, gB_sL, gB_sA, up_e, up_n, uL_e, uL_n, isIn_t, isIn_f, isTmM_t, isTmM_f, isRow_t, isRow_f, isVal_t, isVal_f, isVar_t, isVar_f, isTmC_t, isTmC_f]
          rw [show f_X4_addStep (iv 4) (iv 0) (iv b) (iv a) (iv 10) SC = some (iv (-2), SC) from e_full (k := 4) w1 w2 (by omega) (by omega)]
          rfl
        · unfold f_X5_skip
          simp (disch := omega) only [nxt_e, bnd_s, chk_T, chk_nF, ↓reduceIte, i_0, i_1, i_2, i_3, i_4, i_5, i_6, i_8, i_9, i_10, i_15, i_19, i_20, i_30, i_31, i_40, i_60, i_100, i_200, i_1000, i_20000, iv_neg, iv_add, iv_sub, iv_mul, iv_lt, iv_le, iv_eq, iv_cl, iv_in, ltT, ltF, leT, leF, eqT, eqF, gI_e, gI_n, gI_sA, gI_sL, gI_sB, gL_e, gL_n, gL_sI, gL_sA, gL_sB, gA_e, gA_n, gA_sI, gA_sL, gA_sB, gB_e, gB_n, gB_sI, gB_sL, gB_sA, up_e, up_n, uL_e, uL_n, isIn_t, isIn_f, isTmM_t, isTmM_f, isRow_t, isRow_f, isVal_t, isVal_f, isVar_t, isVar_f, isTmC_t, isTmC_f, m1]
      · obtain ⟨r, rfl⟩ := Int.eq_ofNat_of_zero_le (show 0 ≤ b by omega)
        obtain ⟨t, rfl, ht⟩ := tm_of h1
        obtain ⟨SC', e1, e2, e3, e4⟩ := addC (k := 4) (g := 0) (e := r) (a := t) (b := 10) w1 w2 (by omega) (by omega) (by omega) (by omega)
        obtain ⟨SM', f1, f2, f3⟩ := addM (P := Z.1) (k := 4) (g := 0) (e := r) (a := t) (b := 10) (S := sI SM 0 (iv 0)) (by omega) (by rw [gI_n (by decide)]; exact m1) (by rw [gI_n (by decide), cnt_up1, m2]; rfl) (by rw [gI_n (by decide), cnt_up1, m3]; rfl) m4 m5 m6 m7 m8 m9 m10
        refine ⟨iv (pN Z.1), SC', SM', (pAdd Z.1 4 0 r t 10, 0, Z.2.2), ?_, ?_, Inv_end (Wf_add w1 (by omega) (by omega) ht (by unfold isTm; omega) (by omega) (by omega) (by omega) (by omega) (by omega) (by omega)) e2 f2 e3 e4 f3⟩
        · unfold f_X4_skip
          simp (disch := omega) only [nxt_e, bnd_s, chk_T, chk_nF, ↓reduceIte, i_0, i_1, i_2, i_3, i_4, i_5, i_6, i_8, i_9, i_10, i_15, i_19, i_20, i_30, i_31, i_40, i_60, i_100, i_200, i_1000, i_20000, iv_neg, iv_add, iv_sub, iv_mul, iv_lt, iv_le, iv_eq, iv_cl, iv_in, ltT, ltF, leT, leF, eqT, eqF, gI_e, gI_n, gI_sA, gI_sL, gI_sB, gL_e, gL_n, gL_sI, gL_sA, gL_sB, gA_e, gA_n, gA_sI, gA_sL, gA_sB, gB_e, gB_n, gB_sI, gB_sL, gB_sA, up_e, up_n, uL_e, uL_n, isIn_t, isIn_f, isTmM_t, isTmM_f, isRow_t, isRow_f, isVal_t, isVal_f, isVar_t, isVar_f, isTmC_t, isTmC_f]
          rw [show f_X4_addStep (iv 4) (iv 0) (iv r) (iv t) (iv 10) SC = _ from e1]
          rfl
        · unfold f_X5_skip
          simp (disch := omega) only [nxt_e, bnd_s, chk_T, chk_nF, ↓reduceIte, i_0, i_1, i_2, i_3, i_4, i_5, i_6, i_8, i_9, i_10, i_15, i_19, i_20, i_30, i_31, i_40, i_60, i_100, i_200, i_1000, i_20000, iv_neg, iv_add, iv_sub, iv_mul, iv_lt, iv_le, iv_eq, iv_cl, iv_in, ltT, ltF, leT, leF, eqT, eqF, gI_e, gI_n, gI_sA, gI_sL, gI_sB, gL_e, gL_n, gL_sI, gL_sA, gL_sB, gA_e, gA_n, gA_sI, gA_sL, gA_sB, gB_e, gB_n, gB_sI, gB_sL, gB_sA, up_e, up_n, uL_e, uL_n, isIn_t, isIn_f, isTmM_t, isTmM_f, isRow_t, isRow_f, isVal_t, isVal_f, isVar_t, isVar_f, isTmC_t, isTmC_f, m1]
          rw [show f_X5_added (iv 4) (iv 0) (iv r) (iv t) (iv 10) _ = _ from f1]
          rfl
    · refine ⟨iv (-1), SC, sI SM 0 (iv 0), Z, ?_, ?_, Inv_thr _ hI⟩
      · unfold f_X4_skip
        by_cases h7 : b < 1
        · simp (disch := omega) only [nxt_e, bnd_s, chk_T, chk_nF, ↓reduceIte, i_0, i_1, i_2, i_3, i_4, i_5, i_6, i_8, i_9, i_10, i_15, i_19, i_20, i_30, i_31, i_40, i_60, i_100, i_200, i_1000, i_20000, iv_neg, iv_add, iv_sub, iv_mul, iv_lt, iv_le, iv_eq, iv_cl, iv_in, ltT, ltF, leT, leF, eqT, eqF, gI_e, gI_n, gI_sA, gI_sL, gI_sB, gL_e, gL_n, gL_sI, gL_sA, gL_sB, gA_e, gA_n, gA_sI, gA_sL, gA_sB, gB_e, gB_n, gB_sI, gB_sL, gB_sA, up_e, up_n, uL_e, uL_n, isIn_t, isIn_f, isTmM_t, isTmM_f, isRow_t, isRow_f, isVal_t, isVal_f, isVar_t, isVar_f, isTmC_t, isTmC_f]
        · simp (disch := omega) only [nxt_e, bnd_s, chk_T, chk_nF, ↓reduceIte, i_0, i_1, i_2, i_3, i_4, i_5, i_6, i_8, i_9, i_10, i_15, i_19, i_20, i_30, i_31, i_40, i_60, i_100, i_200, i_1000, i_20000, iv_neg, iv_add, iv_sub, iv_mul, iv_lt, iv_le, iv_eq, iv_cl, iv_in, ltT, ltF, leT, leF, eqT, eqF, gI_e, gI_n, gI_sA, gI_sL, gI_sB, gL_e, gL_n, gL_sI, gL_sA, gL_sB, gA_e, gA_n, gA_sI, gA_sL, gA_sB, gB_e, gB_n, gB_sI, gB_sL, gB_sA, up_e, up_n, uL_e, uL_n, isIn_t, isIn_f, isTmM_t, isTmM_f, isRow_t, isRow_f, isVal_t, isVal_f, isVar_t, isVar_f, isTmC_t, isTmC_f]
      · unfold f_X5_skip
        simp (disch := omega) only [nxt_e, bnd_s, chk_T, chk_nF, ↓reduceIte, i_0, i_1, i_2, i_3, i_4, i_5, i_6, i_8, i_9, i_10, i_15, i_19, i_20, i_30, i_31, i_40, i_60, i_100, i_200, i_1000, i_20000, iv_neg, iv_add, iv_sub, iv_mul, iv_lt, iv_le, iv_eq, iv_cl, iv_in, ltT, ltF, leT, leF, eqT, eqF, gI_e, gI_n, gI_sA, gI_sL, gI_sB, gL_e, gL_n, gL_sI, gL_sA, gL_sB, gA_e, gA_n, gA_sI, gA_sL, gA_sB, gB_e, gB_n, gB_sI, gB_sL, gB_sA, up_e, up_n, uL_e, uL_n, isIn_t, isIn_f, isTmM_t, isTmM_f, isRow_t, isRow_f, isVal_t, isVal_f, isVar_t, isVar_f, isTmC_t, isTmC_f]
  · refine ⟨iv (-1), SC, sI SM 0 (iv 0), Z, ?_, ?_, Inv_thr _ hI⟩
    · unfold f_X4_skip
      simp (disch := omega) only [nxt_e, bnd_s, chk_T, chk_nF, ↓reduceIte, i_0, i_1, i_2, i_3, i_4, i_5, i_6, i_8, i_9, i_10, i_15, i_19, i_20, i_30, i_31, i_40, i_60, i_100, i_200, i_1000, i_20000, iv_neg, iv_add, iv_sub, iv_mul, iv_lt, iv_le, iv_eq, iv_cl, iv_in, ltT, ltF, leT, leF, eqT, eqF, gI_e, gI_n, gI_sA, gI_sL, gI_sB, gL_e, gL_n, gL_sI, gL_sA, gL_sB, gA_e, gA_n, gA_sI, gA_sL, gA_sB, gB_e, gB_n, gB_sI, gB_sL, gB_sA, up_e, up_n, uL_e, uL_n, isIn_t, isIn_f, isTmM_t, isTmM_f, isRow_t, isRow_f, isVal_t, isVal_f, isVar_t, isVar_f, isTmC_t, isTmC_f]
    · unfold f_X5_skip
      simp (disch := omega) only [nxt_e, bnd_s, chk_T, chk_nF, ↓reduceIte, i_0, i_1, i_2, i_3, i_4, i_5, i_6, i_8, i_9, i_10, i_15, i_19, i_20, i_30, i_31, i_40, i_60, i_100, i_200, i_1000, i_20000, iv_neg, iv_add, iv_sub, iv_mul, iv_lt, iv_le, iv_eq, iv_cl, iv_in, ltT, ltF, leT, leF, eqT, eqF, gI_e, gI_n, gI_sA, gI_sL, gI_sB, gL_e, gL_n, gL_sI, gL_sA, gL_sB, gA_e, gA_n, gA_sI, gA_sL, gA_sB, gB_e, gB_n, gB_sI, gB_sL, gB_sA, up_e, up_n, uL_e, uL_n, isIn_t, isIn_f, isTmM_t, isTmM_f, isRow_t, isRow_f, isVal_t, isVal_f, isVar_t, isVar_f, isTmC_t, isTmC_f]
def pDrop (P : Pr) : Pr := (pN P - 1, P.2)
theorem sm_drop : Sm f_X4_drop f_X5_drop := by
  intro Z SC SM hI
  have hI2 := hI
  obtain ⟨w1, w2, w3, w4, w5⟩ := hI
  obtain ⟨m1, m2, m3, m4, m5, m6, m7, m8, m9, m10⟩ := w3
  obtain ⟨c1, c2, c3, c4, c5, c6, c7, c8, c9, c10⟩ := w2
  obtain ⟨q1, q2, q3, q4, q5, q6, q7, q8⟩ := w1
  by_cases h1 : pN Z.1 = 0
  · refine ⟨iv (-3), SC, sI SM 0 (iv 0), Z, ?_, ?_, Inv_thr _ hI2⟩
    · unfold f_X4_drop
      simp (disch := omega) only [nxt_e, bnd_s, chk_T, chk_nF, ↓reduceIte, i_0, i_1, i_2, i_3, i_4, i_5, i_6, i_8, i_9, i_10, i_15, i_19, i_20, i_30, i_31, i_40, i_60, i_100, i_200, i_1000, i_20000, iv_neg, iv_add, iv_sub, iv_mul, iv_lt, iv_le, iv_eq, iv_cl, iv_in, ltT, ltF, leT, leF, eqT, eqF, gI_e, gI_n, gI_sA, gI_sL, gI_sB, gL_e, gL_n, gL_sI, gL_sA, gL_sB, gA_e, gA_n, gA_sI, gA_sL, gA_sB, gB_e, gB_n, gB_sI, gB_sL, gB_sA, up_e, up_n, uL_e, uL_n, isIn_t, isIn_f, isTmM_t, isTmM_f, isRow_t, isRow_f, isVal_t, isVal_f, isVar_t, isVar_f, isTmC_t, isTmC_f, c1]
    · unfold f_X5_drop
      simp (disch := omega) only [nxt_e, bnd_s, chk_T, chk_nF, ↓reduceIte, i_0, i_1, i_2, i_3, i_4, i_5, i_6, i_8, i_9, i_10, i_15, i_19, i_20, i_30, i_31, i_40, i_60, i_100, i_200, i_1000, i_20000, iv_neg, iv_add, iv_sub, iv_mul, iv_lt, iv_le, iv_eq, iv_cl, iv_in, ltT, ltF, leT, leF, eqT, eqF, gI_e, gI_n, gI_sA, gI_sL, gI_sB, gL_e, gL_n, gL_sI, gL_sA, gL_sB, gA_e, gA_n, gA_sI, gA_sL, gA_sB, gB_e, gB_n, gB_sI, gB_sL, gB_sA, up_e, up_n, uL_e, uL_n, isIn_t, isIn_f, isTmM_t, isTmM_f, isRow_t, isRow_f, isVal_t, isVal_f, isVar_t, isVar_f, isTmC_t, isTmC_f, m1]
  · obtain ⟨n, hn⟩ : ∃ n, pN Z.1 = n + 1 := ⟨pN Z.1 - 1, by omega⟩
    have k0 : cnt (pK Z.1) 0 (n + 1) = cnt (pK Z.1) 0 n + if pK Z.1 n = 0 then 1 else 0 := rfl
    have k3 : cnt (pK Z.1) 3 (n + 1) = cnt (pK Z.1) 3 n + if pK Z.1 n = 3 then 1 else 0 := rfl
    have hk := (q2 n).1
    rw [hn] at c1 c2 c3 m1 m2 m3 q1 q6 q7
    have hw : Wf (pDrop Z.1) := by
      refine ⟨by show pN Z.1 - 1 ≤ 30; omega, fun k => ⟨(q2 k).1, (q2 k).2.1, (q2 k).2.2.1, (q2 k).2.2.2.1, fun h => (q2 k).2.2.2.2 (by have h : k < pN Z.1 - 1 := h; omega)⟩, q3, q4, q5, ?_, ?_, q8⟩
      · show cnt (pK Z.1) 0 (pN Z.1 - 1) ≤ 8
        rw [hn, Nat.add_sub_cancel]; omega
      · show cnt (pK Z.1) 3 (pN Z.1 - 1) ≤ 3
        rw [hn, Nat.add_sub_cancel]; omega
    have hpn : pN (pDrop Z.1) = n := by show pN Z.1 - 1 = n; omega
    have A : ∀ S' : St, gI S' 208 = iv n → gI S' 209 = iv (cnt (pK Z.1) 0 n) → gI S' 210 = iv (cnt (pK Z.1) 3 n) → gI S' 207 = gI SC 207 → (∀ k, gA S' k = gA SC k) → RC (pDrop Z.1) S' := by
      intro S' g1 g2 g3 g4 g5
      refine ⟨by rw [hpn]; exact g1, by rw [hpn]; exact g2, by rw [hpn]; exact g3, ?_, ?_, ?_, ?_, ?_, ?_, by rw [g4]; exact c10⟩
      all_goals first | (rw [g5]; assumption) | (intro r v hr hv; rw [g5]; exact c9 r v hr hv)
    have B : ∀ S' : St, gI S' 1 = iv n → gI S' 2 = iv (cnt (pK Z.1) 0 n) → gI S' 3 = iv (cnt (pK Z.1) 3 n) → (∀ k, gA S' k = gA SM k) → RM (pDrop Z.1) S' := by
      intro S' g1 g2 g3 g5
      refine ⟨by rw [hpn]; exact g1, by rw [hpn]; exact g2, by rw [hpn]; exact g3, ?_, ?_, ?_, ?_, ?_, ?_, ?_⟩
      all_goals first | (rw [g5]; assumption) | (intro r v hr hv; rw [g5]; exact m9 r v hr hv)
    have C : ∃ SC', f_X4_drop SC = some (iv n, SC') ∧ RC (pDrop Z.1) SC' ∧ gI SC' 108 = iv 0 ∧ gI SC' 304 = iv 0 := by
      unfold f_X4_drop f_X2_removeLast f_X2_isStep f_X2_countKind
      by_cases e0 : pK Z.1 n = 0
      · simp (disch := omega) only [nxt_e, bnd_s, chk_T, chk_nF, ↓reduceIte, i_0, i_1, i_2, i_3, i_4, i_5, i_6, i_8, i_9, i_10, i_15, i_19, i_20, i_30, i_31, i_40, i_60, i_100, i_200, i_1000, i_20000, iv_neg, iv_add, iv_sub, iv_mul, iv_lt, iv_le, iv_eq, iv_cl, iv_in, ltT, ltF, leT, leF, eqT, eqF, gI_e, gI_n, gI_sA, gI_sL, gI_sB, gL_e, gL_n, gL_sI, gL_sA, gL_sB, gA_e, gA_n, gA_sI, gA_sL, gA_sB, gB_e, gB_n, gB_sI, gB_sL, gB_sA, up_e, up_n, uL_e, uL_n, e_chg, c1, c4, show (((n + 1 : Nat) : Int) - 1) = n by omega, Int.toNat_natCast]
        refine ⟨_, rfl, A _ ?_ ?_ ?_ ?_ ?_, ?_, ?_⟩
        · simp (disch := omega) only [nxt_e, bnd_s, chk_T, chk_nF, ↓reduceIte, i_0, i_1, i_2, i_3, i_4, i_5, i_6, i_8, i_9, i_10, i_15, i_19, i_20, i_30, i_31, i_40, i_60, i_100, i_200, i_1000, i_20000, iv_neg, iv_add, iv_sub, iv_mul, iv_lt, iv_le, iv_eq, iv_cl, iv_in, ltT, ltF, leT, leF, eqT, eqF, gI_e, gI_n, gI_sA, gI_sL, gI_sB, gL_e, gL_n, gL_sI, gL_sA, gL_sB, gA_e, gA_n, gA_sI, gA_sL, gA_sB, gB_e, gB_n, gB_sI, gB_sL, gB_sA, up_e, up_n, uL_e, uL_n]
        · simp (disch := omega) only [nxt_e, bnd_s, chk_T, chk_nF, ↓reduceIte, i_0, i_1, i_2, i_3, i_4, i_5, i_6, i_8, i_9, i_10, i_15, i_19, i_20, i_30, i_31, i_40, i_60, i_100, i_200, i_1000, i_20000, iv_neg, iv_add, iv_sub, iv_mul, iv_lt, iv_le, iv_eq, iv_cl, iv_in, ltT, ltF, leT, leF, eqT, eqF, gI_e, gI_n, gI_sA, gI_sL, gI_sB, gL_e, gL_n, gL_sI, gL_sA, gL_sB, gA_e, gA_n, gA_sI, gA_sL, gA_sB, gB_e, gB_n, gB_sI, gB_sL, gB_sA, up_e, up_n, uL_e, uL_n, c2, k0, if_pos e0]
          try (congr 1 <;> omega)
        · simp (disch := omega) only [nxt_e, bnd_s, chk_T, chk_nF, ↓reduceIte, i_0, i_1, i_2, i_3, i_4, i_5, i_6, i_8, i_9, i_10, i_15, i_19, i_20, i_30, i_31, i_40, i_60, i_100, i_200, i_1000, i_20000, iv_neg, iv_add, iv_sub, iv_mul, iv_lt, iv_le, iv_eq, iv_cl, iv_in, ltT, ltF, leT, leF, eqT, eqF, gI_e, gI_n, gI_sA, gI_sL, gI_sB, gL_e, gL_n, gL_sI, gL_sA, gL_sB, gA_e, gA_n, gA_sI, gA_sL, gA_sB, gB_e, gB_n, gB_sI, gB_sL, gB_sA, up_e, up_n, uL_e, uL_n, c3, k3]
          congr 1
          split <;> omega
        · simp (disch := omega) only [nxt_e, bnd_s, chk_T, chk_nF, ↓reduceIte, i_0, i_1, i_2, i_3, i_4, i_5, i_6, i_8, i_9, i_10, i_15, i_19, i_20, i_30, i_31, i_40, i_60, i_100, i_200, i_1000, i_20000, iv_neg, iv_add, iv_sub, iv_mul, iv_lt, iv_le, iv_eq, iv_cl, iv_in, ltT, ltF, leT, leF, eqT, eqF, gI_e, gI_n, gI_sA, gI_sL, gI_sB, gL_e, gL_n, gL_sI, gL_sA, gL_sB, gA_e, gA_n, gA_sI, gA_sL, gA_sB, gB_e, gB_n, gB_sI, gB_sL, gB_sA, up_e, up_n, uL_e, uL_n]
        · intro k; rfl
        · simp (disch := omega) only [nxt_e, bnd_s, chk_T, chk_nF, ↓reduceIte, i_0, i_1, i_2, i_3, i_4, i_5, i_6, i_8, i_9, i_10, i_15, i_19, i_20, i_30, i_31, i_40, i_60, i_100, i_200, i_1000, i_20000, iv_neg, iv_add, iv_sub, iv_mul, iv_lt, iv_le, iv_eq, iv_cl, iv_in, ltT, ltF, leT, leF, eqT, eqF, gI_e, gI_n, gI_sA, gI_sL, gI_sB, gL_e, gL_n, gL_sI, gL_sA, gL_sB, gA_e, gA_n, gA_sI, gA_sL, gA_sB, gB_e, gB_n, gB_sI, gB_sL, gB_sA, up_e, up_n, uL_e, uL_n]
        · simp (disch := omega) only [nxt_e, bnd_s, chk_T, chk_nF, ↓reduceIte, i_0, i_1, i_2, i_3, i_4, i_5, i_6, i_8, i_9, i_10, i_15, i_19, i_20, i_30, i_31, i_40, i_60, i_100, i_200, i_1000, i_20000, iv_neg, iv_add, iv_sub, iv_mul, iv_lt, iv_le, iv_eq, iv_cl, iv_in, ltT, ltF, leT, leF, eqT, eqF, gI_e, gI_n, gI_sA, gI_sL, gI_sB, gL_e, gL_n, gL_sI, gL_sA, gL_sB, gA_e, gA_n, gA_sI, gA_sL, gA_sB, gB_e, gB_n, gB_sI, gB_sL, gB_sA, up_e, up_n, uL_e, uL_n]
      · by_cases e3 : pK Z.1 n = 3
        · simp (disch := omega) only [nxt_e, bnd_s, chk_T, chk_nF, ↓reduceIte, i_0, i_1, i_2, i_3, i_4, i_5, i_6, i_8, i_9, i_10, i_15, i_19, i_20, i_30, i_31, i_40, i_60, i_100, i_200, i_1000, i_20000, iv_neg, iv_add, iv_sub, iv_mul, iv_lt, iv_le, iv_eq, iv_cl, iv_in, ltT, ltF, leT, leF, eqT, eqF, gI_e, gI_n, gI_sA, gI_sL, gI_sB, gL_e, gL_n, gL_sI, gL_sA, gL_sB, gA_e, gA_n, gA_sI, gA_sL, gA_sB, gB_e, gB_n, gB_sI, gB_sL, gB_sA, up_e, up_n, uL_e, uL_n, e_chg, c1, c4, show (((n + 1 : Nat) : Int) - 1) = n by omega, Int.toNat_natCast]
          refine ⟨_, rfl, A _ ?_ ?_ ?_ ?_ ?_, ?_, ?_⟩
          · simp (disch := omega) only [nxt_e, bnd_s, chk_T, chk_nF, ↓reduceIte, i_0, i_1, i_2, i_3, i_4, i_5, i_6, i_8, i_9, i_10, i_15, i_19, i_20, i_30, i_31, i_40, i_60, i_100, i_200, i_1000, i_20000, iv_neg, iv_add, iv_sub, iv_mul, iv_lt, iv_le, iv_eq, iv_cl, iv_in, ltT, ltF, leT, leF, eqT, eqF, gI_e, gI_n, gI_sA, gI_sL, gI_sB, gL_e, gL_n, gL_sI, gL_sA, gL_sB, gA_e, gA_n, gA_sI, gA_sL, gA_sB, gB_e, gB_n, gB_sI, gB_sL, gB_sA, up_e, up_n, uL_e, uL_n]
          · simp (disch := omega) only [nxt_e, bnd_s, chk_T, chk_nF, ↓reduceIte, i_0, i_1, i_2, i_3, i_4, i_5, i_6, i_8, i_9, i_10, i_15, i_19, i_20, i_30, i_31, i_40, i_60, i_100, i_200, i_1000, i_20000, iv_neg, iv_add, iv_sub, iv_mul, iv_lt, iv_le, iv_eq, iv_cl, iv_in, ltT, ltF, leT, leF, eqT, eqF, gI_e, gI_n, gI_sA, gI_sL, gI_sB, gL_e, gL_n, gL_sI, gL_sA, gL_sB, gA_e, gA_n, gA_sI, gA_sL, gA_sB, gB_e, gB_n, gB_sI, gB_sL, gB_sA, up_e, up_n, uL_e, uL_n, c2, k0]
            congr 1
            split <;> omega
          · simp (disch := omega) only [nxt_e, bnd_s, chk_T, chk_nF, ↓reduceIte, i_0, i_1, i_2, i_3, i_4, i_5, i_6, i_8, i_9, i_10, i_15, i_19, i_20, i_30, i_31, i_40, i_60, i_100, i_200, i_1000, i_20000, iv_neg, iv_add, iv_sub, iv_mul, iv_lt, iv_le, iv_eq, iv_cl, iv_in, ltT, ltF, leT, leF, eqT, eqF, gI_e, gI_n, gI_sA, gI_sL, gI_sB, gL_e, gL_n, gL_sI, gL_sA, gL_sB, gA_e, gA_n, gA_sI, gA_sL, gA_sB, gB_e, gB_n, gB_sI, gB_sL, gB_sA, up_e, up_n, uL_e, uL_n, c3, k3, if_pos e3]
            try (congr 1 <;> omega)
          · simp (disch := omega) only [nxt_e, bnd_s, chk_T, chk_nF, ↓reduceIte, i_0, i_1, i_2, i_3, i_4, i_5, i_6, i_8, i_9, i_10, i_15, i_19, i_20, i_30, i_31, i_40, i_60, i_100, i_200, i_1000, i_20000, iv_neg, iv_add, iv_sub, iv_mul, iv_lt, iv_le, iv_eq, iv_cl, iv_in, ltT, ltF, leT, leF, eqT, eqF, gI_e, gI_n, gI_sA, gI_sL, gI_sB, gL_e, gL_n, gL_sI, gL_sA, gL_sB, gA_e, gA_n, gA_sI, gA_sL, gA_sB, gB_e, gB_n, gB_sI, gB_sL, gB_sA, up_e, up_n, uL_e, uL_n]
          · intro k; rfl
          · simp (disch := omega) only [nxt_e, bnd_s, chk_T, chk_nF, ↓reduceIte, i_0, i_1, i_2, i_3, i_4, i_5, i_6, i_8, i_9, i_10, i_15, i_19, i_20, i_30, i_31, i_40, i_60, i_100, i_200, i_1000, i_20000, iv_neg, iv_add, iv_sub, iv_mul, iv_lt, iv_le, iv_eq, iv_cl, iv_in, ltT, ltF, leT, leF, eqT, eqF, gI_e, gI_n, gI_sA, gI_sL, gI_sB, gL_e, gL_n, gL_sI, gL_sA, gL_sB, gA_e, gA_n, gA_sI, gA_sL, gA_sB, gB_e, gB_n, gB_sI, gB_sL, gB_sA, up_e, up_n, uL_e, uL_n]
          · simp (disch := omega) only [nxt_e, bnd_s, chk_T, chk_nF, ↓reduceIte, i_0, i_1, i_2, i_3, i_4, i_5, i_6, i_8, i_9, i_10, i_15, i_19, i_20, i_30, i_31, i_40, i_60, i_100, i_200, i_1000, i_20000, iv_neg, iv_add, iv_sub, iv_mul, iv_lt, iv_le, iv_eq, iv_cl, iv_in, ltT, ltF, leT, leF, eqT, eqF, gI_e, gI_n, gI_sA, gI_sL, gI_sB, gL_e, gL_n, gL_sI, gL_sA, gL_sB, gA_e, gA_n, gA_sI, gA_sL, gA_sB, gB_e, gB_n, gB_sI, gB_sL, gB_sA, up_e, up_n, uL_e, uL_n]
        · simp (disch := omega) only [nxt_e, bnd_s, chk_T, chk_nF, ↓reduceIte, i_0, i_1, i_2, i_3, i_4, i_5, i_6, i_8, i_9, i_10, i_15, i_19, i_20, i_30, i_31, i_40, i_60, i_100, i_200, i_1000, i_20000, iv_neg, iv_add, iv_sub, iv_mul, iv_lt, iv_le, iv_eq, iv_cl, iv_in, ltT, ltF, leT, leF, eqT, eqF, gI_e, gI_n, gI_sA, gI_sL, gI_sB, gL_e, gL_n, gL_sI, gL_sA, gL_sB, gA_e, gA_n, gA_sI, gA_sL, gA_sB, gB_e, gB_n, gB_sI, gB_sL, gB_sA, up_e, up_n, uL_e, uL_n, e_chg, c1, c4, show (((n + 1 : Nat) : Int) - 1) = n by omega, Int.toNat_natCast]
          refine ⟨_, rfl, A _ ?_ ?_ ?_ ?_ ?_, ?_, ?_⟩
          · simp (disch := omega) only [nxt_e, bnd_s, chk_T, chk_nF, ↓reduceIte, i_0, i_1, i_2, i_3, i_4, i_5, i_6, i_8, i_9, i_10, i_15, i_19, i_20, i_30, i_31, i_40, i_60, i_100, i_200, i_1000, i_20000, iv_neg, iv_add, iv_sub, iv_mul, iv_lt, iv_le, iv_eq, iv_cl, iv_in, ltT, ltF, leT, leF, eqT, eqF, gI_e, gI_n, gI_sA, gI_sL, gI_sB, gL_e, gL_n, gL_sI, gL_sA, gL_sB, gA_e, gA_n, gA_sI, gA_sL, gA_sB, gB_e, gB_n, gB_sI, gB_sL, gB_sA, up_e, up_n, uL_e, uL_n]
          · simp (disch := omega) only [nxt_e, bnd_s, chk_T, chk_nF, ↓reduceIte, i_0, i_1, i_2, i_3, i_4, i_5, i_6, i_8, i_9, i_10, i_15, i_19, i_20, i_30, i_31, i_40, i_60, i_100, i_200, i_1000, i_20000, iv_neg, iv_add, iv_sub, iv_mul, iv_lt, iv_le, iv_eq, iv_cl, iv_in, ltT, ltF, leT, leF, eqT, eqF, gI_e, gI_n, gI_sA, gI_sL, gI_sB, gL_e, gL_n, gL_sI, gL_sA, gL_sB, gA_e, gA_n, gA_sI, gA_sL, gA_sB, gB_e, gB_n, gB_sI, gB_sL, gB_sA, up_e, up_n, uL_e, uL_n, c2, k0]
            congr 1
            split <;> omega
          · simp (disch := omega) only [nxt_e, bnd_s, chk_T, chk_nF, ↓reduceIte, i_0, i_1, i_2, i_3, i_4, i_5, i_6, i_8, i_9, i_10, i_15, i_19, i_20, i_30, i_31, i_40, i_60, i_100, i_200, i_1000, i_20000, iv_neg, iv_add, iv_sub, iv_mul, iv_lt, iv_le, iv_eq, iv_cl, iv_in, ltT, ltF, leT, leF, eqT, eqF, gI_e, gI_n, gI_sA, gI_sL, gI_sB, gL_e, gL_n, gL_sI, gL_sA, gL_sB, gA_e, gA_n, gA_sI, gA_sL, gA_sB, gB_e, gB_n, gB_sI, gB_sL, gB_sA, up_e, up_n, uL_e, uL_n, c3, k3]
            congr 1
            split <;> omega
          · simp (disch := omega) only [nxt_e, bnd_s, chk_T, chk_nF, ↓reduceIte, i_0, i_1, i_2, i_3, i_4, i_5, i_6, i_8, i_9, i_10, i_15, i_19, i_20, i_30, i_31, i_40, i_60, i_100, i_200, i_1000, i_20000, iv_neg, iv_add, iv_sub, iv_mul, iv_lt, iv_le, iv_eq, iv_cl, iv_in, ltT, ltF, leT, leF, eqT, eqF, gI_e, gI_n, gI_sA, gI_sL, gI_sB, gL_e, gL_n, gL_sI, gL_sA, gL_sB, gA_e, gA_n, gA_sI, gA_sL, gA_sB, gB_e, gB_n, gB_sI, gB_sL, gB_sA, up_e, up_n, uL_e, uL_n]
          · intro k; rfl
          · simp (disch := omega) only [nxt_e, bnd_s, chk_T, chk_nF, ↓reduceIte, i_0, i_1, i_2, i_3, i_4, i_5, i_6, i_8, i_9, i_10, i_15, i_19, i_20, i_30, i_31, i_40, i_60, i_100, i_200, i_1000, i_20000, iv_neg, iv_add, iv_sub, iv_mul, iv_lt, iv_le, iv_eq, iv_cl, iv_in, ltT, ltF, leT, leF, eqT, eqF, gI_e, gI_n, gI_sA, gI_sL, gI_sB, gL_e, gL_n, gL_sI, gL_sA, gL_sB, gA_e, gA_n, gA_sI, gA_sL, gA_sB, gB_e, gB_n, gB_sI, gB_sL, gB_sA, up_e, up_n, uL_e, uL_n]
          · simp (disch := omega) only [nxt_e, bnd_s, chk_T, chk_nF, ↓reduceIte, i_0, i_1, i_2, i_3, i_4, i_5, i_6, i_8, i_9, i_10, i_15, i_19, i_20, i_30, i_31, i_40, i_60, i_100, i_200, i_1000, i_20000, iv_neg, iv_add, iv_sub, iv_mul, iv_lt, iv_le, iv_eq, iv_cl, iv_in, ltT, ltF, leT, leF, eqT, eqF, gI_e, gI_n, gI_sA, gI_sL, gI_sB, gL_e, gL_n, gL_sI, gL_sA, gL_sB, gA_e, gA_n, gA_sI, gA_sL, gA_sB, gB_e, gB_n, gB_sI, gB_sL, gB_sA, up_e, up_n, uL_e, uL_n]
    have D : ∃ SM', f_X5_drop SM = some (iv n, SM') ∧ RM (pDrop Z.1) SM' ∧ gI SM' 11 = iv 0 := by
      unfold f_X5_drop
      by_cases e0 : pK Z.1 n = 0
      · simp (disch := omega) only [nxt_e, bnd_s, chk_T, chk_nF, ↓reduceIte, i_0, i_1, i_2, i_3, i_4, i_5, i_6, i_8, i_9, i_10, i_15, i_19, i_20, i_30, i_31, i_40, i_60, i_100, i_200, i_1000, i_20000, iv_neg, iv_add, iv_sub, iv_mul, iv_lt, iv_le, iv_eq, iv_cl, iv_in, ltT, ltF, leT, leF, eqT, eqF, gI_e, gI_n, gI_sA, gI_sL, gI_sB, gL_e, gL_n, gL_sI, gL_sA, gL_sB, gA_e, gA_n, gA_sI, gA_sL, gA_sB, gB_e, gB_n, gB_sI, gB_sL, gB_sA, up_e, up_n, uL_e, uL_n, m1, m2, m3, m4, show (((n + 1 : Nat) : Int) - 1) = n by omega, Int.toNat_natCast]
        refine ⟨_, rfl, B _ ?_ ?_ ?_ ?_, ?_⟩
        · simp (disch := omega) only [nxt_e, bnd_s, chk_T, chk_nF, ↓reduceIte, i_0, i_1, i_2, i_3, i_4, i_5, i_6, i_8, i_9, i_10, i_15, i_19, i_20, i_30, i_31, i_40, i_60, i_100, i_200, i_1000, i_20000, iv_neg, iv_add, iv_sub, iv_mul, iv_lt, iv_le, iv_eq, iv_cl, iv_in, ltT, ltF, leT, leF, eqT, eqF, gI_e, gI_n, gI_sA, gI_sL, gI_sB, gL_e, gL_n, gL_sI, gL_sA, gL_sB, gA_e, gA_n, gA_sI, gA_sL, gA_sB, gB_e, gB_n, gB_sI, gB_sL, gB_sA, up_e, up_n, uL_e, uL_n]
        · simp (disch := omega) only [nxt_e, bnd_s, chk_T, chk_nF, ↓reduceIte, i_0, i_1, i_2, i_3, i_4, i_5, i_6, i_8, i_9, i_10, i_15, i_19, i_20, i_30, i_31, i_40, i_60, i_100, i_200, i_1000, i_20000, iv_neg, iv_add, iv_sub, iv_mul, iv_lt, iv_le, iv_eq, iv_cl, iv_in, ltT, ltF, leT, leF, eqT, eqF, gI_e, gI_n, gI_sA, gI_sL, gI_sB, gL_e, gL_n, gL_sI, gL_sA, gL_sB, gA_e, gA_n, gA_sI, gA_sL, gA_sB, gB_e, gB_n, gB_sI, gB_sL, gB_sA, up_e, up_n, uL_e, uL_n, k0, if_pos e0]
          try (congr 1 <;> omega)
        · simp (disch := omega) only [nxt_e, bnd_s, chk_T, chk_nF, ↓reduceIte, i_0, i_1, i_2, i_3, i_4, i_5, i_6, i_8, i_9, i_10, i_15, i_19, i_20, i_30, i_31, i_40, i_60, i_100, i_200, i_1000, i_20000, iv_neg, iv_add, iv_sub, iv_mul, iv_lt, iv_le, iv_eq, iv_cl, iv_in, ltT, ltF, leT, leF, eqT, eqF, gI_e, gI_n, gI_sA, gI_sL, gI_sB, gL_e, gL_n, gL_sI, gL_sA, gL_sB, gA_e, gA_n, gA_sI, gA_sL, gA_sB, gB_e, gB_n, gB_sI, gB_sL, gB_sA, up_e, up_n, uL_e, uL_n, k3]
          congr 1
          split <;> omega
        · intro k; rfl
        · simp (disch := omega) only [nxt_e, bnd_s, chk_T, chk_nF, ↓reduceIte, i_0, i_1, i_2, i_3, i_4, i_5, i_6, i_8, i_9, i_10, i_15, i_19, i_20, i_30, i_31, i_40, i_60, i_100, i_200, i_1000, i_20000, iv_neg, iv_add, iv_sub, iv_mul, iv_lt, iv_le, iv_eq, iv_cl, iv_in, ltT, ltF, leT, leF, eqT, eqF, gI_e, gI_n, gI_sA, gI_sL, gI_sB, gL_e, gL_n, gL_sI, gL_sA, gL_sB, gA_e, gA_n, gA_sI, gA_sL, gA_sB, gB_e, gB_n, gB_sI, gB_sL, gB_sA, up_e, up_n, uL_e, uL_n]
      · by_cases e3 : pK Z.1 n = 3
        · simp (disch := omega) only [nxt_e, bnd_s, chk_T, chk_nF, ↓reduceIte, i_0, i_1, i_2, i_3, i_4, i_5, i_6, i_8, i_9, i_10, i_15, i_19, i_20, i_30, i_31, i_40, i_60, i_100, i_200, i_1000, i_20000, iv_neg, iv_add, iv_sub, iv_mul, iv_lt, iv_le, iv_eq, iv_cl, iv_in, ltT, ltF, leT, leF, eqT, eqF, gI_e, gI_n, gI_sA, gI_sL, gI_sB, gL_e, gL_n, gL_sI, gL_sA, gL_sB, gA_e, gA_n, gA_sI, gA_sL, gA_sB, gB_e, gB_n, gB_sI, gB_sL, gB_sA, up_e, up_n, uL_e, uL_n, m1, m2, m3, m4, show (((n + 1 : Nat) : Int) - 1) = n by omega, Int.toNat_natCast]
          refine ⟨_, rfl, B _ ?_ ?_ ?_ ?_, ?_⟩
          · simp (disch := omega) only [nxt_e, bnd_s, chk_T, chk_nF, ↓reduceIte, i_0, i_1, i_2, i_3, i_4, i_5, i_6, i_8, i_9, i_10, i_15, i_19, i_20, i_30, i_31, i_40, i_60, i_100, i_200, i_1000, i_20000, iv_neg, iv_add, iv_sub, iv_mul, iv_lt, iv_le, iv_eq, iv_cl, iv_in, ltT, ltF, leT, leF, eqT, eqF, gI_e, gI_n, gI_sA, gI_sL, gI_sB, gL_e, gL_n, gL_sI, gL_sA, gL_sB, gA_e, gA_n, gA_sI, gA_sL, gA_sB, gB_e, gB_n, gB_sI, gB_sL, gB_sA, up_e, up_n, uL_e, uL_n]
          · simp (disch := omega) only [nxt_e, bnd_s, chk_T, chk_nF, ↓reduceIte, i_0, i_1, i_2, i_3, i_4, i_5, i_6, i_8, i_9, i_10, i_15, i_19, i_20, i_30, i_31, i_40, i_60, i_100, i_200, i_1000, i_20000, iv_neg, iv_add, iv_sub, iv_mul, iv_lt, iv_le, iv_eq, iv_cl, iv_in, ltT, ltF, leT, leF, eqT, eqF, gI_e, gI_n, gI_sA, gI_sL, gI_sB, gL_e, gL_n, gL_sI, gL_sA, gL_sB, gA_e, gA_n, gA_sI, gA_sL, gA_sB, gB_e, gB_n, gB_sI, gB_sL, gB_sA, up_e, up_n, uL_e, uL_n, k0]
            congr 1
            split <;> omega
          · simp (disch := omega) only [nxt_e, bnd_s, chk_T, chk_nF, ↓reduceIte, i_0, i_1, i_2, i_3, i_4, i_5, i_6, i_8, i_9, i_10, i_15, i_19, i_20, i_30, i_31, i_40, i_60, i_100, i_200, i_1000, i_20000, iv_neg, iv_add, iv_sub, iv_mul, iv_lt, iv_le, iv_eq, iv_cl, iv_in, ltT, ltF, leT, leF, eqT, eqF, gI_e, gI_n, gI_sA, gI_sL, gI_sB, gL_e, gL_n, gL_sI, gL_sA, gL_sB, gA_e, gA_n, gA_sI, gA_sL, gA_sB, gB_e, gB_n, gB_sI, gB_sL, gB_sA, up_e, up_n, uL_e, uL_n, k3, if_pos e3]
            try (congr 1 <;> omega)
          · intro k; rfl
          · simp (disch := omega) only [nxt_e, bnd_s, chk_T, chk_nF, ↓reduceIte, i_0, i_1, i_2, i_3, i_4, i_5, i_6, i_8, i_9, i_10, i_15, i_19, i_20, i_30, i_31, i_40, i_60, i_100, i_200, i_1000, i_20000, iv_neg, iv_add, iv_sub, iv_mul, iv_lt, iv_le, iv_eq, iv_cl, iv_in, ltT, ltF, leT, leF, eqT, eqF, gI_e, gI_n, gI_sA, gI_sL, gI_sB, gL_e, gL_n, gL_sI, gL_sA, gL_sB, gA_e, gA_n, gA_sI, gA_sL, gA_sB, gB_e, gB_n, gB_sI, gB_sL, gB_sA, up_e, up_n, uL_e, uL_n]
        · simp (disch := omega) only [nxt_e, bnd_s, chk_T, chk_nF, ↓reduceIte, i_0, i_1, i_2, i_3, i_4, i_5, i_6, i_8, i_9, i_10, i_15, i_19, i_20, i_30, i_31, i_40, i_60, i_100, i_200, i_1000, i_20000, iv_neg, iv_add, iv_sub, iv_mul, iv_lt, iv_le, iv_eq, iv_cl, iv_in, ltT, ltF, leT, leF, eqT, eqF, gI_e, gI_n, gI_sA, gI_sL, gI_sB, gL_e, gL_n, gL_sI, gL_sA, gL_sB, gA_e, gA_n, gA_sI, gA_sL, gA_sB, gB_e, gB_n, gB_sI, gB_sL, gB_sA, up_e, up_n, uL_e, uL_n, m1, m2, m3, m4, show (((n + 1 : Nat) : Int) - 1) = n by omega, Int.toNat_natCast]
          refine ⟨_, rfl, B _ ?_ ?_ ?_ ?_, ?_⟩
          · simp (disch := omega) only [nxt_e, bnd_s, chk_T, chk_nF, ↓reduceIte, i_0, i_1, i_2, i_3, i_4, i_5, i_6, i_8, i_9, i_10, i_15, i_19, i_20, i_30, i_31, i_40, i_60, i_100, i_200, i_1000, i_20000, iv_neg, iv_add, iv_sub, iv_mul, iv_lt, iv_le, iv_eq, iv_cl, iv_in, ltT, ltF, leT, leF, eqT, eqF, gI_e, gI_n, gI_sA, gI_sL, gI_sB, gL_e, gL_n, gL_sI, gL_sA, gL_sB, gA_e, gA_n, gA_sI, gA_sL, gA_sB, gB_e, gB_n, gB_sI, gB_sL, gB_sA, up_e, up_n, uL_e, uL_n]
          · simp (disch := omega) only [nxt_e, bnd_s, chk_T, chk_nF, ↓reduceIte, i_0, i_1, i_2, i_3, i_4, i_5, i_6, i_8, i_9, i_10, i_15, i_19, i_20, i_30, i_31, i_40, i_60, i_100, i_200, i_1000, i_20000, iv_neg, iv_add, iv_sub, iv_mul, iv_lt, iv_le, iv_eq, iv_cl, iv_in, ltT, ltF, leT, leF, eqT, eqF, gI_e, gI_n, gI_sA, gI_sL, gI_sB, gL_e, gL_n, gL_sI, gL_sA, gL_sB, gA_e, gA_n, gA_sI, gA_sL, gA_sB, gB_e, gB_n, gB_sI, gB_sL, gB_sA, up_e, up_n, uL_e, uL_n, k0]
            congr 1
            split <;> omega
          · simp (disch := omega) only [nxt_e, bnd_s, chk_T, chk_nF, ↓reduceIte, i_0, i_1, i_2, i_3, i_4, i_5, i_6, i_8, i_9, i_10, i_15, i_19, i_20, i_30, i_31, i_40, i_60, i_100, i_200, i_1000, i_20000, iv_neg, iv_add, iv_sub, iv_mul, iv_lt, iv_le, iv_eq, iv_cl, iv_in, ltT, ltF, leT, leF, eqT, eqF, gI_e, gI_n, gI_sA, gI_sL, gI_sB, gL_e, gL_n, gL_sI, gL_sA, gL_sB, gA_e, gA_n, gA_sI, gA_sL, gA_sB, gB_e, gB_n, gB_sI, gB_sL, gB_sA, up_e, up_n, uL_e, uL_n, k3]
            congr 1
            split <;> omega
          · intro k; rfl
          · simp (disch := omega) only [nxt_e, bnd_s, chk_T, chk_nF, ↓reduceIte, i_0, i_1, i_2, i_3, i_4, i_5, i_6, i_8, i_9, i_10, i_15, i_19, i_20, i_30, i_31, i_40, i_60, i_100, i_200, i_1000, i_20000, iv_neg, iv_add, iv_sub, iv_mul, iv_lt, iv_le, iv_eq, iv_cl, iv_in, ltT, ltF, leT, leF, eqT, eqF, gI_e, gI_n, gI_sA, gI_sL, gI_sB, gL_e, gL_n, gL_sI, gL_sA, gL_sB, gA_e, gA_n, gA_sI, gA_sL, gA_sB, gB_e, gB_n, gB_sI, gB_sL, gB_sA, up_e, up_n, uL_e, uL_n]
    obtain ⟨SC', e1, e2, e3, e4⟩ := C
    obtain ⟨SM', f1, f2, f3⟩ := D
    exact ⟨iv n, SC', SM', (pDrop Z.1, 0, Z.2.2), e1, f1, Inv_end hw e2 f2 e3 e4 f3⟩
