def qtr (Q : Nat → Nat) (x : Nat) : Nat → Nat := fun y => if y < x then Q y else 0
theorem b_orp : ∀ x : Nat, x < 6 → ∀ a : Nat, a < 2 ^ x → a ||| 2 ^ x = a + 2 ^ x := by decide +kernel
theorem qtr_s {Q : Nat → Nat} (h : ∀ x, Q x ≤ 1) {x : Nat} (hx : x < 6) : qb (qtr Q x) < 2 ^ x ∧ qb (qtr Q (x + 1)) = qb (qtr Q x) + Q x * 2 ^ x := by
  have := h 0; have := h 1; have := h 2; have := h 3; have := h 4; have := h 5
  match x, hx with
  | 0, _ => simp [qb, qtr]
  | 1, _ => simp (config := { decide := true }) only [qb, qtr, if_true, if_false]; omega
  | 2, _ => simp (config := { decide := true }) only [qb, qtr, if_true, if_false]; omega
  | 3, _ => simp (config := { decide := true }) only [qb, qtr, if_true, if_false]; omega
  | 4, _ => simp (config := { decide := true }) only [qb, qtr, if_true, if_false]; omega
  | 5, _ => simp (config := { decide := true }) only [qb, qtr, if_true, if_false]; omega
theorem lvM12 {P : Pr} (hw : Wf P) : ∀ (j x fuel : Nat) (S : St), j + x = 6 → j < fuel → RM P S → gA S 13 (pN P) = iv (qb (qtr (pQ P) x)) → ∃ f, lp_X5_liven_12 fuel (iv (x : Int)) S = some ((), sA S 13 f) ∧ ∀ p : Nat, p ≤ pN P → f p = iv (LV P p) := by
  intro j
  induction j with
  | zero =>
    intro x fuel S hx hf hR hL
    obtain ⟨n, rfl⟩ : ∃ k, fuel = k + 1 := ⟨fuel - 1, by omega⟩
    have m1 := hR.1
    have q1 := hw.1
    rw [lp_X5_liven_12]
    simp (disch := omega) only [nxt_e, bnd_s, chk_T, chk_nF, ↓reduceIte, i_0, i_1, i_2, i_3, i_4, i_5, i_6, i_8, i_9, i_10, i_15, i_19, i_20, i_30, i_31, i_40, i_60, i_100, i_200, i_1000, i_20000, iv_neg, iv_add, iv_sub, iv_mul, iv_lt, iv_le, iv_eq, iv_cl, iv_in, ltT, ltF, leT, leF, eqT, eqF, gI_e, gI_n, gI_sA, gI_sL, gI_sB, gL_e, gL_n, gL_sI, gL_sA, gL_sB, gA_e, gA_n, gA_sI, gA_sL, gA_sB, gB_e, gB_n, gB_sI, gB_sL, gB_sA, up_e, up_n, uL_e, uL_n, m1]
    refine lvM hw (pN P) FU S (Nat.le_refl _) (by rw [FU_v]; omega) hR (fun p h1 h2 => ?_)
    obtain rfl : p = pN P := by omega
    rw [hL, Nat.sub_self]
    obtain rfl : x = 6 := by omega
    rfl
  | succ j ih =>
    intro x fuel S hx hf hR hL
    obtain ⟨n, rfl⟩ : ∃ k, fuel = k + 1 := ⟨fuel - 1, by omega⟩
    have hR2 := hR
    obtain ⟨m1, m2, m3, m4, m5, m6, m7, m8, m9, m10⟩ := hR
    have q1 := hw.1
    have q8 := hw.2.2.2.2.2.2.2
    obtain ⟨s1, s2⟩ := qtr_s q8 (x := x) (by omega)
    have sh := b_shl1 x (by omega)
    have m10 := m10 x (by omega)
    have hq := q8 x
    have step : ∀ X : Nat, X = qb (qtr (pQ P) (x + 1)) → ∃ f, lp_X5_liven_12 n (iv ((x : Int) + 1)) (sA S 13 (upd (gA S 13) (pN P) (iv (X : Int)))) = some ((), sA S 13 f) ∧ ∀ p : Nat, p ≤ pN P → f p = iv (LV P p) := by
      intro X hX
      obtain ⟨f, f1, f2⟩ := ih (x + 1) n (sA S 13 (upd (gA S 13) (pN P) (iv (X : Int)))) (by omega) (by omega) (RM_sA (by decide) hR2) (by rw [gA_e, up_e rfl, hX])
      rw [sA_sA] at f1
      exact ⟨f, f1, f2⟩
    rw [lp_X5_liven_12]
    rcases (show pQ P x = 0 ∨ pQ P x = 1 by omega) with h0 | h0
    · simp (disch := omega) only [nxt_e, bnd_s, chk_T, chk_nF, ↓reduceIte, i_0, i_1, i_2, i_3, i_4, i_5, i_6, i_8, i_9, i_10, i_15, i_19, i_20, i_30, i_31, i_40, i_60, i_100, i_200, i_1000, i_20000, iv_neg, iv_add, iv_sub, iv_mul, iv_lt, iv_le, iv_eq, iv_cl, iv_in, ltT, ltF, leT, leF, eqT, eqF, gI_e, gI_n, gI_sA, gI_sL, gI_sB, gL_e, gL_n, gL_sI, gL_sA, gL_sB, gA_e, gA_n, gA_sI, gA_sL, gA_sB, gB_e, gB_n, gB_sI, gB_sL, gB_sA, up_e, up_n, uL_e, uL_n, m1, m10, h0, Int.toNat_natCast, hL]
      rw [show iv ((qb (qtr (pQ P) x) : Nat) : Int) ||| iv 0 = iv ((qb (qtr (pQ P) x) : Nat) : Int) by rw [show iv 0 = iv ((0 : Nat) : Int) from rfl, nO, Nat.or_zero]]
      exact step _ (by rw [s2, h0]; omega)
    · simp (disch := omega) only [nxt_e, bnd_s, chk_T, chk_nF, ↓reduceIte, i_0, i_1, i_2, i_3, i_4, i_5, i_6, i_8, i_9, i_10, i_15, i_19, i_20, i_30, i_31, i_40, i_60, i_100, i_200, i_1000, i_20000, iv_neg, iv_add, iv_sub, iv_mul, iv_lt, iv_le, iv_eq, iv_cl, iv_in, ltT, ltF, leT, leF, eqT, eqF, gI_e, gI_n, gI_sA, gI_sL, gI_sB, gL_e, gL_n, gL_sI, gL_sA, gL_sB, gA_e, gA_n, gA_sI, gA_sL, gA_sB, gB_e, gB_n, gB_sI, gB_sL, gB_sA, up_e, up_n, uL_e, uL_n, m1, m10, h0, Int.toNat_natCast, hL, sh, nO, b_orp]
      exact step _ (by rw [s2, h0]; omega)
theorem e_liven {P : Pr} {S : St} (hw : Wf P) (hR : RM P S) : ∃ f, f_X5_liven S = some ((), sA S 13 f) ∧ ∀ p : Nat, p ≤ pN P → f p = iv (LV P p) := by
  have m1 := hR.1
  have q1 := hw.1
  unfold f_X5_liven
  simp (disch := omega) only [nxt_e, bnd_s, chk_T, chk_nF, ↓reduceIte, i_0, i_1, i_2, i_3, i_4, i_5, i_6, i_8, i_9, i_10, i_15, i_19, i_20, i_30, i_31, i_40, i_60, i_100, i_200, i_1000, i_20000, iv_neg, iv_add, iv_sub, iv_mul, iv_lt, iv_le, iv_eq, iv_cl, iv_in, ltT, ltF, leT, leF, eqT, eqF, gI_e, gI_n, gI_sA, gI_sL, gI_sB, gL_e, gL_n, gL_sI, gL_sA, gL_sB, gA_e, gA_n, gA_sI, gA_sL, gA_sB, gB_e, gB_n, gB_sI, gB_sL, gB_sA, up_e, up_n, uL_e, uL_n, m1, Int.toNat_natCast]
  obtain ⟨f, f1, f2⟩ := lvM12 hw 6 0 FU (sA S 13 (upd (gA S 13) (pN P) (iv 0))) rfl (by rw [FU_v]; decide) (RM_sA (by decide) hR) (by rw [gA_e, up_e rfl]; rfl)
  rw [sA_sA] at f1
  exact ⟨f, f1, f2⟩
theorem e_step_t {P : Pr} {S : St} {z : Int} (hw : Wf P) (hR : RC P S) (h1 : 0 ≤ z) (h2 : z < pN P) : f_X2_isStep (iv z) S = some (iv 1, S) := by
  have c1 := hR.1
  have q1 := hw.1
  unfold f_X2_isStep
  simp (disch := omega) only [nxt_e, bnd_s, chk_T, chk_nF, ↓reduceIte, i_0, i_1, i_2, i_3, i_4, i_5, i_6, i_8, i_9, i_10, i_15, i_19, i_20, i_30, i_31, i_40, i_60, i_100, i_200, i_1000, i_20000, iv_neg, iv_add, iv_sub, iv_mul, iv_lt, iv_le, iv_eq, iv_cl, iv_in, ltT, ltF, leT, leF, eqT, eqF, gI_e, gI_n, gI_sA, gI_sL, gI_sB, gL_e, gL_n, gL_sI, gL_sA, gL_sB, gA_e, gA_n, gA_sI, gA_sL, gA_sB, gB_e, gB_n, gB_sI, gB_sL, gB_sA, up_e, up_n, uL_e, uL_n, c1]
theorem e_step_f {P : Pr} {S : St} {z : Int} (hw : Wf P) (hR : RC P S) (h : z < 0 ∨ (pN P : Int) ≤ z) (h1 : -2147483648 ≤ z) (h2 : z < 2147483648) : f_X2_isStep (iv z) S = some (iv 0, S) := by
  have c1 := hR.1
  have q1 := hw.1
  unfold f_X2_isStep
  rcases h with h | h
  · simp (disch := omega) only [nxt_e, bnd_s, chk_T, chk_nF, ↓reduceIte, i_0, i_1, i_2, i_3, i_4, i_5, i_6, i_8, i_9, i_10, i_15, i_19, i_20, i_30, i_31, i_40, i_60, i_100, i_200, i_1000, i_20000, iv_neg, iv_add, iv_sub, iv_mul, iv_lt, iv_le, iv_eq, iv_cl, iv_in, ltT, ltF, leT, leF, eqT, eqF, gI_e, gI_n, gI_sA, gI_sL, gI_sB, gL_e, gL_n, gL_sI, gL_sA, gL_sB, gA_e, gA_n, gA_sI, gA_sL, gA_sB, gB_e, gB_n, gB_sI, gB_sL, gB_sA, up_e, up_n, uL_e, uL_n, c1]
  · simp (disch := omega) only [nxt_e, bnd_s, chk_T, chk_nF, ↓reduceIte, i_0, i_1, i_2, i_3, i_4, i_5, i_6, i_8, i_9, i_10, i_15, i_19, i_20, i_30, i_31, i_40, i_60, i_100, i_200, i_1000, i_20000, iv_neg, iv_add, iv_sub, iv_mul, iv_lt, iv_le, iv_eq, iv_cl, iv_in, ltT, ltF, leT, leF, eqT, eqF, gI_e, gI_n, gI_sA, gI_sL, gI_sB, gL_e, gL_n, gL_sI, gL_sA, gL_sB, gA_e, gA_n, gA_sI, gA_sL, gA_sB, gB_e, gB_n, gB_sI, gB_sL, gB_sA, up_e, up_n, uL_e, uL_n, c1]
theorem e_lAt {S : St} {k : Nat} (hk : k < 31) : f_X2_liveAt (iv (k : Int)) S = some (gA S 10 k, S) := by
  unfold f_X2_liveAt
  simp (disch := omega) only [nxt_e, bnd_s, chk_T, chk_nF, ↓reduceIte, i_0, i_1, i_2, i_3, i_4, i_5, i_6, i_8, i_9, i_10, i_15, i_19, i_20, i_30, i_31, i_40, i_60, i_100, i_200, i_1000, i_20000, iv_neg, iv_add, iv_sub, iv_mul, iv_lt, iv_le, iv_eq, iv_cl, iv_in, ltT, ltF, leT, leF, eqT, eqF, gI_e, gI_n, gI_sA, gI_sL, gI_sB, gL_e, gL_n, gL_sI, gL_sA, gL_sB, gA_e, gA_n, gA_sI, gA_sL, gA_sB, gB_e, gB_n, gB_sI, gB_sL, gB_sA, up_e, up_n, uL_e, uL_n, Int.toNat_natCast]
theorem e_las {P : Pr} {S : St} {k : Nat} {g : Nat → Nat} (hw : Wf P) (hR : RC P S) (hk : k < pN P) (hg : ∀ j, g j < 64) (e1 : gA S 10 (k + 1) = iv (g (k + 1))) (e2 : gA S 10 (psd P k) = iv (g (psd P k))) : f_X2_liveAtStep (iv (k : Int)) S = some (iv (lvs P g k), S) := by
  have hR2 := hR
  obtain ⟨c1, c2, c3, c4, c5, c6, c7, c8, c9, c10⟩ := hR
  obtain ⟨z1, z2, z3, z4, z5⟩ := hw.2.1 k
  have z5 := z5 hk
  have q1 := hw.1
  have q4 := hw.2.2.2.1 k
  have hps := psd_b (P := P) (k := k) hk
  have l1 := hg (k + 1)
  have v1 : ∀ S' : St, f_X2_variableOf (iv (pA P k)) S' = some (iv (tb (pA P k)), S') := fun S' => e_vOf z3
  have v2 : ∀ S' : St, f_X2_variableOf (iv (pB P k)) S' = some (iv (tb (pB P k)), S') := fun S' => e_vOf z4
  have gp : f_X2_placeSkippedTo (iv (k : Int)) S = some (iv (psd P k), S) := e_skp hw hR2 hk
  have la : f_X2_liveAt (iv ((k : Int) + 1)) S = some (iv (g (k + 1)), S) := by
    have := e_lAt (S := S) (k := k + 1) (by omega)
    rw [e1] at this
    exact this
  have lb : f_X2_liveAt (iv (psd P k : Int)) S = some (iv (g (psd P k)), S) := by
    have := e_lAt (S := S) (k := psd P k) (by omega)
    rw [e2] at this
    exact this
  have sh := b_shl1 (pG P k) (by omega)
  have an := b_andn _ l1 (pG P k) (by omega)
  have t10 : tb 10 = 0 := rfl
  unfold f_X2_liveAtStep
  by_cases k4 : pK P k = 4
  · have b10 := z5.2 k4
    simp (disch := omega) only [nxt_e, bnd_s, chk_T, chk_nF, ↓reduceIte, i_0, i_1, i_2, i_3, i_4, i_5, i_6, i_8, i_9, i_10, i_15, i_19, i_20, i_30, i_31, i_40, i_60, i_100, i_200, i_1000, i_20000, iv_neg, iv_add, iv_sub, iv_mul, iv_lt, iv_le, iv_eq, iv_cl, iv_in, ltT, ltF, leT, leF, eqT, eqF, gI_e, gI_n, gI_sA, gI_sL, gI_sB, gL_e, gL_n, gL_sI, gL_sA, gL_sB, gA_e, gA_n, gA_sI, gA_sL, gA_sB, gB_e, gB_n, gB_sI, gB_sL, gB_sA, up_e, up_n, uL_e, uL_n, c4, c5, c6, c7, c8, Int.toNat_natCast, la, lb, gp, v1, v2, nO]
    unfold lvs
    rw [if_neg (by omega), if_neg (by omega), if_pos k4, b10, t10, Nat.or_zero]
  · by_cases k1 : pK P k = 1
    · by_cases k6 : pE P k = 6
      · simp (disch := omega) only [nxt_e, bnd_s, chk_T, chk_nF, ↓reduceIte, i_0, i_1, i_2, i_3, i_4, i_5, i_6, i_8, i_9, i_10, i_15, i_19, i_20, i_30, i_31, i_40, i_60, i_100, i_200, i_1000, i_20000, iv_neg, iv_add, iv_sub, iv_mul, iv_lt, iv_le, iv_eq, iv_cl, iv_in, ltT, ltF, leT, leF, eqT, eqF, gI_e, gI_n, gI_sA, gI_sL, gI_sB, gL_e, gL_n, gL_sI, gL_sA, gL_sB, gA_e, gA_n, gA_sI, gA_sL, gA_sB, gB_e, gB_n, gB_sI, gB_sL, gB_sA, up_e, up_n, uL_e, uL_n, c4, c5, c6, c7, c8, Int.toNat_natCast, la, v1, v2, sh, nO]
        unfold lvs
        rw [if_neg (by omega), if_pos k1, if_pos k6]
      · simp (disch := omega) only [nxt_e, bnd_s, chk_T, chk_nF, ↓reduceIte, i_0, i_1, i_2, i_3, i_4, i_5, i_6, i_8, i_9, i_10, i_15, i_19, i_20, i_30, i_31, i_40, i_60, i_100, i_200, i_1000, i_20000, iv_neg, iv_add, iv_sub, iv_mul, iv_lt, iv_le, iv_eq, iv_cl, iv_in, ltT, ltF, leT, leF, eqT, eqF, gI_e, gI_n, gI_sA, gI_sL, gI_sB, gL_e, gL_n, gL_sI, gL_sA, gL_sB, gA_e, gA_n, gA_sI, gA_sL, gA_sB, gB_e, gB_n, gB_sI, gB_sL, gB_sA, up_e, up_n, uL_e, uL_n, c4, c5, c6, c7, c8, Int.toNat_natCast, la, v1, v2, sh, an, nO]
        unfold lvs
        rw [if_neg (by omega), if_pos k1, if_neg k6]
    · by_cases k0 : pK P k = 0
      · obtain ⟨a10, b10⟩ := z5.1 k0
        simp (disch := omega) only [nxt_e, bnd_s, chk_T, chk_nF, ↓reduceIte, i_0, i_1, i_2, i_3, i_4, i_5, i_6, i_8, i_9, i_10, i_15, i_19, i_20, i_30, i_31, i_40, i_60, i_100, i_200, i_1000, i_20000, iv_neg, iv_add, iv_sub, iv_mul, iv_lt, iv_le, iv_eq, iv_cl, iv_in, ltT, ltF, leT, leF, eqT, eqF, gI_e, gI_n, gI_sA, gI_sL, gI_sB, gL_e, gL_n, gL_sI, gL_sA, gL_sB, gA_e, gA_n, gA_sI, gA_sL, gA_sB, gB_e, gB_n, gB_sI, gB_sL, gB_sA, up_e, up_n, uL_e, uL_n, c4, c5, c6, c7, c8, Int.toNat_natCast, la, v1, v2, sh, an, nO]
        unfold lvs
        rw [if_pos k0, a10, b10, t10, Nat.or_zero, Nat.or_zero]
      · simp (disch := omega) only [nxt_e, bnd_s, chk_T, chk_nF, ↓reduceIte, i_0, i_1, i_2, i_3, i_4, i_5, i_6, i_8, i_9, i_10, i_15, i_19, i_20, i_30, i_31, i_40, i_60, i_100, i_200, i_1000, i_20000, iv_neg, iv_add, iv_sub, iv_mul, iv_lt, iv_le, iv_eq, iv_cl, iv_in, ltT, ltF, leT, leF, eqT, eqF, gI_e, gI_n, gI_sA, gI_sL, gI_sB, gL_e, gL_n, gL_sI, gL_sA, gL_sB, gA_e, gA_n, gA_sI, gA_sL, gA_sB, gB_e, gB_n, gB_sI, gB_sL, gB_sA, up_e, up_n, uL_e, uL_n, c4, c5, c6, c7, c8, Int.toNat_natCast, la, v1, v2, nO]
        unfold lvs
        rw [if_neg k0, if_neg k1, if_neg k4]
theorem lvC {P : Pr} (hw : Wf P) : ∀ (r fuel : Nat) (S : St), r ≤ pN P → r < fuel → RC P S → (∀ p : Nat, r ≤ p → p ≤ pN P → gA S 10 p = iv (LVF P (pN P - r) p)) → ∃ f, lp_X2_markLive_5 fuel (iv ((r : Int) - 1)) S = some ((), sA S 10 f) ∧ ∀ p : Nat, p ≤ pN P → f p = iv (LV P p) := by
  intro r
  induction r with
  | zero =>
    intro fuel S hr hf hR hL
    obtain ⟨n, rfl⟩ : ∃ k, fuel = k + 1 := ⟨fuel - 1, by omega⟩
    refine ⟨gA S 10, ?_, fun p hp => hL p (Nat.zero_le p) hp⟩
    rw [lp_X2_markLive_5, sA_self]
    simp (disch := omega) only [nxt_e, bnd_s, chk_T, chk_nF, ↓reduceIte, i_0, i_1, i_2, i_3, i_4, i_5, i_6, i_8, i_9, i_10, i_15, i_19, i_20, i_30, i_31, i_40, i_60, i_100, i_200, i_1000, i_20000, iv_neg, iv_add, iv_sub, iv_mul, iv_lt, iv_le, iv_eq, iv_cl, iv_in, ltT, ltF, leT, leF, eqT, eqF, gI_e, gI_n, gI_sA, gI_sL, gI_sB, gL_e, gL_n, gL_sI, gL_sA, gL_sB, gA_e, gA_n, gA_sI, gA_sL, gA_sB, gB_e, gB_n, gB_sI, gB_sL, gB_sA, up_e, up_n, uL_e, uL_n]
  | succ r ih =>
    intro fuel S hr hf hR hL
    obtain ⟨n, rfl⟩ : ∃ k, fuel = k + 1 := ⟨fuel - 1, by omega⟩
    have q1 := hw.1
    have hps := psd_b (P := P) (k := r) (by omega)
    have e := e_las hw hR (k := r) (g := LVF P (pN P - (r + 1))) (by omega) (LVF_lt hw _) (hL (r + 1) (by omega) (by omega)) (hL (psd P r) (by omega) (by omega))
    have es := e_step_t (z := r) hw hR (by omega) (by omega)
    rw [show (((r + 1 : Nat) : Int) - 1) = r by omega, lp_X2_markLive_5]
    simp (disch := omega) only [nxt_e, bnd_s, chk_T, chk_nF, ↓reduceIte, i_0, i_1, i_2, i_3, i_4, i_5, i_6, i_8, i_9, i_10, i_15, i_19, i_20, i_30, i_31, i_40, i_60, i_100, i_200, i_1000, i_20000, iv_neg, iv_add, iv_sub, iv_mul, iv_lt, iv_le, iv_eq, iv_cl, iv_in, ltT, ltF, leT, leF, eqT, eqF, gI_e, gI_n, gI_sA, gI_sL, gI_sB, gL_e, gL_n, gL_sI, gL_sA, gL_sB, gA_e, gA_n, gA_sI, gA_sL, gA_sB, gB_e, gB_n, gB_sI, gB_sL, gB_sA, up_e, up_n, uL_e, uL_n, es, e, Int.toNat_natCast]
    obtain ⟨f, f1, f2⟩ := ih n (sA S 10 (upd (gA S 10) r (iv (lvs P (LVF P (pN P - (r + 1))) r)))) (by omega) (by omega) (RC_sA (by decide) (by decide) hR) (fun p h1 h2 => by
        rw [gA_e, show pN P - r = (pN P - (r + 1)) + 1 by omega]
        show _ = iv (((if p = pN P - 1 - (pN P - (r + 1)) then lvs P (LVF P (pN P - (r + 1))) p else LVF P (pN P - (r + 1)) p : Nat)) : Int)
        by_cases e : p = r
        · rw [up_e e, if_pos (by omega), e]
        · rw [up_n e, if_neg (by omega), hL p (by omega) h2])
    rw [sA_sA] at f1
    exact ⟨f, f1, f2⟩
theorem e_mark {P : Pr} {S : St} (hw : Wf P) (hR : RC P S) : ∃ f, f_X2_markLive S = some ((), sA S 10 f) ∧ ∀ p : Nat, p ≤ pN P → f p = iv (LV P p) := by
  have c1 := hR.1
  have c10 := hR.2.2.2.2.2.2.2.2.2
  have q1 := hw.1
  unfold f_X2_markLive
  have es := e_step_f (z := pN P) hw hR (Or.inr (by omega)) (by omega) (by omega)
  rw [nxt_e, c1, FU_s, lp_X2_markLive_5]
  simp (disch := omega) only [nxt_e, bnd_s, chk_T, chk_nF, ↓reduceIte, i_0, i_1, i_2, i_3, i_4, i_5, i_6, i_8, i_9, i_10, i_15, i_19, i_20, i_30, i_31, i_40, i_60, i_100, i_200, i_1000, i_20000, iv_neg, iv_add, iv_sub, iv_mul, iv_lt, iv_le, iv_eq, iv_cl, iv_in, ltT, ltF, leT, leF, eqT, eqF, gI_e, gI_n, gI_sA, gI_sL, gI_sB, gL_e, gL_n, gL_sI, gL_sA, gL_sB, gA_e, gA_n, gA_sI, gA_sL, gA_sB, gB_e, gB_n, gB_sI, gB_sL, gB_sA, up_e, up_n, uL_e, uL_n, es, c10, Int.toNat_natCast]
  obtain ⟨f, f1, f2⟩ := lvC hw (pN P) 3999999999 (sA S 10 (upd (gA S 10) (pN P) (iv (qb (pQ P))))) (Nat.le_refl _) (by omega) (RC_sA (by decide) (by decide) hR) (fun p h1 h2 => by
    obtain rfl : p = pN P := by omega
    rw [gA_e, up_e rfl, Nat.sub_self]
    rfl)
  rw [sA_sA] at f1
  exact ⟨f, f1, f2⟩
theorem isPl_t {P : Pr} {S : St} {z : Int} (hw : Wf P) (hR : RC P S) (h1 : 0 ≤ z) (h2 : z ≤ pN P) : f_X4_isPlace (iv z) S = some (iv 1, S) := by
  have c1 := hR.1
  have q1 := hw.1
  unfold f_X4_isPlace
  simp (disch := omega) only [nxt_e, bnd_s, chk_T, chk_nF, ↓reduceIte, i_0, i_1, i_2, i_3, i_4, i_5, i_6, i_8, i_9, i_10, i_15, i_19, i_20, i_30, i_31, i_40, i_60, i_100, i_200, i_1000, i_20000, iv_neg, iv_add, iv_sub, iv_mul, iv_lt, iv_le, iv_eq, iv_cl, iv_in, ltT, ltF, leT, leF, eqT, eqF, gI_e, gI_n, gI_sA, gI_sL, gI_sB, gL_e, gL_n, gL_sI, gL_sA, gL_sB, gA_e, gA_n, gA_sI, gA_sL, gA_sB, gB_e, gB_n, gB_sI, gB_sL, gB_sA, up_e, up_n, uL_e, uL_n, c1]
theorem isPl_f {P : Pr} {S : St} {z : Int} (hw : Wf P) (hR : RC P S) (h : z < 0 ∨ (pN P : Int) < z) (h1 : -2147483648 ≤ z) (h2 : z < 2147483648) : f_X4_isPlace (iv z) S = some (iv 0, S) := by
  have c1 := hR.1
  have q1 := hw.1
  unfold f_X4_isPlace
  rcases h with h | h
  · simp (disch := omega) only [nxt_e, bnd_s, chk_T, chk_nF, ↓reduceIte, i_0, i_1, i_2, i_3, i_4, i_5, i_6, i_8, i_9, i_10, i_15, i_19, i_20, i_30, i_31, i_40, i_60, i_100, i_200, i_1000, i_20000, iv_neg, iv_add, iv_sub, iv_mul, iv_lt, iv_le, iv_eq, iv_cl, iv_in, ltT, ltF, leT, leF, eqT, eqF, gI_e, gI_n, gI_sA, gI_sL, gI_sB, gL_e, gL_n, gL_sI, gL_sA, gL_sB, gA_e, gA_n, gA_sI, gA_sL, gA_sB, gB_e, gB_n, gB_sI, gB_sL, gB_sA, up_e, up_n, uL_e, uL_n, c1]
  · simp (disch := omega) only [nxt_e, bnd_s, chk_T, chk_nF, ↓reduceIte, i_0, i_1, i_2, i_3, i_4, i_5, i_6, i_8, i_9, i_10, i_15, i_19, i_20, i_30, i_31, i_40, i_60, i_100, i_200, i_1000, i_20000, iv_neg, iv_add, iv_sub, iv_mul, iv_lt, iv_le, iv_eq, iv_cl, iv_in, ltT, ltF, leT, leF, eqT, eqF, gI_e, gI_n, gI_sA, gI_sL, gI_sB, gL_e, gL_n, gL_sI, gL_sA, gL_sB, gA_e, gA_n, gA_sI, gA_sL, gA_sB, gB_e, gB_n, gB_sI, gB_sL, gB_sA, up_e, up_n, uL_e, uL_n, c1]
theorem Inv_lv {Z : Zt} {SC SM : St} {f g : Nat → Int32} (hI : Inv Z SC SM) (hg : ∀ p : Nat, p ≤ pN Z.1 → g p = iv (LV Z.1 p)) : Inv Z (sA SC 10 f) (sA SM 13 g) := by
  obtain ⟨w1, w2, w3, w4, w5⟩ := hI
  refine ⟨w1, RC_sA (by decide) (by decide) w2, RM_sA (by decide) w3, RCK_sA w4, ?_⟩
  rcases w5 with ⟨a, b, c⟩ | ⟨a, b, c, d, e, h⟩
  · exact Or.inl ⟨a, b, c⟩
  · refine Or.inr ⟨a, b, c, d, RCL_sA (by decide) e, ?_⟩
    obtain ⟨h1, h2, h3, h4, h5, h6, h7⟩ := h
    refine ⟨?_, ?_, ?_, ?_, h5, h6, ?_⟩
    · rw [gA_n (by decide)]; exact h1
    · intro p i c m hp hi
      rw [gA_n (by decide)]
      exact h2 p i c m hp hi
    · rw [gA_n (by decide)]; exact h3
    · rw [gA_n (by decide)]; exact h4
    · rw [gA_e]; exact hg
theorem sm_live (a : Int32) : Sm (f_X4_live a) (f_X5_live a) := by
  intro Z SC SM hI
  obtain ⟨a, rfl, ha1, ha2⟩ := iv_ex a
  have hI2 := hI
  obtain ⟨w1, w2, w3, w4, w5⟩ := hI
  have q1 := w1.1
  have m1 := w3.1
  by_cases h : 0 ≤ a ∧ a ≤ pN Z.1
  · obtain ⟨p, rfl⟩ := Int.eq_ofNat_of_zero_le h.1
    obtain ⟨f, f1, f2⟩ := e_mark w1 w2
    obtain ⟨g, g1, g2⟩ := e_liven w1 (RM_sI (v := iv 0) (k := 0) (by decide) w3)
    refine ⟨iv (LV Z.1 p), sA SC 10 f, sA (sI SM 0 (iv 0)) 13 g, Z, ?_, ?_, Inv_lv (Inv_thr _ hI2) g2⟩
    · unfold f_X4_live
      rw [isPl_t w1 w2 h.1 h.2, bnd_s]
      simp (disch := omega) only [nxt_e, bnd_s, chk_T, chk_nF, ↓reduceIte, i_0, i_1, i_2, i_3, i_4, i_5, i_6, i_8, i_9, i_10, i_15, i_19, i_20, i_30, i_31, i_40, i_60, i_100, i_200, i_1000, i_20000, iv_neg, iv_add, iv_sub, iv_mul, iv_lt, iv_le, iv_eq, iv_cl, iv_in, ltT, ltF, leT, leF, eqT, eqF, gI_e, gI_n, gI_sA, gI_sL, gI_sB, gL_e, gL_n, gL_sI, gL_sA, gL_sB, gA_e, gA_n, gA_sI, gA_sL, gA_sB, gB_e, gB_n, gB_sI, gB_sL, gB_sA, up_e, up_n, uL_e, uL_n, f1]
      rw [e_lAt (by omega), bnd_s, gA_e, f2 p (by omega)]
    · unfold f_X5_live
      simp (disch := omega) only [nxt_e, bnd_s, chk_T, chk_nF, ↓reduceIte, i_0, i_1, i_2, i_3, i_4, i_5, i_6, i_8, i_9, i_10, i_15, i_19, i_20, i_30, i_31, i_40, i_60, i_100, i_200, i_1000, i_20000, iv_neg, iv_add, iv_sub, iv_mul, iv_lt, iv_le, iv_eq, iv_cl, iv_in, ltT, ltF, leT, leF, eqT, eqF, gI_e, gI_n, gI_sA, gI_sL, gI_sB, gL_e, gL_n, gL_sI, gL_sA, gL_sB, gA_e, gA_n, gA_sI, gA_sL, gA_sB, gB_e, gB_n, gB_sI, gB_sL, gB_sA, up_e, up_n, uL_e, uL_n, m1, isIn_t, g1, Int.toNat_natCast, g2]
  · refine ⟨iv (-1), SC, sI SM 0 (iv 0), Z, ?_, ?_, Inv_thr _ hI2⟩
    · unfold f_X4_live
      rw [isPl_f w1 w2 (by omega) ha1 ha2]
      simp (disch := omega) only [nxt_e, bnd_s, chk_T, chk_nF, ↓reduceIte, i_0, i_1, i_2, i_3, i_4, i_5, i_6, i_8, i_9, i_10, i_15, i_19, i_20, i_30, i_31, i_40, i_60, i_100, i_200, i_1000, i_20000, iv_neg, iv_add, iv_sub, iv_mul, iv_lt, iv_le, iv_eq, iv_cl, iv_in, ltT, ltF, leT, leF, eqT, eqF, gI_e, gI_n, gI_sA, gI_sL, gI_sB, gL_e, gL_n, gL_sI, gL_sA, gL_sB, gA_e, gA_n, gA_sI, gA_sL, gA_sB, gB_e, gB_n, gB_sI, gB_sL, gB_sA, up_e, up_n, uL_e, uL_n]
    · unfold f_X5_live
      simp (disch := omega) only [nxt_e, bnd_s, chk_T, chk_nF, ↓reduceIte, i_0, i_1, i_2, i_3, i_4, i_5, i_6, i_8, i_9, i_10, i_15, i_19, i_20, i_30, i_31, i_40, i_60, i_100, i_200, i_1000, i_20000, iv_neg, iv_add, iv_sub, iv_mul, iv_lt, iv_le, iv_eq, iv_cl, iv_in, ltT, ltF, leT, leF, eqT, eqF, gI_e, gI_n, gI_sA, gI_sL, gI_sB, gL_e, gL_n, gL_sI, gL_sA, gL_sB, gA_e, gA_n, gA_sI, gA_sL, gA_sB, gB_e, gB_n, gB_sI, gB_sL, gB_sA, up_e, up_n, uL_e, uL_n, m1, isIn_f]
