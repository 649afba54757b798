/-! ===== live sets ===== -/
theorem sA_self (S : St) (k : Nat) : sA S k (gA S k) = S := by
  unfold sA gA
  have : (fun j => if j = k then S.2.2.1 k else S.2.2.1 j) = S.2.2.1 := by
    funext j
    by_cases e : j = k
    · rw [if_pos e, e]
    · rw [if_neg e]
  rw [this]
theorem b_andn : ∀ x : Nat, x < 64 → ∀ g : Nat, g < 6 → iv (x : Int) &&& (iv ((2 ^ g : Nat) : Int) ^^^ iv (-1)) = iv ((x &&& (63 ^^^ 2 ^ g) : Nat) : Int) := by decide +kernel
theorem tb_lt {t : Nat} (h : isTm t) : tb t < 64 := by
  unfold tb
  split
  · exact Nat.lt_of_le_of_lt (Nat.pow_le_pow_right (by decide) (show t ≤ 5 by omega)) (by decide)
  · decide
theorem or64 {a b : Nat} (ha : a < 64) (hb : b < 64) : a ||| b < 64 := Nat.or_lt_two_pow (n := 6) ha hb
theorem and64 {a b : Nat} (ha : a < 64) : a &&& b < 64 := Nat.lt_of_le_of_lt Nat.and_le_left ha
theorem p264 {g : Nat} (h : g ≤ 5) : 2 ^ g < 64 := Nat.lt_of_le_of_lt (Nat.pow_le_pow_right (by decide) h) (by decide)
theorem lvs_lt {P : Pr} {f : Nat → Nat} {k : Nat} (hw : Wf P) (hf : ∀ j, f j < 64) : lvs P f k < 64 := by
  obtain ⟨z1, z2, z3, z4, z5⟩ := hw.2.1 k
  unfold lvs
  split
  · exact and64 (hf _)
  split
  · split
    · exact or64 (or64 (or64 (hf _) (p264 z2)) (tb_lt z3)) (tb_lt z4)
    · exact or64 (or64 (and64 (hf _)) (tb_lt z3)) (tb_lt z4)
  split
  · exact or64 (or64 (hf _) (hf _)) (tb_lt z3)
  · exact or64 (or64 (hf _) (tb_lt z3)) (tb_lt z4)
theorem LVF_lt {P : Pr} (hw : Wf P) : ∀ j k, LVF P j k < 64
  | 0, k => qb_lt hw.2.2.2.2.2.2.2
  | j + 1, k => by
    unfold LVF
    show (if k = pN P - 1 - j then lvs P (LVF P j) k else LVF P j k) < 64
    split
    · exact lvs_lt hw (LVF_lt hw j)
    · exact LVF_lt hw j k
theorem LV_lt {P : Pr} (hw : Wf P) (k : Nat) : LV P k < 64 := LVF_lt hw _ k
theorem e_bit {t : Nat} {S : St} (ht : isTm t) : f_X5_bit (iv (t : Int)) S = some (iv (tb t), S) := by
  unfold f_X5_bit tb
  unfold isTm at ht
  by_cases h : t < 6
  · simp (disch := omega) only [nxt_e, bnd_s, chk_T, chk_nF, ↓reduceIte, i_0, i_1, i_2, i_3, i_4, i_5, i_6, i_8, i_9, i_10, i_15, i_19, i_20, i_30, i_31, i_40, i_60, i_100, i_200, i_1000, i_20000, iv_neg, iv_add, iv_sub, iv_mul, iv_lt, iv_le, iv_eq, iv_cl, iv_in, ltT, ltF, leT, leF, eqT, eqF, gI_e, gI_n, gI_sA, gI_sL, gI_sB, gL_e, gL_n, gL_sI, gL_sA, gL_sB, gA_e, gA_n, gA_sI, gA_sL, gA_sB, gB_e, gB_n, gB_sI, gB_sL, gB_sA, up_e, up_n, uL_e, uL_n]
    rw [b_shl1 t h, if_pos h]
  · simp (disch := omega) only [nxt_e, bnd_s, chk_T, chk_nF, ↓reduceIte, i_0, i_1, i_2, i_3, i_4, i_5, i_6, i_8, i_9, i_10, i_15, i_19, i_20, i_30, i_31, i_40, i_60, i_100, i_200, i_1000, i_20000, iv_neg, iv_add, iv_sub, iv_mul, iv_lt, iv_le, iv_eq, iv_cl, iv_in, ltT, ltF, leT, leF, eqT, eqF, gI_e, gI_n, gI_sA, gI_sL, gI_sB, gL_e, gL_n, gL_sI, gL_sA, gL_sB, gA_e, gA_n, gA_sI, gA_sL, gA_sB, gB_e, gB_n, gB_sI, gB_sL, gB_sA, up_e, up_n, uL_e, uL_n]
    rw [if_neg h]
    rfl
theorem e_vOf {t : Nat} {S : St} (ht : isTm t) : f_X2_variableOf (iv (t : Int)) S = some (iv (tb t), S) := by
  unfold f_X2_variableOf tb
  unfold isTm at ht
  by_cases h : t < 6
  · simp (disch := omega) only [nxt_e, bnd_s, chk_T, chk_nF, ↓reduceIte, i_0, i_1, i_2, i_3, i_4, i_5, i_6, i_8, i_9, i_10, i_15, i_19, i_20, i_30, i_31, i_40, i_60, i_100, i_200, i_1000, i_20000, iv_neg, iv_add, iv_sub, iv_mul, iv_lt, iv_le, iv_eq, iv_cl, iv_in, ltT, ltF, leT, leF, eqT, eqF, gI_e, gI_n, gI_sA, gI_sL, gI_sB, gL_e, gL_n, gL_sI, gL_sA, gL_sB, gA_e, gA_n, gA_sI, gA_sL, gA_sB, gB_e, gB_n, gB_sI, gB_sL, gB_sA, up_e, up_n, uL_e, uL_n, isVar_t]
    rw [b_shl1 t h, if_pos h]
  · simp (disch := omega) only [nxt_e, bnd_s, chk_T, chk_nF, ↓reduceIte, i_0, i_1, i_2, i_3, i_4, i_5, i_6, i_8, i_9, i_10, i_15, i_19, i_20, i_30, i_31, i_40, i_60, i_100, i_200, i_1000, i_20000, iv_neg, iv_add, iv_sub, iv_mul, iv_lt, iv_le, iv_eq, iv_cl, iv_in, ltT, ltF, leT, leF, eqT, eqF, gI_e, gI_n, gI_sA, gI_sL, gI_sB, gL_e, gL_n, gL_sI, gL_sA, gL_sB, gA_e, gA_n, gA_sI, gA_sL, gA_sB, gB_e, gB_n, gB_sI, gB_sL, gB_sA, up_e, up_n, uL_e, uL_n, isVar_f]
    rw [if_neg h]
    rfl
theorem e_pas {P : Pr} {S : St} {k : Nat} (hw : Wf P) (hR : RM P S) (hk : k < pN P) : f_X5_passed (iv (k : Int)) S = some (iv (psd P k), S) := by
  obtain ⟨m1, m2, m3, m4, m5, m6, m7, m8, m9, m10⟩ := hR
  have q1 := hw.1
  have q4 := hw.2.2.2.1 k
  unfold f_X5_passed psd
  by_cases h : k + 1 + pE P k ≤ pN P
  · simp (disch := omega) only [nxt_e, bnd_s, chk_T, chk_nF, ↓reduceIte, i_0, i_1, i_2, i_3, i_4, i_5, i_6, i_8, i_9, i_10, i_15, i_19, i_20, i_30, i_31, i_40, i_60, i_100, i_200, i_1000, i_20000, iv_neg, iv_add, iv_sub, iv_mul, iv_lt, iv_le, iv_eq, iv_cl, iv_in, ltT, ltF, leT, leF, eqT, eqF, gI_e, gI_n, gI_sA, gI_sL, gI_sB, gL_e, gL_n, gL_sI, gL_sA, gL_sB, gA_e, gA_n, gA_sI, gA_sL, gA_sB, gB_e, gB_n, gB_sI, gB_sL, gB_sA, up_e, up_n, uL_e, uL_n, m1, m6, Int.toNat_natCast]
    rw [if_pos h]
    rfl
  · simp (disch := omega) only [nxt_e, bnd_s, chk_T, chk_nF, ↓reduceIte, i_0, i_1, i_2, i_3, i_4, i_5, i_6, i_8, i_9, i_10, i_15, i_19, i_20, i_30, i_31, i_40, i_60, i_100, i_200, i_1000, i_20000, iv_neg, iv_add, iv_sub, iv_mul, iv_lt, iv_le, iv_eq, iv_cl, iv_in, ltT, ltF, leT, leF, eqT, eqF, gI_e, gI_n, gI_sA, gI_sL, gI_sB, gL_e, gL_n, gL_sI, gL_sA, gL_sB, gA_e, gA_n, gA_sI, gA_sL, gA_sB, gB_e, gB_n, gB_sI, gB_sL, gB_sA, up_e, up_n, uL_e, uL_n, m1, m6, Int.toNat_natCast]
    rw [if_neg h]
theorem e_skp {P : Pr} {S : St} {k : Nat} (hw : Wf P) (hR : RC P S) (hk : k < pN P) : f_X2_placeSkippedTo (iv (k : Int)) S = some (iv (psd P k), S) := by
  obtain ⟨c1, c2, c3, c4, c5, c6, c7, c8, c9, c10⟩ := hR
  have q1 := hw.1
  have q4 := hw.2.2.2.1 k
  unfold f_X2_placeSkippedTo psd
  by_cases h : k + 1 + pE P k ≤ pN P
  · simp (disch := omega) only [nxt_e, bnd_s, chk_T, chk_nF, ↓reduceIte, i_0, i_1, i_2, i_3, i_4, i_5, i_6, i_8, i_9, i_10, i_15, i_19, i_20, i_30, i_31, i_40, i_60, i_100, i_200, i_1000, i_20000, iv_neg, iv_add, iv_sub, iv_mul, iv_lt, iv_le, iv_eq, iv_cl, iv_in, ltT, ltF, leT, leF, eqT, eqF, gI_e, gI_n, gI_sA, gI_sL, gI_sB, gL_e, gL_n, gL_sI, gL_sA, gL_sB, gA_e, gA_n, gA_sI, gA_sL, gA_sB, gB_e, gB_n, gB_sI, gB_sL, gB_sA, up_e, up_n, uL_e, uL_n, c1, c6, Int.toNat_natCast]
    rw [if_pos h]
    rfl
  · simp (disch := omega) only [nxt_e, bnd_s, chk_T, chk_nF, ↓reduceIte, i_0, i_1, i_2, i_3, i_4, i_5, i_6, i_8, i_9, i_10, i_15, i_19, i_20, i_30, i_31, i_40, i_60, i_100, i_200, i_1000, i_20000, iv_neg, iv_add, iv_sub, iv_mul, iv_lt, iv_le, iv_eq, iv_cl, iv_in, ltT, ltF, leT, leF, eqT, eqF, gI_e, gI_n, gI_sA, gI_sL, gI_sB, gL_e, gL_n, gL_sI, gL_sA, gL_sB, gA_e, gA_n, gA_sI, gA_sL, gA_sB, gB_e, gB_n, gB_sI, gB_sL, gB_sA, up_e, up_n, uL_e, uL_n, c1, c6, Int.toNat_natCast]
    rw [if_neg h]
theorem psd_b {P : Pr} {k : Nat} (hk : k < pN P) : k < psd P k ∧ psd P k ≤ pN P := by
  unfold psd
  split <;> omega
theorem lvM {P : Pr} (hw : Wf P) : ∀ (r fuel : Nat) (S : St), r ≤ pN P → r < fuel → RM P S → (∀ p : Nat, r ≤ p → p ≤ pN P → gA S 13 p = iv (LVF P (pN P - r) p)) → ∃ f, lp_X5_liven_59 fuel (iv ((r : Int) - 1)) S = some ((), sA S 13 f) ∧ ∀ p : Nat, p ≤ pN P → f p = iv (LV P p) := by
  intro r
  induction r with
  | zero =>
    intro fuel S hr hf hR hL
    obtain ⟨n, rfl⟩ : ∃ k, fuel = k + 1 := ⟨fuel - 1, by omega⟩
    refine ⟨gA S 13, ?_, fun p hp => hL p (Nat.zero_le p) hp⟩
    rw [lp_X5_liven_59, sA_self]
    simp (disch := omega) only [nxt_e, bnd_s, chk_T, chk_nF, ↓reduceIte, i_0, i_1, i_2, i_3, i_4, i_5, i_6, i_8, i_9, i_10, i_15, i_19, i_20, i_30, i_31, i_40, i_60, i_100, i_200, i_1000, i_20000, iv_neg, iv_add, iv_sub, iv_mul, iv_lt, iv_le, iv_eq, iv_cl, iv_in, ltT, ltF, leT, leF, eqT, eqF, gI_e, gI_n, gI_sA, gI_sL, gI_sB, gL_e, gL_n, gL_sI, gL_sA, gL_sB, gA_e, gA_n, gA_sI, gA_sL, gA_sB, gB_e, gB_n, gB_sI, gB_sL, gB_sA, up_e, up_n, uL_e, uL_n]
  | succ r ih =>
    intro fuel S hr hf hR hL
    obtain ⟨n, rfl⟩ : ∃ k, fuel = k + 1 := ⟨fuel - 1, by omega⟩
    have hR2 := hR
    obtain ⟨m1, m2, m3, m4, m5, m6, m7, m8, m9, m10⟩ := hR
    obtain ⟨z1, z2, z3, z4, z5⟩ := hw.2.1 r
    have q1 := hw.1
    have q4 := hw.2.2.2.1 r
    have hps := psd_b (P := P) (k := r) (by omega)
    have e1 := hL (r + 1) (by omega) (by omega)
    have e2 := hL (psd P r) (by omega) (by omega)
    have l1 := LVF_lt hw (pN P - (r + 1)) (r + 1)
    have step : ∀ X : Nat, X = lvs P (LVF P (pN P - (r + 1))) r → ∃ f, lp_X5_liven_59 n (iv ((r : Int) - 1)) (sA S 13 (upd (gA S 13) r (iv (X : Int)))) = some ((), sA S 13 f) ∧ ∀ p : Nat, p ≤ pN P → f p = iv (LV P p) := by
      intro X hX
      obtain ⟨f, f1, f2⟩ := ih n (sA S 13 (upd (gA S 13) r (iv (X : Int)))) (by omega) (by omega) (RM_sA (by decide) hR2) (fun p h1 h2 => by
        rw [gA_e, show pN P - r = (pN P - (r + 1)) + 1 by omega]
        show _ = iv (((if p = pN P - 1 - (pN P - (r + 1)) then lvs P (LVF P (pN P - (r + 1))) p else LVF P (pN P - (r + 1)) p : Nat)) : Int)
        by_cases e : p = r
        · rw [up_e e, if_pos (by omega), hX, e]
        · rw [up_n e, if_neg (by omega), hL p (by omega) h2])
      rw [sA_sA] at f1
      exact ⟨f, f1, f2⟩
    rw [show (((r + 1 : Nat) : Int) - 1) = r by omega, lp_X5_liven_59]
    have g : ∀ S' : St, f_X5_bit (iv (pA P r)) S' = some (iv (tb (pA P r)), S') := fun S' => e_bit z3
    have g' : ∀ S' : St, f_X5_bit (iv (pB P r)) S' = some (iv (tb (pB P r)), S') := fun S' => e_bit z4
    have gp : f_X5_passed (iv (r : Int)) S = some (iv (psd P r), S) := e_pas hw hR2 (by omega)
    have sh := b_shl1 (pG P r) (by omega)
    have an := b_andn _ l1 (pG P r) (by omega)
    have tn1 : ((r : Int) + 1).toNat = r + 1 := by omega
    by_cases k0 : pK P r = 0
    · simp (disch := omega) only [nxt_e, bnd_s, chk_T, chk_nF, ↓reduceIte, i_0, i_1, i_2, i_3, i_4, i_5, i_6, i_8, i_9, i_10, i_15, i_19, i_20, i_30, i_31, i_40, i_60, i_100, i_200, i_1000, i_20000, iv_neg, iv_add, iv_sub, iv_mul, iv_lt, iv_le, iv_eq, iv_cl, iv_in, ltT, ltF, leT, leF, eqT, eqF, gI_e, gI_n, gI_sA, gI_sL, gI_sB, gL_e, gL_n, gL_sI, gL_sA, gL_sB, gA_e, gA_n, gA_sI, gA_sL, gA_sB, gB_e, gB_n, gB_sI, gB_sL, gB_sA, up_e, up_n, uL_e, uL_n, m4, m5, Int.toNat_natCast, tn1, e1, sh, an]
      exact step _ (by unfold lvs; rw [if_pos k0])
    · by_cases k1 : pK P r = 1
      · by_cases k6 : pE P r = 6
        · simp (disch := omega) only [nxt_e, bnd_s, chk_T, chk_nF, ↓reduceIte, i_0, i_1, i_2, i_3, i_4, i_5, i_6, i_8, i_9, i_10, i_15, i_19, i_20, i_30, i_31, i_40, i_60, i_100, i_200, i_1000, i_20000, iv_neg, iv_add, iv_sub, iv_mul, iv_lt, iv_le, iv_eq, iv_cl, iv_in, ltT, ltF, leT, leF, eqT, eqF, gI_e, gI_n, gI_sA, gI_sL, gI_sB, gL_e, gL_n, gL_sI, gL_sA, gL_sB, gA_e, gA_n, gA_sI, gA_sL, gA_sB, gB_e, gB_n, gB_sI, gB_sL, gB_sA, up_e, up_n, uL_e, uL_n, m4, m5, m6, m7, m8, Int.toNat_natCast, tn1, e1, sh, g, g', nO]
          exact step _ (by unfold lvs; rw [if_neg k0, if_pos k1, if_pos k6])
        · simp (disch := omega) only [nxt_e, bnd_s, chk_T, chk_nF, ↓reduceIte, i_0, i_1, i_2, i_3, i_4, i_5, i_6, i_8, i_9, i_10, i_15, i_19, i_20, i_30, i_31, i_40, i_60, i_100, i_200, i_1000, i_20000, iv_neg, iv_add, iv_sub, iv_mul, iv_lt, iv_le, iv_eq, iv_cl, iv_in, ltT, ltF, leT, leF, eqT, eqF, gI_e, gI_n, gI_sA, gI_sL, gI_sB, gL_e, gL_n, gL_sI, gL_sA, gL_sB, gA_e, gA_n, gA_sI, gA_sL, gA_sB, gB_e, gB_n, gB_sI, gB_sL, gB_sA, up_e, up_n, uL_e, uL_n, m4, m5, m6, m7, m8, Int.toNat_natCast, tn1, e1, sh, an, g, g', nO]
          exact step _ (by unfold lvs; rw [if_neg k0, if_pos k1, if_neg k6])
      · by_cases k4 : pK P r = 4
        · simp (disch := omega) only [nxt_e, bnd_s, chk_T, chk_nF, ↓reduceIte, i_0, i_1, i_2, i_3, i_4, i_5, i_6, i_8, i_9, i_10, i_15, i_19, i_20, i_30, i_31, i_40, i_60, i_100, i_200, i_1000, i_20000, iv_neg, iv_add, iv_sub, iv_mul, iv_lt, iv_le, iv_eq, iv_cl, iv_in, ltT, ltF, leT, leF, eqT, eqF, gI_e, gI_n, gI_sA, gI_sL, gI_sB, gL_e, gL_n, gL_sI, gL_sA, gL_sB, gA_e, gA_n, gA_sI, gA_sL, gA_sB, gB_e, gB_n, gB_sI, gB_sL, gB_sA, up_e, up_n, uL_e, uL_n, m4, m5, m6, m7, m8, Int.toNat_natCast, tn1, e1, g, gp, e2, nO]
          exact step _ (by unfold lvs; rw [if_neg k0, if_neg k1, if_pos k4])
        · by_cases k2 : pK P r = 2
          · simp (disch := omega) only [nxt_e, bnd_s, chk_T, chk_nF, ↓reduceIte, i_0, i_1, i_2, i_3, i_4, i_5, i_6, i_8, i_9, i_10, i_15, i_19, i_20, i_30, i_31, i_40, i_60, i_100, i_200, i_1000, i_20000, iv_neg, iv_add, iv_sub, iv_mul, iv_lt, iv_le, iv_eq, iv_cl, iv_in, ltT, ltF, leT, leF, eqT, eqF, gI_e, gI_n, gI_sA, gI_sL, gI_sB, gL_e, gL_n, gL_sI, gL_sA, gL_sB, gA_e, gA_n, gA_sI, gA_sL, gA_sB, gB_e, gB_n, gB_sI, gB_sL, gB_sA, up_e, up_n, uL_e, uL_n, m4, m5, m6, m7, m8, Int.toNat_natCast, tn1, e1, g, g', nO]
            exact step _ (by unfold lvs; rw [if_neg k0, if_neg k1, if_neg k4])
          · simp (disch := omega) only [nxt_e, bnd_s, chk_T, chk_nF, ↓reduceIte, i_0, i_1, i_2, i_3, i_4, i_5, i_6, i_8, i_9, i_10, i_15, i_19, i_20, i_30, i_31, i_40, i_60, i_100, i_200, i_1000, i_20000, iv_neg, iv_add, iv_sub, iv_mul, iv_lt, iv_le, iv_eq, iv_cl, iv_in, ltT, ltF, leT, leF, eqT, eqF, gI_e, gI_n, gI_sA, gI_sL, gI_sB, gL_e, gL_n, gL_sI, gL_sA, gL_sB, gA_e, gA_n, gA_sI, gA_sL, gA_sB, gB_e, gB_n, gB_sI, gB_sL, gB_sA, up_e, up_n, uL_e, uL_n, m4, m5, m6, m7, m8, Int.toNat_natCast, tn1, e1, g, g', nO]
            exact step _ (by unfold lvs; rw [if_neg k0, if_neg k1, if_neg k4])
