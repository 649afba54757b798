/-! ===== odds ===== -/
/-- turns enough for Euclid's steps -/
def fbp : Nat → Nat × Nat
  | 0 => (1, 2)
  | n + 1 => ((fbp n).2, (fbp n).1 + (fbp n).2)
def fb (n : Nat) : Nat := (fbp n).1
theorem fb_2 (n : Nat) : fb (n + 2) = fb n + fb (n + 1) := rfl
theorem fb_mono : ∀ n, fb n ≤ fb (n + 1) ∧ 1 ≤ fb n
  | 0 => by decide
  | 1 => by decide
  | n + 2 => by
    have h1 := fb_mono n
    have h2 := fb_mono (n + 1)
    rw [fb_2, show n + 2 + 1 = (n + 1) + 2 from rfl, fb_2]
    rw [show n + 1 + 1 = n + 2 from rfl, fb_2] at h2 ⊢
    omega
theorem fb_98 : 122444006400000000 < fb 98 := by decide
theorem lg_eq (z : Int) (h1 : 0 ≤ z) (h2 : z < 9223372036854775808) : (lg_cmp (jv z) 0 = 0) ↔ z = 0 := by
  unfold lg_cmp
  rw [j_0]
  by_cases h : z = 0
  · subst h
    simp (config := { decide := true })
  · rw [if_pos (show jv z > jv 0 from (jv_lt (by omega) (by omega) (by omega) (by omega)).mpr (by omega))]
    constructor
    · intro q; exact absurd q (by decide)
    · intro q; exact absurd q h
theorem lg_gt (z : Int) (h1 : 0 < z) (h2 : z < 9223372036854775808) : 0 < lg_cmp (jv z) 0 := by
  unfold lg_cmp
  rw [j_0, if_pos (show jv z > jv 0 from (jv_lt (by omega) (by omega) (by omega) (by omega)).mpr (by omega))]
  decide
theorem jv_rem {a b : Nat} (ha : a < 9223372036854775808) (hb : 0 < b) (hb2 : b < 9223372036854775808) : jv (a : Int) - jv (a : Int) / jv (b : Int) * jv (b : Int) = jv ((a % b : Nat) : Int) := by
  rw [jv_div (by omega) (by omega) (by omega) (by omega), jv_mul, jv_sub]
  congr 1
  have h1 : (a : Int) / (b : Int) = ((a / b : Nat) : Int) := by rw [Int.natCast_ediv]
  have h2 := Nat.div_add_mod a b
  rw [h1, show ((a / b : Nat) : Int) * (b : Int) = ((b * (a / b) : Nat) : Int) by rw [Int.natCast_mul, Int.mul_comm]]
  omega
theorem gcd_st (a b : Nat) : Nat.gcd a b = Nat.gcd b (a % b) := by
  rw [Nat.gcd_comm, Nat.gcd_rec, Nat.gcd_comm]
theorem jv_ne0 {b : Nat} (hb : 0 < b) (hb2 : b < 9223372036854775808) : decide (¬ jv (b : Int) = 0) = true := by
  rw [decide_eq_true_eq, j_0, jv_eq (by omega) (by omega) (by omega) (by omega)]
  omega
theorem cd_0 {S : St} {a t n : Nat} (ht : t ≤ 100) : lp_X4_commonDivisor_9 (n + 1) (jv a) (jv (0 : Nat)) (iv (t : Int)) S = some (jv a, S) := by
  rw [lp_X4_commonDivisor_9]
  split
  · rfl
  · rw [if_pos ((lg_eq ((0 : Nat) : Int) (by omega) (by omega)).mpr rfl)]
theorem cd_s {S : St} {a b t n : Nat} (ht : t < 100) (ha : a < 9223372036854775808) (hb : 0 < b) (hb2 : b < 9223372036854775808) : lp_X4_commonDivisor_9 (n + 1) (jv a) (jv b) (iv (t : Int)) S = lp_X4_commonDivisor_9 n (jv b) (jv ((a % b : Nat) : Int)) (iv ((t + 1 : Nat) : Int)) S := by
  rw [lp_X4_commonDivisor_9, i_100, if_neg (by rw [iv_le (by omega) (by omega) (by omega) (by omega)]; omega), if_neg (by rw [lg_eq _ (by omega) (by omega)]; omega), chk_t (jv_ne0 hb hb2), nxt_e, jv_rem ha hb hb2, i_1, iv_add]
  rfl
theorem cd_loop {S : St} : ∀ (r a b t n : Nat), b < a → b < fb r → a < 9223372036854775808 → t + r = 100 → r < n → lp_X4_commonDivisor_9 n (jv a) (jv b) (iv (t : Int)) S = some (jv (Nat.gcd a b), S) := by
  intro r
  induction r using Nat.strongRecOn with
  | _ r ih =>
    intro a b t n h1 h2 h3 h4 h5
    obtain ⟨n, rfl⟩ : ∃ k, n = k + 1 := ⟨n - 1, by omega⟩
    by_cases hb : b = 0
    · subst hb
      rw [cd_0 (by omega), Nat.gcd_zero_right]
    · have hr : r ≠ 0 := fun z => by subst z; have h2 : b < 1 := h2; omega
      have hm := Nat.mod_lt a (show 0 < b by omega)
      rw [cd_s (by omega) h3 (by omega) (by omega), gcd_st]
      obtain ⟨r, rfl⟩ : ∃ k, r = k + 1 := ⟨r - 1, by omega⟩
      by_cases hc : a % b < fb r
      · exact ih r (by omega) b (a % b) (t + 1) n hm hc (by omega) (by omega) (by omega)
      · have hfb := (fb_mono r).2
        have hr2 : r ≠ 0 := fun z => by
          subst z
          have h2 : b < 2 := h2
          have : fb 0 = 1 := rfl
          omega
        obtain ⟨r, rfl⟩ : ∃ k, r = k + 1 := ⟨r - 1, by omega⟩
        obtain ⟨n, rfl⟩ : ∃ k, n = k + 1 := ⟨n - 1, by omega⟩
        have hm2 := Nat.mod_lt b (show 0 < a % b by omega)
        have hle : b % (a % b) ≤ b - a % b := by
          rw [Nat.mod_eq_sub_mod (by omega)]
          exact Nat.mod_le _ _
        rw [fb_2] at h2
        rw [cd_s (by omega) (by omega) (by omega) (by omega), gcd_st]
        exact ih r (by omega) (a % b) (b % (a % b)) (t + 1 + 1) n hm2 (by omega) (by omega) (by omega) (by omega)
theorem e_cd {S : St} {u lo : Nat} (h : u ≤ lo) (hl : 0 < lo) (hb : lo ≤ 122444006400000000) : f_X4_commonDivisor (jv u) (jv lo) S = some (jv (Nat.gcd u lo), S) := by
  unfold f_X4_commonDivisor
  have hF := fb_98
  have h99 : fb 98 ≤ fb 99 := (fb_mono 98).1
  rw [i_0, ← i0n, FU_s, cd_s (by omega) (by omega) hl (by omega), gcd_st]
  have hm := Nat.mod_lt u hl
  exact cd_loop 99 lo (u % lo) (0 + 1) 3999999999 hm (by omega) (by omega) (by omega) (by omega)
theorem om_s {S : St} {x3 : Int32} {x4 x6 : Int64} {a b n : Nat} (ha : a < 9223372036854775808) (hb : 0 < b) (hb2 : b < 9223372036854775808) : lp_X5_odds_112 x3 x4 x6 (n + 1) (jv a) (jv b) S = lp_X5_odds_112 x3 x4 x6 n (jv b) (jv ((a % b : Nat) : Int)) S := by
  rw [lp_X5_odds_112, if_neg (by rw [lg_eq _ (by omega) (by omega)]; omega), chk_t (jv_ne0 hb hb2), nxt_e, jv_rem ha hb hb2]
theorem om_loop {S : St} {x3 : Int32} {x4 x6 : Int64} : ∀ (r a b n : Nat), b < a → b < fb r → a < 9223372036854775808 → r < n → lp_X5_odds_112 x3 x4 x6 n (jv a) (jv b) S = some (if x3 = 0 then x6 / jv (Nat.gcd a b) else x4 / jv (Nat.gcd a b), S) := by
  intro r
  induction r using Nat.strongRecOn with
  | _ r ih =>
    intro a b n h1 h2 h3 h5
    obtain ⟨n, rfl⟩ : ∃ k, n = k + 1 := ⟨n - 1, by omega⟩
    by_cases hb : b = 0
    · subst hb
      rw [lp_X5_odds_112, if_pos ((lg_eq ((0 : Nat) : Int) (by omega) (by omega)).mpr rfl), Nat.gcd_zero_right, chk_t (jv_ne0 (by omega) (by omega)), chk_t (jv_ne0 (by omega) (by omega))]
      split <;> rfl
    · have hr : r ≠ 0 := fun z => by subst z; have h2 : b < 1 := h2; omega
      have hm := Nat.mod_lt a (show 0 < b by omega)
      rw [om_s h3 (by omega) (by omega), gcd_st]
      obtain ⟨r, rfl⟩ : ∃ k, r = k + 1 := ⟨r - 1, by omega⟩
      by_cases hc : a % b < fb r
      · exact ih r (by omega) b (a % b) n hm hc (by omega) (by omega)
      · have hfb := (fb_mono r).2
        have hr2 : r ≠ 0 := fun z => by
          subst z
          have h2 : b < 2 := h2
          have : fb 0 = 1 := rfl
          omega
        obtain ⟨r, rfl⟩ : ∃ k, r = k + 1 := ⟨r - 1, by omega⟩
        obtain ⟨n, rfl⟩ : ∃ k, n = k + 1 := ⟨n - 1, by omega⟩
        have hm2 := Nat.mod_lt b (show 0 < a % b by omega)
        have hle : b % (a % b) ≤ b - a % b := by
          rw [Nat.mod_eq_sub_mod (by omega)]
          exact Nat.mod_le _ _
        rw [fb_2] at h2
        rw [om_s (by omega) (by omega) (by omega), gcd_st]
        exact ih r (by omega) (a % b) (b % (a % b)) n hm2 (by omega) (by omega) (by omega)
theorem e_om {S : St} {x3 : Int32} {u lo : Nat} (h : u ≤ lo) (hl : 0 < lo) (hb : lo ≤ 122444006400000000) : lp_X5_odds_112 x3 (jv lo) (jv u) FU (jv lo) (jv u) S = some (if x3 = 0 then jv u / jv (Nat.gcd u lo) else jv lo / jv (Nat.gcd u lo), S) := by
  have hF := fb_98
  have h99 : fb 98 ≤ fb 99 := (fb_mono 98).1
  rw [Nat.gcd_comm u lo]
  by_cases hu : u < lo
  · exact om_loop 98 lo u FU hu (by omega) (by omega) (by rw [FU_v]; omega)
  · have hu : u = lo := by omega
    subst hu
    rw [FU_s, om_s (by omega) hl (by omega), gcd_st]
    have hm := Nat.mod_lt u hl
    exact om_loop 99 u (u % u) 3999999999 hm (by omega) (by omega) (by omega)
theorem cd_00 {S : St} : f_X4_commonDivisor (jv (0 : Nat)) (jv (0 : Nat)) S = some (jv (0 : Nat), S) := by
  unfold f_X4_commonDivisor
  rw [i_0, ← i0n, FU_s, cd_0 (by omega)]
/-- where the class throws -/
def thr (a b c : Int32) (S : St) : Prop := ∃ u g : Int64, f_X4_isVariable a S = some (iv 1, S) ∧ f_X4_isValue b S = some (iv 1, S) ∧ ¬ c < 0 ∧ ¬ (1 : Int32) < c ∧ f_X2_isAsked a S = some (iv 1, S) ∧ gI S 108 = iv 1 ∧ f_X1_leastPlace S = some (-5, S) ∧ f_X1_total (gI S 208) a b S = some (u, S) ∧ f_X1_total (gI S 208) (-1) 0 S = some (0, S) ∧ f_X4_commonDivisor u 0 S = some (g, S)
theorem sm_odds (a b c : Int32) (Z : Zt) (SC SM : St) (hI : Inv Z SC SM) : ∃ (SM' : St), (∃ r : Int64, f_X4_odds a b c SC = some (r, SC) ∧ f_X5_odds a b c SM = some (r, SM') ∧ gI SM' 0 = iv 0 ∧ Inv Z SC SM') ∨ (thr a b c SC ∧ f_X5_odds a b c SM = some (0, SM') ∧ gI SM' 0 = iv 1 ∧ Inv Z SC SM') := by
  obtain ⟨a, rfl, ha1, ha2⟩ := iv_ex a
  obtain ⟨b, rfl, hb1, hb2⟩ := iv_ex b
  obtain ⟨c, rfl, hc1, hc2⟩ := iv_ex c
  have hI2 := hI
  obtain ⟨w1, w2, w3, w4, w5⟩ := hI
  have q1 := w1.1
  have fin : ∀ r : Int64, f_X4_odds (iv a) (iv b) (iv c) SC = some (r, SC) → f_X5_odds (iv a) (iv b) (iv c) SM = some (r, sI SM 0 (iv 0)) → ∃ (SM' : St), (∃ r : Int64, f_X4_odds (iv a) (iv b) (iv c) SC = some (r, SC) ∧ f_X5_odds (iv a) (iv b) (iv c) SM = some (r, SM') ∧ gI SM' 0 = iv 0 ∧ Inv Z SC SM') ∨ (thr (iv a) (iv b) (iv c) SC ∧ f_X5_odds (iv a) (iv b) (iv c) SM = some (0, SM') ∧ gI SM' 0 = iv 1 ∧ Inv Z SC SM') := fun r h1 h2 => ⟨_, Or.inl ⟨r, h1, h2, gI_e _ _ _, Inv_thr _ hI2⟩⟩
  by_cases h1 : 0 ≤ a ∧ a ≤ 5
  · by_cases h2 : 0 ≤ b ∧ b ≤ 9
    · by_cases h3 : 0 ≤ c ∧ c ≤ 1
      · obtain ⟨x, rfl⟩ := Int.eq_ofNat_of_zero_le h1.1
        have m1 := w3.1
        have c1 := w2.1
        have m10 := w3.2.2.2.2.2.2.2.2.2 x (by omega)
        have ea := e_asked w1 w2 (show x < 6 by omega)
        have q8 := w1.2.2.2.2.2.2.2 x
        by_cases hq : pQ Z.1 x = 0
        · rw [hq] at m10 ea
          refine fin (-1) ?_ ?_
          · unfold f_X4_odds
            simp (disch := omega) only [nxt_e, bnd_s, chk_T, chk_nF, ↓reduceIte, i_0, i_1, i_2, i_3, i_4, i_5, i_6, i_8, i_9, i_10, i_15, i_19, i_20, i_30, i_31, i_40, i_60, i_100, i_200, i_1000, i_20000, iv_neg, iv_add, iv_sub, iv_mul, iv_lt, iv_le, iv_eq, iv_cl, iv_in, ltT, ltF, leT, leF, eqT, eqF, gI_e, gI_n, gI_sA, gI_sL, gI_sB, gL_e, gL_n, gL_sI, gL_sA, gL_sB, gA_e, gA_n, gA_sI, gA_sL, gA_sB, gB_e, gB_n, gB_sI, gB_sL, gB_sA, up_e, up_n, uL_e, uL_n, isIn_t, isIn_f, isTmM_t, isTmM_f, isRow_t, isRow_f, isVal_t, isVal_f, isVar_t, isVar_f, isTmC_t, isTmC_f, ea]
          · unfold f_X5_odds
            simp (disch := omega) only [nxt_e, bnd_s, chk_T, chk_nF, ↓reduceIte, i_0, i_1, i_2, i_3, i_4, i_5, i_6, i_8, i_9, i_10, i_15, i_19, i_20, i_30, i_31, i_40, i_60, i_100, i_200, i_1000, i_20000, iv_neg, iv_add, iv_sub, iv_mul, iv_lt, iv_le, iv_eq, iv_cl, iv_in, ltT, ltF, leT, leF, eqT, eqF, gI_e, gI_n, gI_sA, gI_sL, gI_sB, gL_e, gL_n, gL_sI, gL_sA, gL_sB, gA_e, gA_n, gA_sI, gA_sL, gA_sB, gB_e, gB_n, gB_sI, gB_sL, gB_sA, up_e, up_n, uL_e, uL_n, isIn_t, isIn_f, isTmM_t, isTmM_f, isRow_t, isRow_f, isVal_t, isVal_f, isVar_t, isVar_f, isTmC_t, isTmC_f, Int.toNat_natCast, m10]
        · rw [show pQ Z.1 x = 1 by omega] at m10 ea
          rcases w5 with ⟨o, o1, o2⟩ | ⟨o, o1, o2, o3, o4, o5⟩
          · refine fin (-3) ?_ ?_
            · unfold f_X4_odds
              simp (disch := omega) only [nxt_e, bnd_s, chk_T, chk_nF, ↓reduceIte, i_0, i_1, i_2, i_3, i_4, i_5, i_6, i_8, i_9, i_10, i_15, i_19, i_20, i_30, i_31, i_40, i_60, i_100, i_200, i_1000, i_20000, iv_neg, iv_add, iv_sub, iv_mul, iv_lt, iv_le, iv_eq, iv_cl, iv_in, ltT, ltF, leT, leF, eqT, eqF, gI_e, gI_n, gI_sA, gI_sL, gI_sB, gL_e, gL_n, gL_sI, gL_sA, gL_sB, gA_e, gA_n, gA_sI, gA_sL, gA_sB, gB_e, gB_n, gB_sI, gB_sL, gB_sA, up_e, up_n, uL_e, uL_n, isIn_t, isIn_f, isTmM_t, isTmM_f, isRow_t, isRow_f, isVal_t, isVal_f, isVar_t, isVar_f, isTmC_t, isTmC_f, ea, o1]
            · unfold f_X5_odds
              simp (disch := omega) only [nxt_e, bnd_s, chk_T, chk_nF, ↓reduceIte, i_0, i_1, i_2, i_3, i_4, i_5, i_6, i_8, i_9, i_10, i_15, i_19, i_20, i_30, i_31, i_40, i_60, i_100, i_200, i_1000, i_20000, iv_neg, iv_add, iv_sub, iv_mul, iv_lt, iv_le, iv_eq, iv_cl, iv_in, ltT, ltF, leT, leF, eqT, eqF, gI_e, gI_n, gI_sA, gI_sL, gI_sB, gL_e, gL_n, gL_sI, gL_sA, gL_sB, gA_e, gA_n, gA_sI, gA_sL, gA_sB, gB_e, gB_n, gB_sI, gB_sL, gB_sA, up_e, up_n, uL_e, uL_n, isIn_t, isIn_f, isTmM_t, isTmM_f, isRow_t, isRow_f, isVal_t, isVal_f, isVar_t, isVar_f, isTmC_t, isTmC_f, Int.toNat_natCast, m10, o2]
          · have w3' := RM_sI (v := iv 0) (k := 0) (by decide) w3
            have o5' := RML_sI (v := iv 0) (k := 0) (by decide) o5
            have el := e_leastM w1 w3' o5' o3.2.1
            have ec := e_leastC w1 w2 o4 o3.2.1
            have hlp := lsP_le Z.1 Z.2.2
            by_cases e : lsP Z.1 Z.2.2 = pN Z.1
            · rw [if_pos e] at el ec
              have hcd : ∀ q c' m', (c', m') ∈ lLs Z.2.2 q → c' < 1000000 := fun q c' m' h => (o3.2.2.2.1 q c' m' h).1
              have okx1 : okx (x : Int) b := Or.inr ⟨h1.1, h1.2, h2.1, h2.2⟩
              have okx2 : okx (-1) 0 := Or.inl rfl
              have t1 := e_totC (p := pN Z.1) o4 o3.2.1 hcd (by omega) okx1
              have t2 := e_totC (p := pN Z.1) o4 o3.2.1 hcd (by omega) okx2
              have t3 := e_totM (p := pN Z.1) o5' o3.2.1 hcd (by omega) okx1
              have t4 := e_totM (p := pN Z.1) o5' o3.2.1 hcd (by omega) okx2
              have hle := tsm_le (x : Int) b (lLs Z.2.2 (pN Z.1))
              rw [tsm_all] at t2 t4
              have hbd : msum (lLs Z.2.2 (pN Z.1)) ≤ 122444006400000000 := by
                have g2 := pot_one (P := Z.1) (Ls := lLs Z.2.2) (pN Z.1 + 1) (pN Z.1) (by omega)
                have g3 := o3.2.2.2.2.2
                have g4 : 9 ^ cnt (pK Z.1) 3 (pN Z.1) ≤ 9 ^ 3 := Nat.pow_le_pow_right (by decide) w1.2.2.2.2.2.2.1
                have g5 : 167961600000000 * 9 ^ cnt (pK Z.1) 3 (pN Z.1) ≤ 167961600000000 * 9 ^ 3 := Nat.mul_le_mul_left _ g4
                have g6 : 167961600000000 * 9 ^ 3 = 122444006400000000 := by decide
                omega
              generalize msum (lLs Z.2.2 (pN Z.1)) = lo at *
              generalize tsm (x : Int) b (lLs Z.2.2 (pN Z.1)) = u at *
              by_cases hl : lo = 0
              · subst hl
                obtain rfl : u = 0 := by omega
                refine ⟨sI (sI SM 0 (iv 0)) 0 (iv 1), Or.inr ⟨⟨jv (0 : Nat), jv (0 : Nat), ?_, ?_, ?_, ?_, ea, o1, ec, ?_, ?_, cd_00⟩, ?_, gI_e _ _ _, Inv_thr _ (Inv_thr _ hI2)⟩⟩
                · simp (disch := omega) only [nxt_e, bnd_s, chk_T, chk_nF, ↓reduceIte, i_0, i_1, i_2, i_3, i_4, i_5, i_6, i_8, i_9, i_10, i_15, i_19, i_20, i_30, i_31, i_40, i_60, i_100, i_200, i_1000, i_20000, iv_neg, iv_add, iv_sub, iv_mul, iv_lt, iv_le, iv_eq, iv_cl, iv_in, ltT, ltF, leT, leF, eqT, eqF, gI_e, gI_n, gI_sA, gI_sL, gI_sB, gL_e, gL_n, gL_sI, gL_sA, gL_sB, gA_e, gA_n, gA_sI, gA_sL, gA_sB, gB_e, gB_n, gB_sI, gB_sL, gB_sA, up_e, up_n, uL_e, uL_n, isIn_t, isIn_f, isTmM_t, isTmM_f, isRow_t, isRow_f, isVal_t, isVal_f, isVar_t, isVar_f, isTmC_t, isTmC_f]
                · simp (disch := omega) only [nxt_e, bnd_s, chk_T, chk_nF, ↓reduceIte, i_0, i_1, i_2, i_3, i_4, i_5, i_6, i_8, i_9, i_10, i_15, i_19, i_20, i_30, i_31, i_40, i_60, i_100, i_200, i_1000, i_20000, iv_neg, iv_add, iv_sub, iv_mul, iv_lt, iv_le, iv_eq, iv_cl, iv_in, ltT, ltF, leT, leF, eqT, eqF, gI_e, gI_n, gI_sA, gI_sL, gI_sB, gL_e, gL_n, gL_sI, gL_sA, gL_sB, gA_e, gA_n, gA_sI, gA_sL, gA_sB, gB_e, gB_n, gB_sI, gB_sL, gB_sA, up_e, up_n, uL_e, uL_n, isIn_t, isIn_f, isTmM_t, isTmM_f, isRow_t, isRow_f, isVal_t, isVal_f, isVar_t, isVar_f, isTmC_t, isTmC_f]
                · rw [i_0, iv_lt (by omega) (by omega) (by omega) (by omega)]; omega
                · rw [i_1, iv_lt (by omega) (by omega) (by omega) (by omega)]; omega
                · rw [c1]; exact t1
                · rw [c1]; exact t2
                · unfold f_X5_odds
                  simp (disch := omega) only [nxt_e, bnd_s, chk_T, chk_nF, ↓reduceIte, i_0, i_1, i_2, i_3, i_4, i_5, i_6, i_8, i_9, i_10, i_15, i_19, i_20, i_30, i_31, i_40, i_60, i_100, i_200, i_1000, i_20000, iv_neg, iv_add, iv_sub, iv_mul, iv_lt, iv_le, iv_eq, iv_cl, iv_in, ltT, ltF, leT, leF, eqT, eqF, gI_e, gI_n, gI_sA, gI_sL, gI_sB, gL_e, gL_n, gL_sI, gL_sA, gL_sB, gA_e, gA_n, gA_sI, gA_sL, gA_sB, gB_e, gB_n, gB_sI, gB_sL, gB_sA, up_e, up_n, uL_e, uL_n, isIn_t, isIn_f, isTmM_t, isTmM_f, isRow_t, isRow_f, isVal_t, isVal_f, isVar_t, isVar_f, isTmC_t, isTmC_f, Int.toNat_natCast, m10, o2, el, m1, t4, (lg_eq ((0 : Nat) : Int) (by omega) (by omega)).mpr rfl]
              · have hcd2 := e_cd (S := SC) hle (by omega) hbd
                have hom := e_om (S := sI SM 0 (iv 0)) (x3 := iv c) hle (by omega) hbd
                have hg := Nat.gcd_pos_of_pos_right u (show 0 < lo by omega)
                have hg2 : Nat.gcd u lo ≤ lo := Nat.le_of_dvd (by omega) (Nat.gcd_dvd_right u lo)
                have l1 : ¬ lg_cmp (jv (lo : Int)) 0 ≤ 0 := by rw [lg_le _ (by omega) (by omega)]; omega
                have l2 := lg_gt ((Nat.gcd u lo : Nat) : Int) (by omega) (by omega)
                have l3 : ¬ lg_cmp (jv (lo : Int)) 0 = 0 := by rw [lg_eq _ (by omega) (by omega)]; omega
                obtain ⟨r, hr⟩ : ∃ r, r = (if iv c = 0 then jv u / jv (Nat.gcd u lo) else jv lo / jv (Nat.gcd u lo)) := ⟨_, rfl⟩
                rw [← hr] at hom
                refine fin r ?_ ?_
                · unfold f_X4_odds
                  rw [isVar_t (by omega) (by omega), bnd_s, if_neg (show ¬ iv 1 = 0 by decide), isVal_t (by omega) (by omega), bnd_s, if_neg (show ¬ iv 1 = 0 by decide), if_neg (by rw [i_0, iv_lt (by omega) (by omega) (by omega) (by omega)]; omega), if_neg (by rw [i_1, iv_lt (by omega) (by omega) (by omega) (by omega)]; omega), ea, bnd_s, if_neg (show ¬ iv ((1 : Nat) : Int) = 0 by decide), o1, if_neg (show ¬ iv 1 = 0 by decide), ec, bnd_s, if_pos (show iv (-5) = -5 from rfl), c1, t1, bnd_s, c1]
                  have t2 : f_X1_total (iv (pN Z.1)) (-1) 0 SC = some (jv lo, SC) := t2
                  rw [t2, bnd_s, hcd2, bnd_s, if_neg l1, if_pos l2, chk_t (jv_ne0 hg (by omega)), chk_t (jv_ne0 hg (by omega)), hr]
                  split <;> rfl
                · unfold f_X5_odds
                  simp (disch := omega) only [nxt_e, bnd_s, chk_T, chk_nF, ↓reduceIte, i_0, i_1, i_2, i_3, i_4, i_5, i_6, i_8, i_9, i_10, i_15, i_19, i_20, i_30, i_31, i_40, i_60, i_100, i_200, i_1000, i_20000, iv_neg, iv_add, iv_sub, iv_mul, iv_lt, iv_le, iv_eq, iv_cl, iv_in, ltT, ltF, leT, leF, eqT, eqF, gI_e, gI_n, gI_sA, gI_sL, gI_sB, gL_e, gL_n, gL_sI, gL_sA, gL_sB, gA_e, gA_n, gA_sI, gA_sL, gA_sB, gB_e, gB_n, gB_sI, gB_sL, gB_sA, up_e, up_n, uL_e, uL_n, isIn_t, isIn_f, isTmM_t, isTmM_f, isRow_t, isRow_f, isVal_t, isVal_f, isVar_t, isVar_f, isTmC_t, isTmC_f, Int.toNat_natCast, m10, o2, el, m1, t4, t3]
                  rw [if_neg (show ¬ lg_cmp (jv (lo : Int)) 0 = iv 0 from l3)]
                  exact hom
            · rw [if_neg e] at el ec
              have hne5 : ∀ n : Nat, n ≤ 30 → ¬ iv (n : Int) = -5 := by
                intro n hn
                rw [show (-5 : Int32) = iv (-5) from rfl, iv_eq (by omega) (by omega) (by omega) (by omega)]
                omega
              refine fin (-3) ?_ ?_
              · unfold f_X4_odds
                simp (disch := omega) only [nxt_e, bnd_s, chk_T, chk_nF, ↓reduceIte, i_0, i_1, i_2, i_3, i_4, i_5, i_6, i_8, i_9, i_10, i_15, i_19, i_20, i_30, i_31, i_40, i_60, i_100, i_200, i_1000, i_20000, iv_neg, iv_add, iv_sub, iv_mul, iv_lt, iv_le, iv_eq, iv_cl, iv_in, ltT, ltF, leT, leF, eqT, eqF, gI_e, gI_n, gI_sA, gI_sL, gI_sB, gL_e, gL_n, gL_sI, gL_sA, gL_sB, gA_e, gA_n, gA_sI, gA_sL, gA_sB, gB_e, gB_n, gB_sI, gB_sL, gB_sA, up_e, up_n, uL_e, uL_n, isIn_t, isIn_f, isTmM_t, isTmM_f, isRow_t, isRow_f, isVal_t, isVal_f, isVar_t, isVar_f, isTmC_t, isTmC_f, ea, o1, ec]
              · unfold f_X5_odds
                simp (disch := omega) only [nxt_e, bnd_s, chk_T, chk_nF, ↓reduceIte, i_0, i_1, i_2, i_3, i_4, i_5, i_6, i_8, i_9, i_10, i_15, i_19, i_20, i_30, i_31, i_40, i_60, i_100, i_200, i_1000, i_20000, iv_neg, iv_add, iv_sub, iv_mul, iv_lt, iv_le, iv_eq, iv_cl, iv_in, ltT, ltF, leT, leF, eqT, eqF, gI_e, gI_n, gI_sA, gI_sL, gI_sB, gL_e, gL_n, gL_sI, gL_sA, gL_sB, gA_e, gA_n, gA_sI, gA_sL, gA_sB, gB_e, gB_n, gB_sI, gB_sL, gB_sA, up_e, up_n, uL_e, uL_n, isIn_t, isIn_f, isTmM_t, isTmM_f, isRow_t, isRow_f, isVal_t, isVal_f, isVar_t, isVar_f, isTmC_t, isTmC_f, Int.toNat_natCast, m10, o2, el]
      · refine fin (-1) ?_ ?_
        · unfold f_X4_odds
          by_cases e : c < 0
          · simp (disch := omega) only [nxt_e, bnd_s, chk_T, chk_nF, ↓reduceIte, i_0, i_1, i_2, i_3, i_4, i_5, i_6, i_8, i_9, i_10, i_15, i_19, i_20, i_30, i_31, i_40, i_60, i_100, i_200, i_1000, i_20000, iv_neg, iv_add, iv_sub, iv_mul, iv_lt, iv_le, iv_eq, iv_cl, iv_in, ltT, ltF, leT, leF, eqT, eqF, gI_e, gI_n, gI_sA, gI_sL, gI_sB, gL_e, gL_n, gL_sI, gL_sA, gL_sB, gA_e, gA_n, gA_sI, gA_sL, gA_sB, gB_e, gB_n, gB_sI, gB_sL, gB_sA, up_e, up_n, uL_e, uL_n, isIn_t, isIn_f, isTmM_t, isTmM_f, isRow_t, isRow_f, isVal_t, isVal_f, isVar_t, isVar_f, isTmC_t, isTmC_f]
          · simp (disch := omega) only [nxt_e, bnd_s, chk_T, chk_nF, ↓reduceIte, i_0, i_1, i_2, i_3, i_4, i_5, i_6, i_8, i_9, i_10, i_15, i_19, i_20, i_30, i_31, i_40, i_60, i_100, i_200, i_1000, i_20000, iv_neg, iv_add, iv_sub, iv_mul, iv_lt, iv_le, iv_eq, iv_cl, iv_in, ltT, ltF, leT, leF, eqT, eqF, gI_e, gI_n, gI_sA, gI_sL, gI_sB, gL_e, gL_n, gL_sI, gL_sA, gL_sB, gA_e, gA_n, gA_sI, gA_sL, gA_sB, gB_e, gB_n, gB_sI, gB_sL, gB_sA, up_e, up_n, uL_e, uL_n, isIn_t, isIn_f, isTmM_t, isTmM_f, isRow_t, isRow_f, isVal_t, isVal_f, isVar_t, isVar_f, isTmC_t, isTmC_f]
        · unfold f_X5_odds
          simp (disch := omega) only [nxt_e, bnd_s, chk_T, chk_nF, ↓reduceIte, i_0, i_1, i_2, i_3, i_4, i_5, i_6, i_8, i_9, i_10, i_15, i_19, i_20, i_30, i_31, i_40, i_60, i_100, i_200, i_1000, i_20000, iv_neg, iv_add, iv_sub, iv_mul, iv_lt, iv_le, iv_eq, iv_cl, iv_in, ltT, ltF, leT, leF, eqT, eqF, gI_e, gI_n, gI_sA, gI_sL, gI_sB, gL_e, gL_n, gL_sI, gL_sA, gL_sB, gA_e, gA_n, gA_sI, gA_sL, gA_sB, gB_e, gB_n, gB_sI, gB_sL, gB_sA, up_e, up_n, uL_e, uL_n, isIn_t, isIn_f, isTmM_t, isTmM_f, isRow_t, isRow_f, isVal_t, isVal_f, isVar_t, isVar_f, isTmC_t, isTmC_f]
    · refine fin (-1) ?_ ?_
      · unfold f_X4_odds
        simp (disch := omega) only [nxt_e, bnd_s, chk_T, chk_nF, ↓reduceIte, i_0, i_1, i_2, i_3, i_4, i_5, i_6, i_8, i_9, i_10, i_15, i_19, i_20, i_30, i_31, i_40, i_60, i_100, i_200, i_1000, i_20000, iv_neg, iv_add, iv_sub, iv_mul, iv_lt, iv_le, iv_eq, iv_cl, iv_in, ltT, ltF, leT, leF, eqT, eqF, gI_e, gI_n, gI_sA, gI_sL, gI_sB, gL_e, gL_n, gL_sI, gL_sA, gL_sB, gA_e, gA_n, gA_sI, gA_sL, gA_sB, gB_e, gB_n, gB_sI, gB_sL, gB_sA, up_e, up_n, uL_e, uL_n, isIn_t, isIn_f, isTmM_t, isTmM_f, isRow_t, isRow_f, isVal_t, isVal_f, isVar_t, isVar_f, isTmC_t, isTmC_f]
      · unfold f_X5_odds
        simp (disch := omega) only [nxt_e, bnd_s, chk_T, chk_nF, ↓reduceIte, i_0, i_1, i_2, i_3, i_4, i_5, i_6, i_8, i_9, i_10, i_15, i_19, i_20, i_30, i_31, i_40, i_60, i_100, i_200, i_1000, i_20000, iv_neg, iv_add, iv_sub, iv_mul, iv_lt, iv_le, iv_eq, iv_cl, iv_in, ltT, ltF, leT, leF, eqT, eqF, gI_e, gI_n, gI_sA, gI_sL, gI_sB, gL_e, gL_n, gL_sI, gL_sA, gL_sB, gA_e, gA_n, gA_sI, gA_sL, gA_sB, gB_e, gB_n, gB_sI, gB_sL, gB_sA, up_e, up_n, uL_e, uL_n, isIn_t, isIn_f, isTmM_t, isTmM_f, isRow_t, isRow_f, isVal_t, isVal_f, isVar_t, isVar_f, isTmC_t, isTmC_f]
  · refine fin (-1) ?_ ?_
    · unfold f_X4_odds
      rw [isVar_f (by omega) (by omega) (by omega), bnd_s, if_pos (show iv 0 = 0 from rfl)]
    · unfold f_X5_odds
      simp (disch := omega) only [nxt_e, i_0, i_5, isIn_f, bnd_s, ↓reduceIte]
