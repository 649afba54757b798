/-! ===== what a step makes of a state: class ===== -/
def wys (P : Pr) (p : Nat) : Nat := if pK P p = 0 then 10 else 1
def mb (P : Pr) (p v c m : Nat) : Nat := if pK P p = 0 then m * pW P (pE P p) v / 60 else if pK P p = 2 then (if seen (pE P p) (tv c (pA P p)) (tv c (pB P p)) = 0 then 0 else m) else if pK P p = 3 then m * tv c (pA P p) else m
def hb (P : Pr) (p v c : Nat) : Nat := if pK P p = 0 then wt c (pG P p) v else if pK P p = 1 then wt c (pG P p) (cmb (pE P p) (tv c (pA P p)) (tv c (pB P p)) (dg c (pG P p))) else c
section CS
variable {P : Pr} {S : St} {p c : Nat} (hw : Wf P) (hR : RC P S) (hp : p < pN P) (hc : c < 1000000)
theorem e_isD (hw : Wf P) (hR : RC P S) (hp : p < pN P) : f_X2_isDraw (iv (p : Int)) S = some (iv (if pK P p = 0 then 1 else 0), S) := by
  have q1 := hw.1
  have es := e_step_t (z := p) hw hR (by omega) (by omega)
  have c4 := hR.2.2.2.1
  have z1 := (hw.2.1 p).1
  unfold f_X2_isDraw
  by_cases k0 : pK P p = 0
  · simp (disch := omega) only [nxt_e, bnd_s, chk_T, chk_nF, ↓reduceIte, i_0, i_1, i_2, i_3, i_4, i_5, i_6, i_8, i_9, i_10, i_15, i_19, i_20, i_30, i_31, i_40, i_60, i_100, i_200, i_1000, i_20000, iv_neg, iv_add, iv_sub, iv_mul, iv_lt, iv_le, iv_eq, iv_cl, iv_in, ltT, ltF, leT, leF, eqT, eqF, gI_e, gI_n, gI_sA, gI_sL, gI_sB, gL_e, gL_n, gL_sI, gL_sA, gL_sB, gA_e, gA_n, gA_sI, gA_sL, gA_sB, gB_e, gB_n, gB_sI, gB_sL, gB_sA, up_e, up_n, uL_e, uL_n, es, c4, Int.toNat_natCast, if_pos k0]
  · simp (disch := omega) only [nxt_e, bnd_s, chk_T, chk_nF, ↓reduceIte, i_0, i_1, i_2, i_3, i_4, i_5, i_6, i_8, i_9, i_10, i_15, i_19, i_20, i_30, i_31, i_40, i_60, i_100, i_200, i_1000, i_20000, iv_neg, iv_add, iv_sub, iv_mul, iv_lt, iv_le, iv_eq, iv_cl, iv_in, ltT, ltF, leT, leF, eqT, eqF, gI_e, gI_n, gI_sA, gI_sL, gI_sB, gL_e, gL_n, gL_sI, gL_sA, gL_sB, gA_e, gA_n, gA_sI, gA_sL, gA_sB, gB_e, gB_n, gB_sI, gB_sL, gB_sA, up_e, up_n, uL_e, uL_n, es, c4, Int.toNat_natCast, if_neg k0]
theorem e_wys (hw : Wf P) (hR : RC P S) (hp : p < pN P) : f_X2_ways (iv (p : Int)) S = some (iv (wys P p), S) := by
  have e := e_isD hw hR hp
  unfold f_X2_ways wys
  by_cases k0 : pK P p = 0
  · rw [if_pos k0] at e
    simp (disch := omega) only [nxt_e, bnd_s, chk_T, chk_nF, ↓reduceIte, i_0, i_1, i_2, i_3, i_4, i_5, i_6, i_8, i_9, i_10, i_15, i_19, i_20, i_30, i_31, i_40, i_60, i_100, i_200, i_1000, i_20000, iv_neg, iv_add, iv_sub, iv_mul, iv_lt, iv_le, iv_eq, iv_cl, iv_in, ltT, ltF, leT, leF, eqT, eqF, gI_e, gI_n, gI_sA, gI_sL, gI_sB, gL_e, gL_n, gL_sI, gL_sA, gL_sB, gA_e, gA_n, gA_sI, gA_sL, gA_sB, gB_e, gB_n, gB_sI, gB_sL, gB_sA, up_e, up_n, uL_e, uL_n, e, if_pos k0]
    rfl
  · rw [if_neg k0] at e
    simp (disch := omega) only [nxt_e, bnd_s, chk_T, chk_nF, ↓reduceIte, i_0, i_1, i_2, i_3, i_4, i_5, i_6, i_8, i_9, i_10, i_15, i_19, i_20, i_30, i_31, i_40, i_60, i_100, i_200, i_1000, i_20000, iv_neg, iv_add, iv_sub, iv_mul, iv_lt, iv_le, iv_eq, iv_cl, iv_in, ltT, ltF, leT, leF, eqT, eqF, gI_e, gI_n, gI_sA, gI_sL, gI_sB, gL_e, gL_n, gL_sI, gL_sA, gL_sB, gA_e, gA_n, gA_sI, gA_sL, gA_sB, gB_e, gB_n, gB_sI, gB_sL, gB_sA, up_e, up_n, uL_e, uL_n, e, if_neg k0]
    rfl
theorem e_plb (hw : Wf P) (hR : RC P S) (hp : p < pN P) (hc : c < 1000000) : f_X2_placeBehind (iv (p : Int)) (iv (hx c)) S = some (iv (npl P p c), S) := by
  have q1 := hw.1
  have es := e_step_t (z := p) hw hR (by omega) (by omega)
  have hR2 := hR
  obtain ⟨c1, c2, c3, c4, c5, c6, c7, c8, c9, c10⟩ := hR
  obtain ⟨z1, z2, z3, z4, z5⟩ := hw.2.1 p
  have t1 : ∀ S' : St, f_X2_termValue (iv (pA P p)) (iv (hx c)) S' = some (iv (tv c (pA P p)), S') := fun S' => e_tVal hc z3
  have tl := tv_le (c := c) z3
  unfold f_X2_placeBehind npl
  by_cases k4 : pK P p = 4
  · by_cases ha : tv c (pA P p) = 0
    · simp (disch := omega) only [nxt_e, bnd_s, chk_T, chk_nF, ↓reduceIte, i_0, i_1, i_2, i_3, i_4, i_5, i_6, i_8, i_9, i_10, i_15, i_19, i_20, i_30, i_31, i_40, i_60, i_100, i_200, i_1000, i_20000, iv_neg, iv_add, iv_sub, iv_mul, iv_lt, iv_le, iv_eq, iv_cl, iv_in, ltT, ltF, leT, leF, eqT, eqF, gI_e, gI_n, gI_sA, gI_sL, gI_sB, gL_e, gL_n, gL_sI, gL_sA, gL_sB, gA_e, gA_n, gA_sI, gA_sL, gA_sB, gB_e, gB_n, gB_sI, gB_sL, gB_sA, up_e, up_n, uL_e, uL_n, es, c4, c7, t1, Int.toNat_natCast, if_pos k4, if_pos ha, e_skp hw hR2 hp]
    · simp (disch := omega) only [nxt_e, bnd_s, chk_T, chk_nF, ↓reduceIte, i_0, i_1, i_2, i_3, i_4, i_5, i_6, i_8, i_9, i_10, i_15, i_19, i_20, i_30, i_31, i_40, i_60, i_100, i_200, i_1000, i_20000, iv_neg, iv_add, iv_sub, iv_mul, iv_lt, iv_le, iv_eq, iv_cl, iv_in, ltT, ltF, leT, leF, eqT, eqF, gI_e, gI_n, gI_sA, gI_sL, gI_sB, gL_e, gL_n, gL_sI, gL_sA, gL_sB, gA_e, gA_n, gA_sI, gA_sL, gA_sB, gB_e, gB_n, gB_sI, gB_sL, gB_sA, up_e, up_n, uL_e, uL_n, es, c4, c7, t1, Int.toNat_natCast, if_pos k4, if_neg ha]
      rfl
  · simp (disch := omega) only [nxt_e, bnd_s, chk_T, chk_nF, ↓reduceIte, i_0, i_1, i_2, i_3, i_4, i_5, i_6, i_8, i_9, i_10, i_15, i_19, i_20, i_30, i_31, i_40, i_60, i_100, i_200, i_1000, i_20000, iv_neg, iv_add, iv_sub, iv_mul, iv_lt, iv_le, iv_eq, iv_cl, iv_in, ltT, ltF, leT, leF, eqT, eqF, gI_e, gI_n, gI_sA, gI_sL, gI_sB, gL_e, gL_n, gL_sI, gL_sA, gL_sB, gA_e, gA_n, gA_sI, gA_sL, gA_sB, gB_e, gB_n, gB_sI, gB_sL, gB_sA, up_e, up_n, uL_e, uL_n, es, c4, Int.toNat_natCast, if_neg k4]
    rfl
theorem e_wOf {r v : Nat} (hR : RC P S) (hr : r < 4) (hv : v < 10) : f_X2_weightOf (iv (r : Int)) (iv (v : Int)) S = some (iv (pW P r v), S) := by
  obtain ⟨c1, c2, c3, c4, c5, c6, c7, c8, c9, c10⟩ := hR
  unfold f_X2_weightOf
  simp (disch := omega) only [nxt_e, bnd_s, chk_T, chk_nF, ↓reduceIte, i_0, i_1, i_2, i_3, i_4, i_5, i_6, i_8, i_9, i_10, i_15, i_19, i_20, i_30, i_31, i_40, i_60, i_100, i_200, i_1000, i_20000, iv_neg, iv_add, iv_sub, iv_mul, iv_lt, iv_le, iv_eq, iv_cl, iv_in, ltT, ltF, leT, leF, eqT, eqF, gI_e, gI_n, gI_sA, gI_sL, gI_sB, gL_e, gL_n, gL_sI, gL_sA, gL_sB, gA_e, gA_n, gA_sI, gA_sL, gA_sB, gB_e, gB_n, gB_sI, gB_sL, gB_sA, up_e, up_n, uL_e, uL_n, isIn_t, isIn_f, isTmM_t, isTmM_f, isRow_t, isRow_f, isVal_t, isVal_f, isVar_t, isVar_f, isTmC_t, isTmC_f, Int.toNat_natCast, c9]
theorem e_mb {v m : Nat} (hw : Wf P) (hR : RC P S) (hp : p < pN P) (hc : c < 1000000) (hv : v < 10) (hm : m * 60 < 9223372036854775808) : f_X2_massBehind (iv (p : Int)) (iv (v : Int)) (iv (hx c)) (jv m) S = some (jv (mb P p v c m), S) := by
  have q1 := hw.1
  have es := e_step_t (z := p) hw hR (by omega) (by omega)
  have hR2 := hR
  obtain ⟨c1, c2, c3, c4, c5, c6, c7, c8, c9, c10⟩ := hR
  obtain ⟨z1, z2, z3, z4, z5⟩ := hw.2.1 p
  have q3 := hw.2.2.1 p
  have q4 := hw.2.2.2.1 p
  have q5 := hw.2.2.2.2.1 (pE P p) v
  have t1 : ∀ S' : St, f_X2_termValue (iv (pA P p)) (iv (hx c)) S' = some (iv (tv c (pA P p)), S') := fun S' => e_tVal hc z3
  have t2 : ∀ S' : St, f_X2_termValue (iv (pB P p)) (iv (hx c)) S' = some (iv (tv c (pB P p)), S') := fun S' => e_tVal hc z4
  have tl := tv_le (c := c) z3
  have tl2 := tv_le (c := c) z4
  have h60 : decide (¬ (jv 60 = 0)) = true := by decide
  unfold f_X2_massBehind mb
  by_cases k0 : pK P p = 0
  · have := q3 k0
    have e := e_wOf (v := v) hR2 (show pE P p < 4 by omega) hv
    simp (disch := omega) only [nxt_e, bnd_s, chk_T, chk_nF, ↓reduceIte, i_0, i_1, i_2, i_3, i_4, i_5, i_6, i_8, i_9, i_10, i_15, i_19, i_20, i_30, i_31, i_40, i_60, i_100, i_200, i_1000, i_20000, iv_neg, iv_add, iv_sub, iv_mul, iv_lt, iv_le, iv_eq, iv_cl, iv_in, ltT, ltF, leT, leF, eqT, eqF, gI_e, gI_n, gI_sA, gI_sL, gI_sB, gL_e, gL_n, gL_sI, gL_sA, gL_sB, gA_e, gA_n, gA_sI, gA_sL, gA_sB, gB_e, gB_n, gB_sI, gB_sL, gB_sA, up_e, up_n, uL_e, uL_n, es, c4, c6, c7, t1, Int.toNat_natCast, if_pos k0, e, j_60, iv_jv, jv_mul]
    have hmw : m * pW P (pE P p) v ≤ m * 60 := Nat.mul_le_mul_left m q5
    rw [show ((m : Int) * (pW P (pE P p) v : Int)) = ((m * pW P (pE P p) v : Nat) : Int) from (Int.natCast_mul _ _).symm, jv_div (by omega) (by omega) (by omega) (by omega), chk_t (by decide)]
    rfl
  · by_cases k1 : pK P p = 1
    · simp (disch := omega) only [nxt_e, bnd_s, chk_T, chk_nF, ↓reduceIte, i_0, i_1, i_2, i_3, i_4, i_5, i_6, i_8, i_9, i_10, i_15, i_19, i_20, i_30, i_31, i_40, i_60, i_100, i_200, i_1000, i_20000, iv_neg, iv_add, iv_sub, iv_mul, iv_lt, iv_le, iv_eq, iv_cl, iv_in, ltT, ltF, leT, leF, eqT, eqF, gI_e, gI_n, gI_sA, gI_sL, gI_sB, gL_e, gL_n, gL_sI, gL_sA, gL_sB, gA_e, gA_n, gA_sI, gA_sL, gA_sB, gB_e, gB_n, gB_sI, gB_sL, gB_sA, up_e, up_n, uL_e, uL_n, es, c4, c6, c7, t1, Int.toNat_natCast, if_neg k0]
      rw [if_neg (by omega), if_neg (by omega)]
    · by_cases k2 : pK P p = 2
      · have e : ∀ S' : St, f_X2_isSeen (iv (pE P p)) (iv (tv c (pA P p))) (iv (tv c (pB P p))) S' = some (iv (seen (pE P p) (tv c (pA P p)) (tv c (pB P p))), S') := fun S' => e_see q4 tl tl2
        have hs : seen (pE P p) (tv c (pA P p)) (tv c (pB P p)) ≤ 1 := by
          unfold seen
          split
          · split <;> omega
          split
          · split <;> omega
          split
          · split <;> omega
          · split <;> omega
        by_cases hse : seen (pE P p) (tv c (pA P p)) (tv c (pB P p)) = 0
        · simp (disch := omega) only [nxt_e, bnd_s, chk_T, chk_nF, ↓reduceIte, i_0, i_1, i_2, i_3, i_4, i_5, i_6, i_8, i_9, i_10, i_15, i_19, i_20, i_30, i_31, i_40, i_60, i_100, i_200, i_1000, i_20000, iv_neg, iv_add, iv_sub, iv_mul, iv_lt, iv_le, iv_eq, iv_cl, iv_in, ltT, ltF, leT, leF, eqT, eqF, gI_e, gI_n, gI_sA, gI_sL, gI_sB, gL_e, gL_n, gL_sI, gL_sA, gL_sB, gA_e, gA_n, gA_sI, gA_sL, gA_sB, gB_e, gB_n, gB_sI, gB_sL, gB_sA, up_e, up_n, uL_e, uL_n, es, c4, c6, c7, c8, t1, t2, e, Int.toNat_natCast, if_neg k0, if_pos k2, if_pos hse]
          rfl
        · simp (disch := omega) only [nxt_e, bnd_s, chk_T, chk_nF, ↓reduceIte, i_0, i_1, i_2, i_3, i_4, i_5, i_6, i_8, i_9, i_10, i_15, i_19, i_20, i_30, i_31, i_40, i_60, i_100, i_200, i_1000, i_20000, iv_neg, iv_add, iv_sub, iv_mul, iv_lt, iv_le, iv_eq, iv_cl, iv_in, ltT, ltF, leT, leF, eqT, eqF, gI_e, gI_n, gI_sA, gI_sL, gI_sB, gL_e, gL_n, gL_sI, gL_sA, gL_sB, gA_e, gA_n, gA_sI, gA_sL, gA_sB, gB_e, gB_n, gB_sI, gB_sL, gB_sA, up_e, up_n, uL_e, uL_n, es, c4, c6, c7, c8, t1, t2, e, Int.toNat_natCast, if_neg k0, if_pos k2, if_neg hse]
      · by_cases k3 : pK P p = 3
        · simp (disch := omega) only [nxt_e, bnd_s, chk_T, chk_nF, ↓reduceIte, i_0, i_1, i_2, i_3, i_4, i_5, i_6, i_8, i_9, i_10, i_15, i_19, i_20, i_30, i_31, i_40, i_60, i_100, i_200, i_1000, i_20000, iv_neg, iv_add, iv_sub, iv_mul, iv_lt, iv_le, iv_eq, iv_cl, iv_in, ltT, ltF, leT, leF, eqT, eqF, gI_e, gI_n, gI_sA, gI_sL, gI_sB, gL_e, gL_n, gL_sI, gL_sA, gL_sB, gA_e, gA_n, gA_sI, gA_sL, gA_sB, gB_e, gB_n, gB_sI, gB_sL, gB_sA, up_e, up_n, uL_e, uL_n, es, c4, c6, c7, t1, Int.toNat_natCast, if_neg k0, if_neg k2, if_pos k3, iv_jv, jv_mul]
          rfl
        · simp (disch := omega) only [nxt_e, bnd_s, chk_T, chk_nF, ↓reduceIte, i_0, i_1, i_2, i_3, i_4, i_5, i_6, i_8, i_9, i_10, i_15, i_19, i_20, i_30, i_31, i_40, i_60, i_100, i_200, i_1000, i_20000, iv_neg, iv_add, iv_sub, iv_mul, iv_lt, iv_le, iv_eq, iv_cl, iv_in, ltT, ltF, leT, leF, eqT, eqF, gI_e, gI_n, gI_sA, gI_sL, gI_sB, gL_e, gL_n, gL_sI, gL_sA, gL_sB, gA_e, gA_n, gA_sI, gA_sL, gA_sB, gB_e, gB_n, gB_sI, gB_sL, gB_sA, up_e, up_n, uL_e, uL_n, es, c4, c6, c7, t1, Int.toNat_natCast, if_neg k0, if_neg k2, if_neg k3]
theorem e_hb {v : Nat} (hw : Wf P) (hR : RC P S) (hp : p < pN P) (hc : c < 1000000) (hv : v < 10) : f_X2_heldBehind (iv (p : Int)) (iv (v : Int)) (iv (hx c)) S = some (iv (hx (hb P p v c)), S) := by
  have q1 := hw.1
  have es := e_step_t (z := p) hw hR (by omega) (by omega)
  have hR2 := hR
  obtain ⟨c1, c2, c3, c4, c5, c6, c7, c8, c9, c10⟩ := hR
  obtain ⟨z1, z2, z3, z4, z5⟩ := hw.2.1 p
  have q4 := hw.2.2.2.1 p
  have t1 : ∀ S' : St, f_X2_termValue (iv (pA P p)) (iv (hx c)) S' = some (iv (tv c (pA P p)), S') := fun S' => e_tVal hc z3
  have t2 : ∀ S' : St, f_X2_termValue (iv (pB P p)) (iv (hx c)) S' = some (iv (tv c (pB P p)), S') := fun S' => e_tVal hc z4
  have tl := tv_le (c := c) z3
  have tl2 := tv_le (c := c) z4
  have dl := dg_le c (pG P p)
  unfold f_X2_heldBehind hb
  by_cases k0 : pK P p = 0
  · have e : ∀ S' : St, f_X0_with (iv (hx c)) (iv (pG P p)) (iv (v : Int)) S' = some (iv (hx (wt c (pG P p) v)), S') := fun S' => e_wit hc (by omega) (by omega)
    simp (disch := omega) only [nxt_e, bnd_s, chk_T, chk_nF, ↓reduceIte, i_0, i_1, i_2, i_3, i_4, i_5, i_6, i_8, i_9, i_10, i_15, i_19, i_20, i_30, i_31, i_40, i_60, i_100, i_200, i_1000, i_20000, iv_neg, iv_add, iv_sub, iv_mul, iv_lt, iv_le, iv_eq, iv_cl, iv_in, ltT, ltF, leT, leF, eqT, eqF, gI_e, gI_n, gI_sA, gI_sL, gI_sB, gL_e, gL_n, gL_sI, gL_sA, gL_sB, gA_e, gA_n, gA_sI, gA_sL, gA_sB, gB_e, gB_n, gB_sI, gB_sL, gB_sA, up_e, up_n, uL_e, uL_n, es, c4, c5, Int.toNat_natCast, if_pos k0, e]
  · by_cases k1 : pK P p = 1
    · have e1 : ∀ S' : St, f_X0_valueOf (iv (hx c)) (iv (pG P p)) S' = some (iv (dg c (pG P p)), S') := fun S' => e_val hc (by omega)
      have e2 : ∀ S' : St, f_X2_combined (iv (pE P p)) (iv (tv c (pA P p))) (iv (tv c (pB P p))) (iv (dg c (pG P p))) S' = some (iv (cmb (pE P p) (tv c (pA P p)) (tv c (pB P p)) (dg c (pG P p))), S') := fun S' => e_cmbC q4 tl tl2
      have cl := cmb_le (op := pE P p) tl tl2 dl
      have e3 : ∀ S' : St, f_X0_with (iv (hx c)) (iv (pG P p)) (iv (cmb (pE P p) (tv c (pA P p)) (tv c (pB P p)) (dg c (pG P p)))) S' = some (iv (hx (wt c (pG P p) (cmb (pE P p) (tv c (pA P p)) (tv c (pB P p)) (dg c (pG P p))))), S') := fun S' => e_wit hc (by omega) cl
      simp (disch := omega) only [nxt_e, bnd_s, chk_T, chk_nF, ↓reduceIte, i_0, i_1, i_2, i_3, i_4, i_5, i_6, i_8, i_9, i_10, i_15, i_19, i_20, i_30, i_31, i_40, i_60, i_100, i_200, i_1000, i_20000, iv_neg, iv_add, iv_sub, iv_mul, iv_lt, iv_le, iv_eq, iv_cl, iv_in, ltT, ltF, leT, leF, eqT, eqF, gI_e, gI_n, gI_sA, gI_sL, gI_sB, gL_e, gL_n, gL_sI, gL_sA, gL_sB, gA_e, gA_n, gA_sI, gA_sL, gA_sB, gB_e, gB_n, gB_sI, gB_sL, gB_sA, up_e, up_n, uL_e, uL_n, es, c4, c5, c6, c7, c8, t1, t2, Int.toNat_natCast, if_neg k0, if_pos k1, e1, e2, e3]
    · simp (disch := omega) only [nxt_e, bnd_s, chk_T, chk_nF, ↓reduceIte, i_0, i_1, i_2, i_3, i_4, i_5, i_6, i_8, i_9, i_10, i_15, i_19, i_20, i_30, i_31, i_40, i_60, i_100, i_200, i_1000, i_20000, iv_neg, iv_add, iv_sub, iv_mul, iv_lt, iv_le, iv_eq, iv_cl, iv_in, ltT, ltF, leT, leF, eqT, eqF, gI_e, gI_n, gI_sA, gI_sL, gI_sB, gL_e, gL_n, gL_sI, gL_sA, gL_sB, gA_e, gA_n, gA_sI, gA_sL, gA_sB, gB_e, gB_n, gB_sI, gB_sL, gB_sA, up_e, up_n, uL_e, uL_n, es, c4, c5, Int.toNat_natCast, if_neg k0, if_neg k1]
theorem hb_lt {v : Nat} (hw : Wf P) (hc : c < 1000000) (hv : v < 10) : hb P p v c < 1000000 := by
  obtain ⟨z1, z2, z3, z4, z5⟩ := hw.2.1 p
  unfold hb
  split
  · exact wt_lt hc (by omega) (by omega)
  split
  · exact wt_lt hc (by omega) (cmb_le (tv_le z3) (tv_le z4) (dg_le _ _))
  · exact hc
end CS
/-- what comes of a state, as the class goes through it -/
def outC (P : Pr) (p c m : Nat) : Nat → List (Nat × Nat)
  | 0 => []
  | v + 1 => outC P p c m v ++ if mb P p v c m = 0 then [] else [(hb P p v c, mb P p v c m)]
theorem outC_eq {P : Pr} {p c m : Nat} (hm : 0 < m) (hd : pK P p = 0 → 60 ∣ m) : outC P p c m (wys P p) = outs P p c m := by
  unfold outs wys
  by_cases k0 : pK P p = 0
  · rw [if_pos k0, if_pos k0]
    obtain ⟨q, rfl⟩ := hd k0
    have : ∀ v, outC P p c (60 * q) v = outD P p c (60 * q) v := by
      intro v
      induction v with
      | zero => rfl
      | succ v ih =>
        show outC P p c (60 * q) v ++ (if mb P p v c (60 * q) = 0 then [] else [(hb P p v c, mb P p v c (60 * q))]) = outD P p c (60 * q) v ++ (if pW P (pE P p) v = 0 then [] else [(wt c (pG P p) v, 60 * q / 60 * pW P (pE P p) v)])
        rw [ih]
        have e1 : mb P p v c (60 * q) = q * pW P (pE P p) v := by
          unfold mb
          rw [if_pos k0, Nat.mul_assoc, Nat.mul_div_cancel_left _ (by decide)]
        have e2 : hb P p v c = wt c (pG P p) v := by unfold hb; rw [if_pos k0]
        rw [e1, e2, Nat.mul_div_cancel_left _ (show 0 < 60 by decide)]
        have hq : 0 < q := by omega
        by_cases h : pW P (pE P p) v = 0
        · rw [if_pos h, if_pos (by rw [h, Nat.mul_zero])]
        · rw [if_neg h, if_neg (fun z => h ((Nat.mul_eq_zero.mp z).resolve_left (by omega)))]
    exact this 10
  · rw [if_neg k0, if_neg k0]
    show [] ++ (if mb P p 0 c m = 0 then [] else [(hb P p 0 c, mb P p 0 c m)]) = _
    rw [List.nil_append]
    by_cases k1 : pK P p = 1
    · have e1 : mb P p 0 c m = m := by unfold mb; rw [if_neg k0, if_neg (by omega), if_neg (by omega)]
      have e2 : hb P p 0 c = wt c (pG P p) (cmb (pE P p) (tv c (pA P p)) (tv c (pB P p)) (dg c (pG P p))) := by unfold hb; rw [if_neg k0, if_pos k1]
      rw [e1, e2, if_neg (by omega), if_pos k1]
    · have e2 : hb P p 0 c = c := by unfold hb; rw [if_neg k0, if_neg k1]
      rw [if_neg k1, e2]
      by_cases k2 : pK P p = 2
      · rw [if_pos k2]
        unfold mb
        rw [if_neg k0, if_pos k2]
        by_cases hs : seen (pE P p) (tv c (pA P p)) (tv c (pB P p)) = 0
        · rw [if_pos hs, if_pos hs, if_pos rfl]
        · rw [if_neg hs, if_neg hs, if_neg (by omega)]
      · rw [if_neg k2]
        by_cases k3 : pK P p = 3
        · rw [if_pos k3]
          unfold mb
          rw [if_neg k0, if_neg k2, if_pos k3]
          by_cases ht : tv c (pA P p) = 0
          · rw [if_pos ht, if_pos (by rw [ht, Nat.mul_zero])]
          · rw [if_neg ht, if_neg (fun z => ht ((Nat.mul_eq_zero.mp z).resolve_left (by omega)))]
        · rw [if_neg k3]
          unfold mb
          rw [if_neg k0, if_neg k2, if_neg k3, if_neg (by omega)]
