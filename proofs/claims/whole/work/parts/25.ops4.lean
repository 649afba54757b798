theorem sA_sA (S : St) (k : Nat) (f g : Nat → Int32) : sA (sA S k f) k g = sA S k g := by
  unfold sA
  congr 1
  congr 1
  congr 1
  funext j
  by_cases e : j = k
  · simp [e]
  · simp [e]
theorem sB_sB (S : St) (k : Nat) (f g : Nat → Int64) : sB (sB S k f) k g = sB S k g := by
  unfold sB
  congr 1
  congr 1
  congr 1
  funext j
  by_cases e : j = k
  · simp [e]
  · simp [e]
theorem FU_s : FU = 3999999999 + 1 := FU_v
/-! asked -/
theorem b_shl1 : ∀ x : Nat, x < 6 → iv 1 <<< (iv x &&& iv 31) = iv ((2 ^ x : Nat) : Int) := by decide +kernel
theorem qb_lt {Q : Nat → Nat} (h : ∀ x, Q x ≤ 1) : qb Q < 64 := by
  unfold qb
  have := h 0; have := h 1; have := h 2; have := h 3; have := h 4; have := h 5
  omega
theorem qb_d : ∀ q : Nat, q < 64 → ∀ x : Nat, x < 6 → ((iv q &&& iv ((2 ^ x : Nat) : Int) = iv 0) ↔ q / 2 ^ x % 2 = 0) ∧ iv q &&& (iv ((2 ^ x : Nat) : Int) ^^^ iv (-1)) = iv ((q - q / 2 ^ x % 2 * 2 ^ x : Nat) : Int) ∧ iv q ||| iv ((2 ^ x : Nat) : Int) = iv ((q - q / 2 ^ x % 2 * 2 ^ x + 2 ^ x : Nat) : Int) := by decide +kernel
theorem qb_dig {Q : Nat → Nat} (h : ∀ x, Q x ≤ 1) {x : Nat} (hx : x < 6) : qb Q / 2 ^ x % 2 = Q x := by
  unfold qb
  have := h 0; have := h 1; have := h 2; have := h 3; have := h 4; have := h 5
  match x, hx with
  | 0, _ => omega
  | 1, _ => omega
  | 2, _ => omega
  | 3, _ => omega
  | 4, _ => omega
  | 5, _ => omega
theorem qb_up {Q : Nat → Nat} (h : ∀ x, Q x ≤ 1) {x v : Nat} (hx : x < 6) : qb (va_up Q x v) = qb Q - Q x * 2 ^ x + v * 2 ^ x := by
  have := h 0; have := h 1; have := h 2; have := h 3; have := h 4; have := h 5
  match x, hx with
  | 0, _ => simp (config := { decide := true }) only [qb, va_up, if_true, if_false]; omega
  | 1, _ => simp (config := { decide := true }) only [qb, va_up, if_true, if_false]; omega
  | 2, _ => simp (config := { decide := true }) only [qb, va_up, if_true, if_false]; omega
  | 3, _ => simp (config := { decide := true }) only [qb, va_up, if_true, if_false]; omega
  | 4, _ => simp (config := { decide := true }) only [qb, va_up, if_true, if_false]; omega
  | 5, _ => simp (config := { decide := true }) only [qb, va_up, if_true, if_false]; omega
theorem isB_0 : isB (iv 0) = true := by decide
theorem isB_1 : isB (iv 1) = true := by decide
theorem e_asked {P : Pr} {S : St} (hw : Wf P) (hR : RC P S) {x : Nat} (hx : x < 6) : f_X2_isAsked (iv x) S = some (iv (pQ P x), S) := by
  obtain ⟨c1, c2, c3, c4, c5, c6, c7, c8, c9, c10⟩ := hR
  have q8 := hw.2.2.2.2.2.2.2
  unfold f_X2_isAsked
  have h := (qb_d _ (qb_lt q8) x hx).1
  have h2 := qb_dig q8 hx
  have h3 := q8 x
  rw [h2] at h
  rw [i_0, i_1, i_31, c10, b_shl1 x hx]
  by_cases e : pQ P x = 0
  · rw [if_pos (h.mpr e), e]
    rfl
  · rw [if_neg (fun q => e (h.mp q)), show pQ P x = 1 by omega]
    rfl
def pAsk (P : Pr) (x v : Nat) : Pr := (pN P, pK P, pG P, pE P, pA P, pB P, pW P, va_up (pQ P) x v)
theorem outD_ask {P : Pr} {x v p c m : Nat} : ∀ k, outD (pAsk P x v) p c m k = outD P p c m k
  | 0 => rfl
  | k + 1 => by
    show outD (pAsk P x v) p c m k ++ _ = _
    rw [outD_ask k]
    rfl
theorem outs_ask {P : Pr} {x v p c m : Nat} : outs (pAsk P x v) p c m = outs P p c m := by
  unfold outs
  rw [outD_ask]
  rfl
theorem rns_ask {P : Pr} {x v : Nat} : ∀ n p c m, rns (pAsk P x v) n p c m = rns P n p c m
  | 0, p, c, m => rfl
  | n + 1, p, c, m => by
    show (if p < pN P then (if outs (pAsk P x v) p c m = [] then _ else (outs (pAsk P x v) p c m).flatMap (fun q => rns (pAsk P x v) n (npl P p c) q.1 q.2)) else _) = _
    rw [outs_ask, show (fun q : Nat × Nat => rns (pAsk P x v) n (npl P p c) q.1 q.2) = (fun q => rns P n (npl P p c) q.1 q.2) from funext fun q => rns_ask n _ _ _]
    rfl
theorem sm_ask (a b : Int32) (hb : b = 0 ∨ b = 1) : Sm (f_X4_ask a b) (f_X5_ask a b) := by
  intro Z SC SM hI
  obtain ⟨a, rfl, ha1, ha2⟩ := iv_ex a
  by_cases h1 : 0 ≤ a ∧ a ≤ 5
  · obtain ⟨x, rfl⟩ := Int.eq_ofNat_of_zero_le h1.1
    obtain ⟨w1, w2, w3, w4, w5⟩ := hI
    have w2' := w2
    obtain ⟨m1, m2, m3, m4, m5, m6, m7, m8, m9, m10⟩ := w3
    obtain ⟨c1, c2, c3, c4, c5, c6, c7, c8, c9, c10⟩ := w2
    have q8 := w1.2.2.2.2.2.2.2
    have hx : x < 6 := by omega
    have hq := q8 x
    have hd := qb_d _ (qb_lt q8) x hx
    have hg := qb_dig q8 hx
    have key : ∀ v : Nat, v ≤ 1 → b = iv v → ∃ SC' SM', f_X4_ask (iv (x : Int)) b SC = some (iv (pQ Z.1 x), SC') ∧ f_X5_ask (iv (x : Int)) b SM = some (iv (pQ Z.1 x), SM') ∧ Inv (pAsk Z.1 x v, 0, Z.2.2) SC' SM' := by
      intro v hv hbv
      have C : ∃ SC', f_X4_ask (iv (x : Int)) b SC = some (iv (pQ Z.1 x), SC') ∧ SC' = sI (sI SC 108 (iv 0)) 207 (iv ((qb (va_up (pQ Z.1) x v) : Nat) : Int)) := by
        unfold f_X4_ask f_X2_swapAsked
        have e : f_X1_end SC = some ((), sI SC 108 (iv 0)) := rfl
        have e2 : f_X2_isAsked (iv (x : Int)) (sI SC 108 (iv 0)) = some (iv (pQ Z.1 x), sI SC 108 (iv 0)) := e_asked w1 (RC_sI (by decide) w2') hx
        rw [qb_up q8 hx]
        rcases (show v = 0 ∨ v = 1 by omega) with rfl | rfl
        · subst hbv
          simp (disch := omega) only [nxt_e, bnd_s, chk_T, chk_nF, ↓reduceIte, i_0, i_1, i_2, i_3, i_4, i_5, i_6, i_8, i_9, i_10, i_15, i_19, i_20, i_30, i_31, i_40, i_60, i_100, i_200, i_1000, i_20000, iv_neg, iv_add, iv_sub, iv_mul, iv_lt, iv_le, iv_eq, iv_cl, iv_in, ltT, ltF, leT, leF, eqT, eqF, gI_e, gI_n, gI_sA, gI_sL, gI_sB, gL_e, gL_n, gL_sI, gL_sA, gL_sB, gA_e, gA_n, gA_sI, gA_sL, gA_sB, gB_e, gB_n, gB_sI, gB_sL, gB_sA, up_e, up_n, uL_e, uL_n, isIn_t, isIn_f, isTmM_t, isTmM_f, isRow_t, isRow_f, isVal_t, isVal_f, isVar_t, isVar_f, isTmC_t, isTmC_f, e, e2, c10]
          rcases (show pQ Z.1 x = 0 ∨ pQ Z.1 x = 1 by omega) with hq0 | hq0
          · rw [hq0] at hg ⊢
            simp (disch := omega) only [nxt_e, bnd_s, chk_T, chk_nF, ↓reduceIte, i_0, i_1, i_2, i_3, i_4, i_5, i_6, i_8, i_9, i_10, i_15, i_19, i_20, i_30, i_31, i_40, i_60, i_100, i_200, i_1000, i_20000, iv_neg, iv_add, iv_sub, iv_mul, iv_lt, iv_le, iv_eq, iv_cl, iv_in, ltT, ltF, leT, leF, eqT, eqF, gI_e, gI_n, gI_sA, gI_sL, gI_sB, gL_e, gL_n, gL_sI, gL_sA, gL_sB, gA_e, gA_n, gA_sI, gA_sL, gA_sB, gB_e, gB_n, gB_sI, gB_sL, gB_sA, up_e, up_n, uL_e, uL_n, isIn_t, isIn_f, isTmM_t, isTmM_f, isRow_t, isRow_f, isVal_t, isVal_f, isVar_t, isVar_f, isTmC_t, isTmC_f, isB_0, b_shl1 x hx, hd.2.1, hg]
            exact ⟨_, rfl, by simp⟩
          · rw [hq0] at hg ⊢
            simp (disch := omega) only [nxt_e, bnd_s, chk_T, chk_nF, ↓reduceIte, i_0, i_1, i_2, i_3, i_4, i_5, i_6, i_8, i_9, i_10, i_15, i_19, i_20, i_30, i_31, i_40, i_60, i_100, i_200, i_1000, i_20000, iv_neg, iv_add, iv_sub, iv_mul, iv_lt, iv_le, iv_eq, iv_cl, iv_in, ltT, ltF, leT, leF, eqT, eqF, gI_e, gI_n, gI_sA, gI_sL, gI_sB, gL_e, gL_n, gL_sI, gL_sA, gL_sB, gA_e, gA_n, gA_sI, gA_sL, gA_sB, gB_e, gB_n, gB_sI, gB_sL, gB_sA, up_e, up_n, uL_e, uL_n, isIn_t, isIn_f, isTmM_t, isTmM_f, isRow_t, isRow_f, isVal_t, isVal_f, isVar_t, isVar_f, isTmC_t, isTmC_f, isB_1, b_shl1 x hx, hd.2.1, hg]
            exact ⟨_, rfl, by simp⟩
        · subst hbv
          simp (disch := omega) only [nxt_e, bnd_s, chk_T, chk_nF, ↓reduceIte, i_0, i_1, i_2, i_3, i_4, i_5, i_6, i_8, i_9, i_10, i_15, i_19, i_20, i_30, i_31, i_40, i_60, i_100, i_200, i_1000, i_20000, iv_neg, iv_add, iv_sub, iv_mul, iv_lt, iv_le, iv_eq, iv_cl, iv_in, ltT, ltF, leT, leF, eqT, eqF, gI_e, gI_n, gI_sA, gI_sL, gI_sB, gL_e, gL_n, gL_sI, gL_sA, gL_sB, gA_e, gA_n, gA_sI, gA_sL, gA_sB, gB_e, gB_n, gB_sI, gB_sL, gB_sA, up_e, up_n, uL_e, uL_n, isIn_t, isIn_f, isTmM_t, isTmM_f, isRow_t, isRow_f, isVal_t, isVal_f, isVar_t, isVar_f, isTmC_t, isTmC_f, e, e2, c10]
          rcases (show pQ Z.1 x = 0 ∨ pQ Z.1 x = 1 by omega) with hq0 | hq0
          · rw [hq0] at hg ⊢
            simp (disch := omega) only [nxt_e, bnd_s, chk_T, chk_nF, ↓reduceIte, i_0, i_1, i_2, i_3, i_4, i_5, i_6, i_8, i_9, i_10, i_15, i_19, i_20, i_30, i_31, i_40, i_60, i_100, i_200, i_1000, i_20000, iv_neg, iv_add, iv_sub, iv_mul, iv_lt, iv_le, iv_eq, iv_cl, iv_in, ltT, ltF, leT, leF, eqT, eqF, gI_e, gI_n, gI_sA, gI_sL, gI_sB, gL_e, gL_n, gL_sI, gL_sA, gL_sB, gA_e, gA_n, gA_sI, gA_sL, gA_sB, gB_e, gB_n, gB_sI, gB_sL, gB_sA, up_e, up_n, uL_e, uL_n, isIn_t, isIn_f, isTmM_t, isTmM_f, isRow_t, isRow_f, isVal_t, isVal_f, isVar_t, isVar_f, isTmC_t, isTmC_f, isB_0, b_shl1 x hx, hd.2.2, hg]
            exact ⟨_, rfl, by simp⟩
          · rw [hq0] at hg ⊢
            simp (disch := omega) only [nxt_e, bnd_s, chk_T, chk_nF, ↓reduceIte, i_0, i_1, i_2, i_3, i_4, i_5, i_6, i_8, i_9, i_10, i_15, i_19, i_20, i_30, i_31, i_40, i_60, i_100, i_200, i_1000, i_20000, iv_neg, iv_add, iv_sub, iv_mul, iv_lt, iv_le, iv_eq, iv_cl, iv_in, ltT, ltF, leT, leF, eqT, eqF, gI_e, gI_n, gI_sA, gI_sL, gI_sB, gL_e, gL_n, gL_sI, gL_sA, gL_sB, gA_e, gA_n, gA_sI, gA_sL, gA_sB, gB_e, gB_n, gB_sI, gB_sL, gB_sA, up_e, up_n, uL_e, uL_n, isIn_t, isIn_f, isTmM_t, isTmM_f, isRow_t, isRow_f, isVal_t, isVal_f, isVar_t, isVar_f, isTmC_t, isTmC_f, isB_1, b_shl1 x hx, hd.2.2, hg]
            exact ⟨_, rfl, by simp⟩
      have D : f_X5_ask (iv (x : Int)) b SM = some (iv (pQ Z.1 x), sI (sA (sI SM 0 (iv 0)) 7 (upd (gA SM 7) x (iv v))) 11 (iv 0)) := by
        unfold f_X5_ask
        rcases (show v = 0 ∨ v = 1 by omega) with rfl | rfl
        · subst hbv
          rcases (show pQ Z.1 x = 0 ∨ pQ Z.1 x = 1 by omega) with hq0 | hq0
          · simp (disch := omega) only [nxt_e, bnd_s, chk_T, chk_nF, ↓reduceIte, i_0, i_1, i_2, i_3, i_4, i_5, i_6, i_8, i_9, i_10, i_15, i_19, i_20, i_30, i_31, i_40, i_60, i_100, i_200, i_1000, i_20000, iv_neg, iv_add, iv_sub, iv_mul, iv_lt, iv_le, iv_eq, iv_cl, iv_in, ltT, ltF, leT, leF, eqT, eqF, gI_e, gI_n, gI_sA, gI_sL, gI_sB, gL_e, gL_n, gL_sI, gL_sA, gL_sB, gA_e, gA_n, gA_sI, gA_sL, gA_sB, gB_e, gB_n, gB_sI, gB_sL, gB_sA, up_e, up_n, uL_e, uL_n, isIn_t, isIn_f, isTmM_t, isTmM_f, isRow_t, isRow_f, isVal_t, isVal_f, isVar_t, isVar_f, isTmC_t, isTmC_f, Int.toNat_natCast, m10, hq0, bz0]
            rfl
          · simp (disch := omega) only [nxt_e, bnd_s, chk_T, chk_nF, ↓reduceIte, i_0, i_1, i_2, i_3, i_4, i_5, i_6, i_8, i_9, i_10, i_15, i_19, i_20, i_30, i_31, i_40, i_60, i_100, i_200, i_1000, i_20000, iv_neg, iv_add, iv_sub, iv_mul, iv_lt, iv_le, iv_eq, iv_cl, iv_in, ltT, ltF, leT, leF, eqT, eqF, gI_e, gI_n, gI_sA, gI_sL, gI_sB, gL_e, gL_n, gL_sI, gL_sA, gL_sB, gA_e, gA_n, gA_sI, gA_sL, gA_sB, gB_e, gB_n, gB_sI, gB_sL, gB_sA, up_e, up_n, uL_e, uL_n, isIn_t, isIn_f, isTmM_t, isTmM_f, isRow_t, isRow_f, isVal_t, isVal_f, isVar_t, isVar_f, isTmC_t, isTmC_f, Int.toNat_natCast, m10, hq0, bz0]
            rfl
        · subst hbv
          rcases (show pQ Z.1 x = 0 ∨ pQ Z.1 x = 1 by omega) with hq0 | hq0
          · simp (disch := omega) only [nxt_e, bnd_s, chk_T, chk_nF, ↓reduceIte, i_0, i_1, i_2, i_3, i_4, i_5, i_6, i_8, i_9, i_10, i_15, i_19, i_20, i_30, i_31, i_40, i_60, i_100, i_200, i_1000, i_20000, iv_neg, iv_add, iv_sub, iv_mul, iv_lt, iv_le, iv_eq, iv_cl, iv_in, ltT, ltF, leT, leF, eqT, eqF, gI_e, gI_n, gI_sA, gI_sL, gI_sB, gL_e, gL_n, gL_sI, gL_sA, gL_sB, gA_e, gA_n, gA_sI, gA_sL, gA_sB, gB_e, gB_n, gB_sI, gB_sL, gB_sA, up_e, up_n, uL_e, uL_n, isIn_t, isIn_f, isTmM_t, isTmM_f, isRow_t, isRow_f, isVal_t, isVal_f, isVar_t, isVar_f, isTmC_t, isTmC_f, Int.toNat_natCast, m10, hq0, bz1]
            rfl
          · simp (disch := omega) only [nxt_e, bnd_s, chk_T, chk_nF, ↓reduceIte, i_0, i_1, i_2, i_3, i_4, i_5, i_6, i_8, i_9, i_10, i_15, i_19, i_20, i_30, i_31, i_40, i_60, i_100, i_200, i_1000, i_20000, iv_neg, iv_add, iv_sub, iv_mul, iv_lt, iv_le, iv_eq, iv_cl, iv_in, ltT, ltF, leT, leF, eqT, eqF, gI_e, gI_n, gI_sA, gI_sL, gI_sB, gL_e, gL_n, gL_sI, gL_sA, gL_sB, gA_e, gA_n, gA_sI, gA_sL, gA_sB, gB_e, gB_n, gB_sI, gB_sL, gB_sA, up_e, up_n, uL_e, uL_n, isIn_t, isIn_f, isTmM_t, isTmM_f, isRow_t, isRow_f, isVal_t, isVal_f, isVar_t, isVar_f, isTmC_t, isTmC_f, Int.toNat_natCast, m10, hq0, bz1]
            rfl
      obtain ⟨SC', C1, rfl⟩ := C
      refine ⟨_, _, C1, D, ?_, ?_, ?_, ?_, Or.inl ⟨rfl, ?_, ?_⟩⟩
      · obtain ⟨q1, q2, q3, q4, q5, q6, q7, q8⟩ := w1
        refine ⟨q1, q2, q3, q4, q5, q6, q7, fun y => ?_⟩
        show va_up (pQ Z.1) x v y ≤ 1
        by_cases e : y = x
        · rw [vup_e e]; exact hv
        · rw [vup_n e]; exact q8 y
      · refine ⟨?_, ?_, ?_, c4, c5, c6, c7, c8, c9, ?_⟩
        · rw [gI_n (by decide), gI_n (by decide)]; exact c1
        · rw [gI_n (by decide), gI_n (by decide)]; exact c2
        · rw [gI_n (by decide), gI_n (by decide)]; exact c3
        · rw [gI_e]; rfl
      · refine ⟨m1, m2, m3, ?_, ?_, ?_, ?_, ?_, ?_, ?_⟩
        · simp (disch := omega) only [gI_e, gI_n, gI_sA, gI_sL, gI_sB, gL_e, gL_n, gL_sI, gL_sA, gL_sB, gA_e, gA_n, gA_sI, gA_sL, gA_sB, gB_e, gB_n, gB_sI, gB_sL, gB_sA, up_e, up_n, uL_e, uL_n]; exact m4
        · simp (disch := omega) only [gI_e, gI_n, gI_sA, gI_sL, gI_sB, gL_e, gL_n, gL_sI, gL_sA, gL_sB, gA_e, gA_n, gA_sI, gA_sL, gA_sB, gB_e, gB_n, gB_sI, gB_sL, gB_sA, up_e, up_n, uL_e, uL_n]; exact m5
        · simp (disch := omega) only [gI_e, gI_n, gI_sA, gI_sL, gI_sB, gL_e, gL_n, gL_sI, gL_sA, gL_sB, gA_e, gA_n, gA_sI, gA_sL, gA_sB, gB_e, gB_n, gB_sI, gB_sL, gB_sA, up_e, up_n, uL_e, uL_n]; exact m6
        · simp (disch := omega) only [gI_e, gI_n, gI_sA, gI_sL, gI_sB, gL_e, gL_n, gL_sI, gL_sA, gL_sB, gA_e, gA_n, gA_sI, gA_sL, gA_sB, gB_e, gB_n, gB_sI, gB_sL, gB_sA, up_e, up_n, uL_e, uL_n]; exact m7
        · simp (disch := omega) only [gI_e, gI_n, gI_sA, gI_sL, gI_sB, gL_e, gL_n, gL_sI, gL_sA, gL_sB, gA_e, gA_n, gA_sI, gA_sL, gA_sB, gB_e, gB_n, gB_sI, gB_sL, gB_sA, up_e, up_n, uL_e, uL_n]; exact m8
        · simp (disch := omega) only [gI_e, gI_n, gI_sA, gI_sL, gI_sB, gL_e, gL_n, gL_sI, gL_sA, gL_sB, gA_e, gA_n, gA_sI, gA_sL, gA_sB, gB_e, gB_n, gB_sI, gB_sL, gB_sA, up_e, up_n, uL_e, uL_n]; exact m9
        · intro y hy
          rw [gA_sI, gA_e]
          show _ = iv ((va_up (pQ Z.1) x v y : Nat) : Int)
          by_cases e : y = x
          · rw [up_e e, vup_e e]
          · rw [up_n e, vup_n e]; exact m10 y hy
      · have : RCK (pAsk Z.1 x v) (sI (sI SC 108 (iv 0)) 207 (iv ((qb (va_up (pQ Z.1) x v) : Nat) : Int))) ↔ RCK Z.1 (sI (sI SC 108 (iv 0)) 207 (iv ((qb (va_up (pQ Z.1) x v) : Nat) : Int))) := by
          unfold RCK allR
          rw [rns_ask]
        exact this.mpr (RCK_sI (by decide) (RCK_sI (by decide) w4))
      · rw [gI_n (by decide), gI_e]
      · rw [gI_e]
    rcases hb with hb | hb
    · obtain ⟨SC', SM', k1, k2, k3⟩ := key 0 (by omega) hb
      exact ⟨_, SC', SM', _, k1, k2, k3⟩
    · obtain ⟨SC', SM', k1, k2, k3⟩ := key 1 (by omega) hb
      exact ⟨_, SC', SM', _, k1, k2, k3⟩
  · refine ⟨iv (-1), SC, sI SM 0 (iv 0), Z, ?_, ?_, Inv_thr _ hI⟩
    · unfold f_X4_ask
      simp (disch := omega) only [nxt_e, bnd_s, chk_T, chk_nF, ↓reduceIte, i_0, i_1, i_2, i_3, i_4, i_5, i_6, i_8, i_9, i_10, i_15, i_19, i_20, i_30, i_31, i_40, i_60, i_100, i_200, i_1000, i_20000, iv_neg, iv_add, iv_sub, iv_mul, iv_lt, iv_le, iv_eq, iv_cl, iv_in, ltT, ltF, leT, leF, eqT, eqF, gI_e, gI_n, gI_sA, gI_sL, gI_sB, gL_e, gL_n, gL_sI, gL_sA, gL_sB, gA_e, gA_n, gA_sI, gA_sL, gA_sB, gB_e, gB_n, gB_sI, gB_sL, gB_sA, up_e, up_n, uL_e, uL_n, isIn_t, isIn_f, isTmM_t, isTmM_f, isRow_t, isRow_f, isVal_t, isVal_f, isVar_t, isVar_f, isTmC_t, isTmC_f]
    · unfold f_X5_ask
      simp (disch := omega) only [nxt_e, bnd_s, chk_T, chk_nF, ↓reduceIte, i_0, i_1, i_2, i_3, i_4, i_5, i_6, i_8, i_9, i_10, i_15, i_19, i_20, i_30, i_31, i_40, i_60, i_100, i_200, i_1000, i_20000, iv_neg, iv_add, iv_sub, iv_mul, iv_lt, iv_le, iv_eq, iv_cl, iv_in, ltT, ltF, leT, leF, eqT, eqF, gI_e, gI_n, gI_sA, gI_sL, gI_sB, gL_e, gL_n, gL_sI, gL_sA, gL_sB, gA_e, gA_n, gA_sI, gA_sL, gA_sB, gB_e, gB_n, gB_sI, gB_sL, gB_sA, up_e, up_n, uL_e, uL_n, isIn_t, isIn_f, isTmM_t, isTmM_f, isRow_t, isRow_f, isVal_t, isVal_f, isVar_t, isVar_f, isTmC_t, isTmC_f]
theorem sm_count (a : Int32) : Sm (f_X4_count a) (f_X5_count a) := by
  intro Z SC SM hI
  have hI2 := hI
  obtain ⟨w1, w2, w3, w4, w5⟩ := hI
  obtain ⟨m1, m2, m3, m4, m5, m6, m7, m8, m9, m10⟩ := w3
  obtain ⟨c1, c2, c3, c4, c5, c6, c7, c8, c9, c10⟩ := w2
  obtain ⟨a, rfl, ha1, ha2⟩ := iv_ex a
  have fin : ∀ r : Int32, f_X4_count (iv a) SC = some (r, SC) → f_X5_count (iv a) SM = some (r, sI SM 0 (iv 0)) → ∃ (r : Int32) (SC' SM' : St) (Z' : Zt), f_X4_count (iv a) SC = some (r, SC') ∧ f_X5_count (iv a) SM = some (r, SM') ∧ Inv Z' SC' SM' := fun r h1 h2 => ⟨r, SC, _, Z, h1, h2, Inv_thr _ hI2⟩
  unfold f_X4_count f_X5_count at fin ⊢
  by_cases a0 : a = 0
  · exact fin (iv (pN Z.1)) (by simp (disch := omega) only [nxt_e, bnd_s, chk_T, chk_nF, ↓reduceIte, i_0, i_1, i_2, i_3, i_4, i_5, i_6, i_8, i_9, i_10, i_15, i_19, i_20, i_30, i_31, i_40, i_60, i_100, i_200, i_1000, i_20000, iv_neg, iv_add, iv_sub, iv_mul, iv_lt, iv_le, iv_eq, iv_cl, iv_in, ltT, ltF, leT, leF, eqT, eqF, gI_e, gI_n, gI_sA, gI_sL, gI_sB, gL_e, gL_n, gL_sI, gL_sA, gL_sB, gA_e, gA_n, gA_sI, gA_sL, gA_sB, gB_e, gB_n, gB_sI, gB_sL, gB_sA, up_e, up_n, uL_e, uL_n, isIn_t, isIn_f, isTmM_t, isTmM_f, isRow_t, isRow_f, isVal_t, isVal_f, isVar_t, isVar_f, isTmC_t, isTmC_f, c1]) (by simp (disch := omega) only [nxt_e, bnd_s, chk_T, chk_nF, ↓reduceIte, i_0, i_1, i_2, i_3, i_4, i_5, i_6, i_8, i_9, i_10, i_15, i_19, i_20, i_30, i_31, i_40, i_60, i_100, i_200, i_1000, i_20000, iv_neg, iv_add, iv_sub, iv_mul, iv_lt, iv_le, iv_eq, iv_cl, iv_in, ltT, ltF, leT, leF, eqT, eqF, gI_e, gI_n, gI_sA, gI_sL, gI_sB, gL_e, gL_n, gL_sI, gL_sA, gL_sB, gA_e, gA_n, gA_sI, gA_sL, gA_sB, gB_e, gB_n, gB_sI, gB_sL, gB_sA, up_e, up_n, uL_e, uL_n, isIn_t, isIn_f, isTmM_t, isTmM_f, isRow_t, isRow_f, isVal_t, isVal_f, isVar_t, isVar_f, isTmC_t, isTmC_f, m1])
  · by_cases a1 : a = 1
    · exact fin (iv (cnt (pK Z.1) 0 (pN Z.1))) (by simp (disch := omega) only [nxt_e, bnd_s, chk_T, chk_nF, ↓reduceIte, i_0, i_1, i_2, i_3, i_4, i_5, i_6, i_8, i_9, i_10, i_15, i_19, i_20, i_30, i_31, i_40, i_60, i_100, i_200, i_1000, i_20000, iv_neg, iv_add, iv_sub, iv_mul, iv_lt, iv_le, iv_eq, iv_cl, iv_in, ltT, ltF, leT, leF, eqT, eqF, gI_e, gI_n, gI_sA, gI_sL, gI_sB, gL_e, gL_n, gL_sI, gL_sA, gL_sB, gA_e, gA_n, gA_sI, gA_sL, gA_sB, gB_e, gB_n, gB_sI, gB_sL, gB_sA, up_e, up_n, uL_e, uL_n, isIn_t, isIn_f, isTmM_t, isTmM_f, isRow_t, isRow_f, isVal_t, isVal_f, isVar_t, isVar_f, isTmC_t, isTmC_f, c2]) (by simp (disch := omega) only [nxt_e, bnd_s, chk_T, chk_nF, ↓reduceIte, i_0, i_1, i_2, i_3, i_4, i_5, i_6, i_8, i_9, i_10, i_15, i_19, i_20, i_30, i_31, i_40, i_60, i_100, i_200, i_1000, i_20000, iv_neg, iv_add, iv_sub, iv_mul, iv_lt, iv_le, iv_eq, iv_cl, iv_in, ltT, ltF, leT, leF, eqT, eqF, gI_e, gI_n, gI_sA, gI_sL, gI_sB, gL_e, gL_n, gL_sI, gL_sA, gL_sB, gA_e, gA_n, gA_sI, gA_sL, gA_sB, gB_e, gB_n, gB_sI, gB_sL, gB_sA, up_e, up_n, uL_e, uL_n, isIn_t, isIn_f, isTmM_t, isTmM_f, isRow_t, isRow_f, isVal_t, isVal_f, isVar_t, isVar_f, isTmC_t, isTmC_f, m2])
    · by_cases a2 : a = 2
      · exact fin (iv (cnt (pK Z.1) 3 (pN Z.1))) (by simp (disch := omega) only [nxt_e, bnd_s, chk_T, chk_nF, ↓reduceIte, i_0, i_1, i_2, i_3, i_4, i_5, i_6, i_8, i_9, i_10, i_15, i_19, i_20, i_30, i_31, i_40, i_60, i_100, i_200, i_1000, i_20000, iv_neg, iv_add, iv_sub, iv_mul, iv_lt, iv_le, iv_eq, iv_cl, iv_in, ltT, ltF, leT, leF, eqT, eqF, gI_e, gI_n, gI_sA, gI_sL, gI_sB, gL_e, gL_n, gL_sI, gL_sA, gL_sB, gA_e, gA_n, gA_sI, gA_sL, gA_sB, gB_e, gB_n, gB_sI, gB_sL, gB_sA, up_e, up_n, uL_e, uL_n, isIn_t, isIn_f, isTmM_t, isTmM_f, isRow_t, isRow_f, isVal_t, isVal_f, isVar_t, isVar_f, isTmC_t, isTmC_f, c3]) (by simp (disch := omega) only [nxt_e, bnd_s, chk_T, chk_nF, ↓reduceIte, i_0, i_1, i_2, i_3, i_4, i_5, i_6, i_8, i_9, i_10, i_15, i_19, i_20, i_30, i_31, i_40, i_60, i_100, i_200, i_1000, i_20000, iv_neg, iv_add, iv_sub, iv_mul, iv_lt, iv_le, iv_eq, iv_cl, iv_in, ltT, ltF, leT, leF, eqT, eqF, gI_e, gI_n, gI_sA, gI_sL, gI_sB, gL_e, gL_n, gL_sI, gL_sA, gL_sB, gA_e, gA_n, gA_sI, gA_sL, gA_sB, gB_e, gB_n, gB_sI, gB_sL, gB_sA, up_e, up_n, uL_e, uL_n, isIn_t, isIn_f, isTmM_t, isTmM_f, isRow_t, isRow_f, isVal_t, isVal_f, isVar_t, isVar_f, isTmC_t, isTmC_f, m3])
      · by_cases a3 : a = 3
        · rcases w5 with ⟨o, o1, o2⟩ | ⟨o, o1, o2, o3, o4, o5⟩
          · exact fin (iv 0) (by simp (disch := omega) only [nxt_e, bnd_s, chk_T, chk_nF, ↓reduceIte, i_0, i_1, i_2, i_3, i_4, i_5, i_6, i_8, i_9, i_10, i_15, i_19, i_20, i_30, i_31, i_40, i_60, i_100, i_200, i_1000, i_20000, iv_neg, iv_add, iv_sub, iv_mul, iv_lt, iv_le, iv_eq, iv_cl, iv_in, ltT, ltF, leT, leF, eqT, eqF, gI_e, gI_n, gI_sA, gI_sL, gI_sB, gL_e, gL_n, gL_sI, gL_sA, gL_sB, gA_e, gA_n, gA_sI, gA_sL, gA_sB, gB_e, gB_n, gB_sI, gB_sL, gB_sA, up_e, up_n, uL_e, uL_n, isIn_t, isIn_f, isTmM_t, isTmM_f, isRow_t, isRow_f, isVal_t, isVal_f, isVar_t, isVar_f, isTmC_t, isTmC_f, o1]) (by simp (disch := omega) only [nxt_e, bnd_s, chk_T, chk_nF, ↓reduceIte, i_0, i_1, i_2, i_3, i_4, i_5, i_6, i_8, i_9, i_10, i_15, i_19, i_20, i_30, i_31, i_40, i_60, i_100, i_200, i_1000, i_20000, iv_neg, iv_add, iv_sub, iv_mul, iv_lt, iv_le, iv_eq, iv_cl, iv_in, ltT, ltF, leT, leF, eqT, eqF, gI_e, gI_n, gI_sA, gI_sL, gI_sB, gL_e, gL_n, gL_sI, gL_sA, gL_sB, gA_e, gA_n, gA_sI, gA_sL, gA_sB, gB_e, gB_n, gB_sI, gB_sL, gB_sA, up_e, up_n, uL_e, uL_n, isIn_t, isIn_f, isTmM_t, isTmM_f, isRow_t, isRow_f, isVal_t, isVal_f, isVar_t, isVar_f, isTmC_t, isTmC_f, o2])
          · obtain ⟨fs, x1, x2, x3, x4, x5, x6, x7⟩ := o4
            obtain ⟨y1, y2, y3, y4, y5, y6, y7⟩ := o5
            exact fin (iv (lWk Z.2.2)) (by simp (disch := omega) only [nxt_e, bnd_s, chk_T, chk_nF, ↓reduceIte, i_0, i_1, i_2, i_3, i_4, i_5, i_6, i_8, i_9, i_10, i_15, i_19, i_20, i_30, i_31, i_40, i_60, i_100, i_200, i_1000, i_20000, iv_neg, iv_add, iv_sub, iv_mul, iv_lt, iv_le, iv_eq, iv_cl, iv_in, ltT, ltF, leT, leF, eqT, eqF, gI_e, gI_n, gI_sA, gI_sL, gI_sB, gL_e, gL_n, gL_sI, gL_sA, gL_sB, gA_e, gA_n, gA_sI, gA_sL, gA_sB, gB_e, gB_n, gB_sI, gB_sL, gB_sA, up_e, up_n, uL_e, uL_n, isIn_t, isIn_f, isTmM_t, isTmM_f, isRow_t, isRow_f, isVal_t, isVal_f, isVar_t, isVar_f, isTmC_t, isTmC_f, o1, x6]) (by simp (disch := omega) only [nxt_e, bnd_s, chk_T, chk_nF, ↓reduceIte, i_0, i_1, i_2, i_3, i_4, i_5, i_6, i_8, i_9, i_10, i_15, i_19, i_20, i_30, i_31, i_40, i_60, i_100, i_200, i_1000, i_20000, iv_neg, iv_add, iv_sub, iv_mul, iv_lt, iv_le, iv_eq, iv_cl, iv_in, ltT, ltF, leT, leF, eqT, eqF, gI_e, gI_n, gI_sA, gI_sL, gI_sB, gL_e, gL_n, gL_sI, gL_sA, gL_sB, gA_e, gA_n, gA_sI, gA_sL, gA_sB, gB_e, gB_n, gB_sI, gB_sL, gB_sA, up_e, up_n, uL_e, uL_n, isIn_t, isIn_f, isTmM_t, isTmM_f, isRow_t, isRow_f, isVal_t, isVal_f, isVar_t, isVar_f, isTmC_t, isTmC_f, o2, y6])
        · exact fin (iv (-1)) (by simp (disch := omega) only [nxt_e, bnd_s, chk_T, chk_nF, ↓reduceIte, i_0, i_1, i_2, i_3, i_4, i_5, i_6, i_8, i_9, i_10, i_15, i_19, i_20, i_30, i_31, i_40, i_60, i_100, i_200, i_1000, i_20000, iv_neg, iv_add, iv_sub, iv_mul, iv_lt, iv_le, iv_eq, iv_cl, iv_in, ltT, ltF, leT, leF, eqT, eqF, gI_e, gI_n, gI_sA, gI_sL, gI_sB, gL_e, gL_n, gL_sI, gL_sA, gL_sB, gA_e, gA_n, gA_sI, gA_sL, gA_sB, gB_e, gB_n, gB_sI, gB_sL, gB_sA, up_e, up_n, uL_e, uL_n, isIn_t, isIn_f, isTmM_t, isTmM_f, isRow_t, isRow_f, isVal_t, isVal_f, isVar_t, isVar_f, isTmC_t, isTmC_f]) (by simp (disch := omega) only [nxt_e, bnd_s, chk_T, chk_nF, ↓reduceIte, i_0, i_1, i_2, i_3, i_4, i_5, i_6, i_8, i_9, i_10, i_15, i_19, i_20, i_30, i_31, i_40, i_60, i_100, i_200, i_1000, i_20000, iv_neg, iv_add, iv_sub, iv_mul, iv_lt, iv_le, iv_eq, iv_cl, iv_in, ltT, ltF, leT, leF, eqT, eqF, gI_e, gI_n, gI_sA, gI_sL, gI_sB, gL_e, gL_n, gL_sI, gL_sA, gL_sB, gA_e, gA_n, gA_sI, gA_sL, gA_sB, gB_e, gB_n, gB_sI, gB_sL, gB_sA, up_e, up_n, uL_e, uL_n, isIn_t, isIn_f, isTmM_t, isTmM_f, isRow_t, isRow_f, isVal_t, isVal_f, isVar_t, isVar_f, isTmC_t, isTmC_f])
