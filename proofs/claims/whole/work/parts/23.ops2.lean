/-! ===== steps come and go ===== -/
theorem cnt_up {K : Nat → Nat} {n k j : Nat} : ∀ p, p ≤ n → cnt (va_up K n k) j p = cnt K j p
  | 0, _ => rfl
  | p + 1, h => by
    show cnt (va_up K n k) j p + (if va_up K n k p = j then 1 else 0) = cnt K j p + (if K p = j then 1 else 0)
    rw [cnt_up p (by omega), show va_up K n k p = K p from if_neg (by omega)]
theorem cnt_up1 {K : Nat → Nat} {n k j : Nat} : cnt (va_up K n k) j (n + 1) = cnt K j n + if k = j then 1 else 0 := by
  show cnt (va_up K n k) j n + (if va_up K n k n = j then 1 else 0) = _
  rw [cnt_up n (Nat.le_refl n), show va_up K n k n = k from if_pos rfl]
theorem vup_e {α : Type} {f : Nat → α} {k j : Nat} {x : α} (h : j = k) : va_up f k x j = x := if_pos h
theorem vup_n {α : Type} {f : Nat → α} {k j : Nat} {x : α} (h : j ≠ k) : va_up f k x j = f j := if_neg h
theorem upd_iv {f : Nat → Int32} {K : Nat → Nat} {n k : Nat} (h : ∀ j, f j = iv ((K j : Nat) : Int)) : ∀ j, upd f n (iv (k : Int)) j = iv ((va_up K n k j : Nat) : Int) := fun j => by
  by_cases e : j = n
  · rw [up_e e, vup_e e]
  · rw [up_n e, vup_n e]
    exact h j
def pAdd (P : Pr) (k g e a b : Nat) : Pr := (pN P + 1, va_up (pK P) (pN P) k, va_up (pG P) (pN P) g, va_up (pE P) (pN P) e, va_up (pA P) (pN P) a, va_up (pB P) (pN P) b, pW P, pQ P)
theorem Wf_add {P : Pr} {k g e a b : Nat} (hw : Wf P) (hk : k ≤ 4) (hg : g ≤ 5) (ha : isTm a) (hb : isTm b) (he0 : k = 0 → e ≤ 3) (he : e ≤ 9) (hn : pN P < 30) (h0 : k = 0 → cnt (pK P) 0 (pN P) < 8) (h3 : k = 3 → cnt (pK P) 3 (pN P) < 3) (hab : (k = 0 → a = 10 ∧ b = 10) ∧ (k = 4 → b = 10)) : Wf (pAdd P k g e a b) := by
  obtain ⟨q1, q2, q3, q4, q5, q6, q7, q8⟩ := hw
  refine ⟨hn, fun j => ?_, fun j => ?_, fun j => ?_, q5, ?_, ?_, q8⟩
  · show va_up (pK P) (pN P) k j ≤ 4 ∧ va_up (pG P) (pN P) g j ≤ 5 ∧ isTm (va_up (pA P) (pN P) a j) ∧ isTm (va_up (pB P) (pN P) b j) ∧ (j < pN P + 1 → (va_up (pK P) (pN P) k j = 0 → va_up (pA P) (pN P) a j = 10 ∧ va_up (pB P) (pN P) b j = 10) ∧ (va_up (pK P) (pN P) k j = 4 → va_up (pB P) (pN P) b j = 10))
    by_cases e1 : j = pN P
    · rw [vup_e e1, vup_e e1, vup_e e1, vup_e e1]
      exact ⟨hk, hg, ha, hb, fun _ => hab⟩
    · rw [vup_n e1, vup_n e1, vup_n e1, vup_n e1]
      obtain ⟨z1, z2, z3, z4, z5⟩ := q2 j
      exact ⟨z1, z2, z3, z4, fun hj => z5 (by omega)⟩
  · show va_up (pK P) (pN P) k j = 0 → va_up (pE P) (pN P) e j ≤ 3
    by_cases e1 : j = pN P
    · rw [vup_e e1, vup_e e1]
      exact he0
    · rw [vup_n e1, vup_n e1]
      exact q3 j
  · show va_up (pE P) (pN P) e j ≤ 9
    by_cases e1 : j = pN P
    · rw [vup_e e1]; exact he
    · rw [vup_n e1]; exact q4 j
  · show cnt (va_up (pK P) (pN P) k) 0 (pN P + 1) ≤ 8
    rw [cnt_up1]
    split
    · have := h0 (by assumption); omega
    · omega
  · show cnt (va_up (pK P) (pN P) k) 3 (pN P + 1) ≤ 3
    rw [cnt_up1]
    split
    · have := h3 (by assumption); omega
    · omega
theorem addC {P : Pr} {S : St} {k g e a b : Nat} (hw : Wf P) (hR : RC P S) (hk : k ≤ 4) (hn : pN P < 30) (h0 : k = 0 → cnt (pK P) 0 (pN P) < 8) (h3 : k = 3 → cnt (pK P) 3 (pN P) < 3) : ∃ S', f_X4_addStep (iv k) (iv g) (iv e) (iv a) (iv b) S = some (iv (pN P), S') ∧ RC (pAdd P k g e a b) S' ∧ gI S' 108 = iv 0 ∧ gI S' 304 = iv 0 := by
  obtain ⟨c1, c2, c3, c4, c5, c6, c7, c8, c9, c10⟩ := hR
  obtain ⟨q1, q2, q3, q4, q5, q6, q7, q8⟩ := hw
  have A : ∀ (S' : St), gI S' 208 = iv ((pN P : Int) + 1) → gI S' 209 = iv ((cnt (va_up (pK P) (pN P) k) 0 (pN P + 1) : Nat) : Int) → gI S' 210 = iv ((cnt (va_up (pK P) (pN P) k) 3 (pN P + 1) : Nat) : Int) → gI S' 207 = gI S 207 → gA S' 4 = upd (gA S 4) (pN P) (iv k) → gA S' 5 = upd (gA S 5) (pN P) (iv g) → gA S' 6 = upd (gA S 6) (pN P) (iv e) → gA S' 7 = upd (gA S 7) (pN P) (iv a) → gA S' 8 = upd (gA S 8) (pN P) (iv b) → (∀ r, r < 4 → gA S' (19 + r) = gA S (19 + r)) → RC (pAdd P k g e a b) S' := by
    intro S' g1 g2 g3 g4 g5 g6 g7 g8 g9 g10
    refine ⟨?_, g2, g3, ?_, ?_, ?_, ?_, ?_, ?_, ?_⟩
    · rw [g1]; rfl
    · rw [g5]; exact upd_iv c4
    · rw [g6]; exact upd_iv c5
    · rw [g7]; exact upd_iv c6
    · rw [g8]; exact upd_iv c7
    · rw [g9]; exact upd_iv c8
    · intro r v hr hv
      rw [g10 r hr]
      exact c9 r v hr hv
    · rw [g4]; exact c10
  unfold f_X4_addStep f_X2_isFullFor f_X2_append f_X2_countKind
  by_cases k0 : k = 0
  · have := h0 k0
    subst k0
    simp (disch := omega) only [nxt_e, bnd_s, chk_T, chk_nF, ↓reduceIte, i_0, i_1, i_2, i_3, i_4, i_5, i_6, i_8, i_9, i_10, i_15, i_19, i_20, i_30, i_31, i_40, i_60, i_100, i_200, i_1000, i_20000, iv_neg, iv_add, iv_sub, iv_mul, iv_lt, iv_le, iv_eq, iv_cl, iv_in, ltT, ltF, leT, leF, eqT, eqF, gI_e, gI_n, gI_sA, gI_sL, gI_sB, gL_e, gL_n, gL_sI, gL_sA, gL_sB, gA_e, gA_n, gA_sI, gA_sL, gA_sB, gB_e, gB_n, gB_sI, gB_sL, gB_sA, up_e, up_n, uL_e, uL_n, e_chg, c1, c2, c3, Int.toNat_natCast]
    refine ⟨_, rfl, A _ ?_ ?_ ?_ ?_ ?_ ?_ ?_ ?_ ?_ ?_, ?_, ?_⟩
    all_goals first | (intro r hr; simp (disch := omega) only [nxt_e, bnd_s, chk_T, chk_nF, ↓reduceIte, i_0, i_1, i_2, i_3, i_4, i_5, i_6, i_8, i_9, i_10, i_15, i_19, i_20, i_30, i_31, i_40, i_60, i_100, i_200, i_1000, i_20000, iv_neg, iv_add, iv_sub, iv_mul, iv_lt, iv_le, iv_eq, iv_cl, iv_in, ltT, ltF, leT, leF, eqT, eqF, gI_e, gI_n, gI_sA, gI_sL, gI_sB, gL_e, gL_n, gL_sI, gL_sA, gL_sB, gA_e, gA_n, gA_sI, gA_sL, gA_sB, gB_e, gB_n, gB_sI, gB_sL, gB_sA, up_e, up_n, uL_e, uL_n, c1, c2, c3]; done) | (simp (disch := omega) only [nxt_e, bnd_s, chk_T, chk_nF, ↓reduceIte, i_0, i_1, i_2, i_3, i_4, i_5, i_6, i_8, i_9, i_10, i_15, i_19, i_20, i_30, i_31, i_40, i_60, i_100, i_200, i_1000, i_20000, iv_neg, iv_add, iv_sub, iv_mul, iv_lt, iv_le, iv_eq, iv_cl, iv_in, ltT, ltF, leT, leF, eqT, eqF, gI_e, gI_n, gI_sA, gI_sL, gI_sB, gL_e, gL_n, gL_sI, gL_sA, gL_sB, gA_e, gA_n, gA_sI, gA_sL, gA_sB, gB_e, gB_n, gB_sI, gB_sL, gB_sA, up_e, up_n, uL_e, uL_n, c1, c2, c3, cnt_up1]; done) | (simp (disch := omega) only [nxt_e, bnd_s, chk_T, chk_nF, ↓reduceIte, i_0, i_1, i_2, i_3, i_4, i_5, i_6, i_8, i_9, i_10, i_15, i_19, i_20, i_30, i_31, i_40, i_60, i_100, i_200, i_1000, i_20000, iv_neg, iv_add, iv_sub, iv_mul, iv_lt, iv_le, iv_eq, iv_cl, iv_in, ltT, ltF, leT, leF, eqT, eqF, gI_e, gI_n, gI_sA, gI_sL, gI_sB, gL_e, gL_n, gL_sI, gL_sA, gL_sB, gA_e, gA_n, gA_sI, gA_sL, gA_sB, gB_e, gB_n, gB_sI, gB_sL, gB_sA, up_e, up_n, uL_e, uL_n, c1, c2, c3, cnt_up1]; rfl)
  · by_cases k3 : k = 3
    · have := h3 k3
      subst k3
      simp (disch := omega) only [nxt_e, bnd_s, chk_T, chk_nF, ↓reduceIte, i_0, i_1, i_2, i_3, i_4, i_5, i_6, i_8, i_9, i_10, i_15, i_19, i_20, i_30, i_31, i_40, i_60, i_100, i_200, i_1000, i_20000, iv_neg, iv_add, iv_sub, iv_mul, iv_lt, iv_le, iv_eq, iv_cl, iv_in, ltT, ltF, leT, leF, eqT, eqF, gI_e, gI_n, gI_sA, gI_sL, gI_sB, gL_e, gL_n, gL_sI, gL_sA, gL_sB, gA_e, gA_n, gA_sI, gA_sL, gA_sB, gB_e, gB_n, gB_sI, gB_sL, gB_sA, up_e, up_n, uL_e, uL_n, e_chg, c1, c2, c3, Int.toNat_natCast]
      refine ⟨_, rfl, A _ ?_ ?_ ?_ ?_ ?_ ?_ ?_ ?_ ?_ ?_, ?_, ?_⟩
      all_goals first | (intro r hr; simp (disch := omega) only [nxt_e, bnd_s, chk_T, chk_nF, ↓reduceIte, i_0, i_1, i_2, i_3, i_4, i_5, i_6, i_8, i_9, i_10, i_15, i_19, i_20, i_30, i_31, i_40, i_60, i_100, i_200, i_1000, i_20000, iv_neg, iv_add, iv_sub, iv_mul, iv_lt, iv_le, iv_eq, iv_cl, iv_in, ltT, ltF, leT, leF, eqT, eqF, gI_e, gI_n, gI_sA, gI_sL, gI_sB, gL_e, gL_n, gL_sI, gL_sA, gL_sB, gA_e, gA_n, gA_sI, gA_sL, gA_sB, gB_e, gB_n, gB_sI, gB_sL, gB_sA, up_e, up_n, uL_e, uL_n, c1, c2, c3]; done) | (simp (disch := omega) only [nxt_e, bnd_s, chk_T, chk_nF, ↓reduceIte, i_0, i_1, i_2, i_3, i_4, i_5, i_6, i_8, i_9, i_10, i_15, i_19, i_20, i_30, i_31, i_40, i_60, i_100, i_200, i_1000, i_20000, iv_neg, iv_add, iv_sub, iv_mul, iv_lt, iv_le, iv_eq, iv_cl, iv_in, ltT, ltF, leT, leF, eqT, eqF, gI_e, gI_n, gI_sA, gI_sL, gI_sB, gL_e, gL_n, gL_sI, gL_sA, gL_sB, gA_e, gA_n, gA_sI, gA_sL, gA_sB, gB_e, gB_n, gB_sI, gB_sL, gB_sA, up_e, up_n, uL_e, uL_n, c1, c2, c3, cnt_up1]; done) | (simp (disch := omega) only [nxt_e, bnd_s, chk_T, chk_nF, ↓reduceIte, i_0, i_1, i_2, i_3, i_4, i_5, i_6, i_8, i_9, i_10, i_15, i_19, i_20, i_30, i_31, i_40, i_60, i_100, i_200, i_1000, i_20000, iv_neg, iv_add, iv_sub, iv_mul, iv_lt, iv_le, iv_eq, iv_cl, iv_in, ltT, ltF, leT, leF, eqT, eqF, gI_e, gI_n, gI_sA, gI_sL, gI_sB, gL_e, gL_n, gL_sI, gL_sA, gL_sB, gA_e, gA_n, gA_sI, gA_sL, gA_sB, gB_e, gB_n, gB_sI, gB_sL, gB_sA, up_e, up_n, uL_e, uL_n, c1, c2, c3, cnt_up1]; rfl)
    · simp (disch := omega) only [nxt_e, bnd_s, chk_T, chk_nF, ↓reduceIte, i_0, i_1, i_2, i_3, i_4, i_5, i_6, i_8, i_9, i_10, i_15, i_19, i_20, i_30, i_31, i_40, i_60, i_100, i_200, i_1000, i_20000, iv_neg, iv_add, iv_sub, iv_mul, iv_lt, iv_le, iv_eq, iv_cl, iv_in, ltT, ltF, leT, leF, eqT, eqF, gI_e, gI_n, gI_sA, gI_sL, gI_sB, gL_e, gL_n, gL_sI, gL_sA, gL_sB, gA_e, gA_n, gA_sI, gA_sL, gA_sB, gB_e, gB_n, gB_sI, gB_sL, gB_sA, up_e, up_n, uL_e, uL_n, e_chg, c1, c2, c3, Int.toNat_natCast]
      refine ⟨_, rfl, A _ ?_ ?_ ?_ ?_ ?_ ?_ ?_ ?_ ?_ ?_, ?_, ?_⟩
      all_goals first | (intro r hr; simp (disch := omega) only [nxt_e, bnd_s, chk_T, chk_nF, ↓reduceIte, i_0, i_1, i_2, i_3, i_4, i_5, i_6, i_8, i_9, i_10, i_15, i_19, i_20, i_30, i_31, i_40, i_60, i_100, i_200, i_1000, i_20000, iv_neg, iv_add, iv_sub, iv_mul, iv_lt, iv_le, iv_eq, iv_cl, iv_in, ltT, ltF, leT, leF, eqT, eqF, gI_e, gI_n, gI_sA, gI_sL, gI_sB, gL_e, gL_n, gL_sI, gL_sA, gL_sB, gA_e, gA_n, gA_sI, gA_sL, gA_sB, gB_e, gB_n, gB_sI, gB_sL, gB_sA, up_e, up_n, uL_e, uL_n, c1, c2, c3]; done) | (simp (disch := omega) only [nxt_e, bnd_s, chk_T, chk_nF, ↓reduceIte, i_0, i_1, i_2, i_3, i_4, i_5, i_6, i_8, i_9, i_10, i_15, i_19, i_20, i_30, i_31, i_40, i_60, i_100, i_200, i_1000, i_20000, iv_neg, iv_add, iv_sub, iv_mul, iv_lt, iv_le, iv_eq, iv_cl, iv_in, ltT, ltF, leT, leF, eqT, eqF, gI_e, gI_n, gI_sA, gI_sL, gI_sB, gL_e, gL_n, gL_sI, gL_sA, gL_sB, gA_e, gA_n, gA_sI, gA_sL, gA_sB, gB_e, gB_n, gB_sI, gB_sL, gB_sA, up_e, up_n, uL_e, uL_n, c1, c2, c3, cnt_up1, if_neg k0, if_neg k3, Nat.add_zero]; done) | (simp (disch := omega) only [nxt_e, bnd_s, chk_T, chk_nF, ↓reduceIte, i_0, i_1, i_2, i_3, i_4, i_5, i_6, i_8, i_9, i_10, i_15, i_19, i_20, i_30, i_31, i_40, i_60, i_100, i_200, i_1000, i_20000, iv_neg, iv_add, iv_sub, iv_mul, iv_lt, iv_le, iv_eq, iv_cl, iv_in, ltT, ltF, leT, leF, eqT, eqF, gI_e, gI_n, gI_sA, gI_sL, gI_sB, gL_e, gL_n, gL_sI, gL_sA, gL_sB, gA_e, gA_n, gA_sI, gA_sL, gA_sB, gB_e, gB_n, gB_sI, gB_sL, gB_sA, up_e, up_n, uL_e, uL_n, c1, c2, c3, cnt_up1, if_neg k0, if_neg k3]; rfl)
theorem addM {P : Pr} {S : St} {k g e a b : Nat} (hn : pN P < 30) (g1 : gI S 1 = iv (pN P)) (g2 : gI S 2 = iv ((cnt (va_up (pK P) (pN P) k) 0 (pN P + 1) : Nat) : Int)) (g3 : gI S 3 = iv ((cnt (va_up (pK P) (pN P) k) 3 (pN P + 1) : Nat) : Int)) (m4 : ∀ j, gA S 1 j = iv (pK P j)) (m5 : ∀ j, gA S 2 j = iv (pG P j)) (m6 : ∀ j, gA S 3 j = iv (pE P j)) (m7 : ∀ j, gA S 4 j = iv (pA P j)) (m8 : ∀ j, gA S 5 j = iv (pB P j)) (m9 : ∀ r v, r < 4 → v < 10 → gA S 6 (10 * r + v) = iv (pW P r v)) (m10 : ∀ x, x < 6 → gA S 7 x = iv (pQ P x)) : ∃ S', f_X5_added (iv k) (iv g) (iv e) (iv a) (iv b) S = some (iv (pN P), S') ∧ RM (pAdd P k g e a b) S' ∧ gI S' 11 = iv 0 := by
  unfold f_X5_added
  simp (disch := omega) only [nxt_e, bnd_s, chk_T, chk_nF, ↓reduceIte, i_0, i_1, i_2, i_3, i_4, i_5, i_6, i_8, i_9, i_10, i_15, i_19, i_20, i_30, i_31, i_40, i_60, i_100, i_200, i_1000, i_20000, iv_neg, iv_add, iv_sub, iv_mul, iv_lt, iv_le, iv_eq, iv_cl, iv_in, ltT, ltF, leT, leF, eqT, eqF, gI_e, gI_n, gI_sA, gI_sL, gI_sB, gL_e, gL_n, gL_sI, gL_sA, gL_sB, gA_e, gA_n, gA_sI, gA_sL, gA_sB, gB_e, gB_n, gB_sI, gB_sL, gB_sA, up_e, up_n, uL_e, uL_n, g1, Int.toNat_natCast, show ((pN P : Int) + 1 - 1) = pN P by omega]
  refine ⟨_, rfl, ⟨?_, ?_, ?_, ?_, ?_, ?_, ?_, ?_, ?_, ?_⟩, ?_⟩
  · simp (disch := omega) only [nxt_e, bnd_s, chk_T, chk_nF, ↓reduceIte, i_0, i_1, i_2, i_3, i_4, i_5, i_6, i_8, i_9, i_10, i_15, i_19, i_20, i_30, i_31, i_40, i_60, i_100, i_200, i_1000, i_20000, iv_neg, iv_add, iv_sub, iv_mul, iv_lt, iv_le, iv_eq, iv_cl, iv_in, ltT, ltF, leT, leF, eqT, eqF, gI_e, gI_n, gI_sA, gI_sL, gI_sB, gL_e, gL_n, gL_sI, gL_sA, gL_sB, gA_e, gA_n, gA_sI, gA_sL, gA_sB, gB_e, gB_n, gB_sI, gB_sL, gB_sA, up_e, up_n, uL_e, uL_n]; rfl
  · simp (disch := omega) only [nxt_e, bnd_s, chk_T, chk_nF, ↓reduceIte, i_0, i_1, i_2, i_3, i_4, i_5, i_6, i_8, i_9, i_10, i_15, i_19, i_20, i_30, i_31, i_40, i_60, i_100, i_200, i_1000, i_20000, iv_neg, iv_add, iv_sub, iv_mul, iv_lt, iv_le, iv_eq, iv_cl, iv_in, ltT, ltF, leT, leF, eqT, eqF, gI_e, gI_n, gI_sA, gI_sL, gI_sB, gL_e, gL_n, gL_sI, gL_sA, gL_sB, gA_e, gA_n, gA_sI, gA_sL, gA_sB, gB_e, gB_n, gB_sI, gB_sL, gB_sA, up_e, up_n, uL_e, uL_n]; exact g2
  · simp (disch := omega) only [nxt_e, bnd_s, chk_T, chk_nF, ↓reduceIte, i_0, i_1, i_2, i_3, i_4, i_5, i_6, i_8, i_9, i_10, i_15, i_19, i_20, i_30, i_31, i_40, i_60, i_100, i_200, i_1000, i_20000, iv_neg, iv_add, iv_sub, iv_mul, iv_lt, iv_le, iv_eq, iv_cl, iv_in, ltT, ltF, leT, leF, eqT, eqF, gI_e, gI_n, gI_sA, gI_sL, gI_sB, gL_e, gL_n, gL_sI, gL_sA, gL_sB, gA_e, gA_n, gA_sI, gA_sL, gA_sB, gB_e, gB_n, gB_sI, gB_sL, gB_sA, up_e, up_n, uL_e, uL_n]; exact g3
  · simp (disch := omega) only [nxt_e, bnd_s, chk_T, chk_nF, ↓reduceIte, i_0, i_1, i_2, i_3, i_4, i_5, i_6, i_8, i_9, i_10, i_15, i_19, i_20, i_30, i_31, i_40, i_60, i_100, i_200, i_1000, i_20000, iv_neg, iv_add, iv_sub, iv_mul, iv_lt, iv_le, iv_eq, iv_cl, iv_in, ltT, ltF, leT, leF, eqT, eqF, gI_e, gI_n, gI_sA, gI_sL, gI_sB, gL_e, gL_n, gL_sI, gL_sA, gL_sB, gA_e, gA_n, gA_sI, gA_sL, gA_sB, gB_e, gB_n, gB_sI, gB_sL, gB_sA, up_e, up_n, uL_e, uL_n]; exact upd_iv m4
  · simp (disch := omega) only [nxt_e, bnd_s, chk_T, chk_nF, ↓reduceIte, i_0, i_1, i_2, i_3, i_4, i_5, i_6, i_8, i_9, i_10, i_15, i_19, i_20, i_30, i_31, i_40, i_60, i_100, i_200, i_1000, i_20000, iv_neg, iv_add, iv_sub, iv_mul, iv_lt, iv_le, iv_eq, iv_cl, iv_in, ltT, ltF, leT, leF, eqT, eqF, gI_e, gI_n, gI_sA, gI_sL, gI_sB, gL_e, gL_n, gL_sI, gL_sA, gL_sB, gA_e, gA_n, gA_sI, gA_sL, gA_sB, gB_e, gB_n, gB_sI, gB_sL, gB_sA, up_e, up_n, uL_e, uL_n]; exact upd_iv m5
  · simp (disch := omega) only [nxt_e, bnd_s, chk_T, chk_nF, ↓reduceIte, i_0, i_1, i_2, i_3, i_4, i_5, i_6, i_8, i_9, i_10, i_15, i_19, i_20, i_30, i_31, i_40, i_60, i_100, i_200, i_1000, i_20000, iv_neg, iv_add, iv_sub, iv_mul, iv_lt, iv_le, iv_eq, iv_cl, iv_in, ltT, ltF, leT, leF, eqT, eqF, gI_e, gI_n, gI_sA, gI_sL, gI_sB, gL_e, gL_n, gL_sI, gL_sA, gL_sB, gA_e, gA_n, gA_sI, gA_sL, gA_sB, gB_e, gB_n, gB_sI, gB_sL, gB_sA, up_e, up_n, uL_e, uL_n]; exact upd_iv m6
  · simp (disch := omega) only [nxt_e, bnd_s, chk_T, chk_nF, ↓reduceIte, i_0, i_1, i_2, i_3, i_4, i_5, i_6, i_8, i_9, i_10, i_15, i_19, i_20, i_30, i_31, i_40, i_60, i_100, i_200, i_1000, i_20000, iv_neg, iv_add, iv_sub, iv_mul, iv_lt, iv_le, iv_eq, iv_cl, iv_in, ltT, ltF, leT, leF, eqT, eqF, gI_e, gI_n, gI_sA, gI_sL, gI_sB, gL_e, gL_n, gL_sI, gL_sA, gL_sB, gA_e, gA_n, gA_sI, gA_sL, gA_sB, gB_e, gB_n, gB_sI, gB_sL, gB_sA, up_e, up_n, uL_e, uL_n]; exact upd_iv m7
  · simp (disch := omega) only [nxt_e, bnd_s, chk_T, chk_nF, ↓reduceIte, i_0, i_1, i_2, i_3, i_4, i_5, i_6, i_8, i_9, i_10, i_15, i_19, i_20, i_30, i_31, i_40, i_60, i_100, i_200, i_1000, i_20000, iv_neg, iv_add, iv_sub, iv_mul, iv_lt, iv_le, iv_eq, iv_cl, iv_in, ltT, ltF, leT, leF, eqT, eqF, gI_e, gI_n, gI_sA, gI_sL, gI_sB, gL_e, gL_n, gL_sI, gL_sA, gL_sB, gA_e, gA_n, gA_sI, gA_sL, gA_sB, gB_e, gB_n, gB_sI, gB_sL, gB_sA, up_e, up_n, uL_e, uL_n]; exact upd_iv m8
  · simp (disch := omega) only [nxt_e, bnd_s, chk_T, chk_nF, ↓reduceIte, i_0, i_1, i_2, i_3, i_4, i_5, i_6, i_8, i_9, i_10, i_15, i_19, i_20, i_30, i_31, i_40, i_60, i_100, i_200, i_1000, i_20000, iv_neg, iv_add, iv_sub, iv_mul, iv_lt, iv_le, iv_eq, iv_cl, iv_in, ltT, ltF, leT, leF, eqT, eqF, gI_e, gI_n, gI_sA, gI_sL, gI_sB, gL_e, gL_n, gL_sI, gL_sA, gL_sB, gA_e, gA_n, gA_sI, gA_sL, gA_sB, gB_e, gB_n, gB_sI, gB_sL, gB_sA, up_e, up_n, uL_e, uL_n]; exact m9
  · simp (disch := omega) only [nxt_e, bnd_s, chk_T, chk_nF, ↓reduceIte, i_0, i_1, i_2, i_3, i_4, i_5, i_6, i_8, i_9, i_10, i_15, i_19, i_20, i_30, i_31, i_40, i_60, i_100, i_200, i_1000, i_20000, iv_neg, iv_add, iv_sub, iv_mul, iv_lt, iv_le, iv_eq, iv_cl, iv_in, ltT, ltF, leT, leF, eqT, eqF, gI_e, gI_n, gI_sA, gI_sL, gI_sB, gL_e, gL_n, gL_sI, gL_sA, gL_sB, gA_e, gA_n, gA_sI, gA_sL, gA_sB, gB_e, gB_n, gB_sI, gB_sL, gB_sA, up_e, up_n, uL_e, uL_n]; exact m10
  · simp (disch := omega) only [nxt_e, bnd_s, chk_T, chk_nF, ↓reduceIte, i_0, i_1, i_2, i_3, i_4, i_5, i_6, i_8, i_9, i_10, i_15, i_19, i_20, i_30, i_31, i_40, i_60, i_100, i_200, i_1000, i_20000, iv_neg, iv_add, iv_sub, iv_mul, iv_lt, iv_le, iv_eq, iv_cl, iv_in, ltT, ltF, leT, leF, eqT, eqF, gI_e, gI_n, gI_sA, gI_sL, gI_sB, gL_e, gL_n, gL_sI, gL_sA, gL_sB, gA_e, gA_n, gA_sI, gA_sL, gA_sB, gB_e, gB_n, gB_sI, gB_sL, gB_sA, up_e, up_n, uL_e, uL_n]
theorem Inv_end {P : Pr} {L : Ld} {SC SM : St} (h1 : Wf P) (h2 : RC P SC) (h3 : RM P SM) (h4 : gI SC 108 = iv 0) (h5 : gI SC 304 = iv 0) (h6 : gI SM 11 = iv 0) : Inv (P, 0, L) SC SM := ⟨h1, h2, h3, Or.inl h5, Or.inl ⟨rfl, h4, h6⟩⟩
theorem tm_of {z : Int} (h : (0 ≤ z ∧ z ≤ 5) ∨ (10 ≤ z ∧ z ≤ 19)) : ∃ t : Nat, z = t ∧ isTm t := by
  obtain ⟨t, rfl⟩ := Int.eq_ofNat_of_zero_le (show 0 ≤ z by omega)
  exact ⟨t, rfl, by unfold isTm; omega⟩
theorem e_full {P : Pr} {S : St} {k : Nat} {x1 x2 x3 x4 : Int32} (hw : Wf P) (hR : RC P S) (hk : k ≤ 4) (h : pN P = 30 ∨ (k = 0 ∧ cnt (pK P) 0 (pN P) = 8) ∨ (k = 3 ∧ cnt (pK P) 3 (pN P) = 3)) : f_X4_addStep (iv k) x1 x2 x3 x4 S = some (iv (-2), S) := by
  obtain ⟨c1, c2, c3, c4, c5, c6, c7, c8, c9, c10⟩ := hR
  obtain ⟨q1, q2, q3, q4, q5, q6, q7, q8⟩ := hw
  unfold f_X4_addStep f_X2_isFullFor
  rcases h with h | ⟨h, h'⟩ | ⟨h, h'⟩
  · simp (disch := omega) only [nxt_e, bnd_s, chk_T, chk_nF, ↓reduceIte, i_0, i_1, i_2, i_3, i_4, i_5, i_6, i_8, i_9, i_10, i_15, i_19, i_20, i_30, i_31, i_40, i_60, i_100, i_200, i_1000, i_20000, iv_neg, iv_add, iv_sub, iv_mul, iv_lt, iv_le, iv_eq, iv_cl, iv_in, ltT, ltF, leT, leF, eqT, eqF, gI_e, gI_n, gI_sA, gI_sL, gI_sB, gL_e, gL_n, gL_sI, gL_sA, gL_sB, gA_e, gA_n, gA_sI, gA_sL, gA_sB, gB_e, gB_n, gB_sI, gB_sL, gB_sA, up_e, up_n, uL_e, uL_n, c1, c2, c3]
  · by_cases h9 : pN P = 30
    · simp (disch := omega) only [nxt_e, bnd_s, chk_T, chk_nF, ↓reduceIte, i_0, i_1, i_2, i_3, i_4, i_5, i_6, i_8, i_9, i_10, i_15, i_19, i_20, i_30, i_31, i_40, i_60, i_100, i_200, i_1000, i_20000, iv_neg, iv_add, iv_sub, iv_mul, iv_lt, iv_le, iv_eq, iv_cl, iv_in, ltT, ltF, leT, leF, eqT, eqF, gI_e, gI_n, gI_sA, gI_sL, gI_sB, gL_e, gL_n, gL_sI, gL_sA, gL_sB, gA_e, gA_n, gA_sI, gA_sL, gA_sB, gB_e, gB_n, gB_sI, gB_sL, gB_sA, up_e, up_n, uL_e, uL_n, c1, c2, c3]
    · simp (disch := omega) only [nxt_e, bnd_s, chk_T, chk_nF, ↓reduceIte, i_0, i_1, i_2, i_3, i_4, i_5, i_6, i_8, i_9, i_10, i_15, i_19, i_20, i_30, i_31, i_40, i_60, i_100, i_200, i_1000, i_20000, iv_neg, iv_add, iv_sub, iv_mul, iv_lt, iv_le, iv_eq, iv_cl, iv_in, ltT, ltF, leT, leF, eqT, eqF, gI_e, gI_n, gI_sA, gI_sL, gI_sB, gL_e, gL_n, gL_sI, gL_sA, gL_sB, gA_e, gA_n, gA_sI, gA_sL, gA_sB, gB_e, gB_n, gB_sI, gB_sL, gB_sA, up_e, up_n, uL_e, uL_n, c1, c2, c3]
  · by_cases h9 : pN P = 30
    · simp (disch := omega) only [nxt_e, bnd_s, chk_T, chk_nF, ↓reduceIte, i_0, i_1, i_2, i_3, i_4, i_5, i_6, i_8, i_9, i_10, i_15, i_19, i_20, i_30, i_31, i_40, i_60, i_100, i_200, i_1000, i_20000, iv_neg, iv_add, iv_sub, iv_mul, iv_lt, iv_le, iv_eq, iv_cl, iv_in, ltT, ltF, leT, leF, eqT, eqF, gI_e, gI_n, gI_sA, gI_sL, gI_sB, gL_e, gL_n, gL_sI, gL_sA, gL_sB, gA_e, gA_n, gA_sI, gA_sL, gA_sB, gB_e, gB_n, gB_sI, gB_sL, gB_sA, up_e, up_n, uL_e, uL_n, c1, c2, c3]
    · simp (disch := omega) only [nxt_e, bnd_s, chk_T, chk_nF, ↓reduceIte, i_0, i_1, i_2, i_3, i_4, i_5, i_6, i_8, i_9, i_10, i_15, i_19, i_20, i_30, i_31, i_40, i_60, i_100, i_200, i_1000, i_20000, iv_neg, iv_add, iv_sub, iv_mul, iv_lt, iv_le, iv_eq, iv_cl, iv_in, ltT, ltF, leT, leF, eqT, eqF, gI_e, gI_n, gI_sA, gI_sL, gI_sB, gL_e, gL_n, gL_sI, gL_sA, gL_sB, gA_e, gA_n, gA_sI, gA_sL, gA_sB, gB_e, gB_n, gB_sI, gB_sL, gB_sA, up_e, up_n, uL_e, uL_n, c1, c2, c3]
theorem sm_draw (a b : Int32) : Sm (f_X4_draw a b) (f_X5_draw a b) := by
  intro Z SC SM hI
  obtain ⟨a, rfl, ha1, ha2⟩ := iv_ex a
  obtain ⟨b, rfl, hb1, hb2⟩ := iv_ex b
  by_cases h1 : 0 ≤ a ∧ a ≤ 5
  · by_cases h2 : 0 ≤ b ∧ b ≤ 3
    · have hI2 := hI
      obtain ⟨w1, w2, w3, w4, w5⟩ := hI
      have w3' := w3
      obtain ⟨m1, m2, m3, m4, m5, m6, m7, m8, m9, m10⟩ := w3
      have q1 := w1.1
      have q6 := w1.2.2.2.2.2.1
      by_cases h3 : pN Z.1 = 30 ∨ cnt (pK Z.1) 0 (pN Z.1) = 8
      · refine ⟨iv (-2), SC, sI SM 0 (iv 0), Z, ?_, ?_, Inv_thr _ hI2⟩
        · unfold f_X4_draw
          simp (disch := omega) only [nxt_e, bnd_s, chk_T, chk_nF, ↓reduceIte, i_0, i_1, i_2, i_3, i_4, i_5, i_6, i_8, i_9, i_10, i_15, i_19, i_20, i_30, i_31, i_40, i_60, i_100, i_200, i_1000, i_20000, iv_neg, iv_add, iv_sub, iv_mul, iv_lt, iv_le, iv_eq, iv_cl, iv_in, ltT, ltF, leT, leF, eqT, eqF, gI_e, gI_n, gI_sA, gI_sL, gI_sB, gL_e, gL_n, gL_sI, gL_sA, gL_sB, gA_e, gA_n, gA_sI, gA_sL, gA_sB, gB_e, gB_n, gB_sI, gB_sL, gB_sA, up_e, up_n, uL_e, uL_n, isIn_t, isIn_f, isTmM_t, isTmM_f, isRow_t, isRow_f, isVal_t, isVal_f, isVar_t, isVar_f, isTmC_t, isTmC_f]
          rw [show f_X4_addStep (iv 0) (iv a) (iv b) (iv 10) (iv 10) SC = some (iv (-2), SC) from e_full (k := 0) w1 w2 (by omega) (by omega)]
          rfl
        · unfold f_X5_draw
          by_cases h4 : pN Z.1 = 30
          · simp (disch := omega) only [nxt_e, bnd_s, chk_T, chk_nF, ↓reduceIte, i_0, i_1, i_2, i_3, i_4, i_5, i_6, i_8, i_9, i_10, i_15, i_19, i_20, i_30, i_31, i_40, i_60, i_100, i_200, i_1000, i_20000, iv_neg, iv_add, iv_sub, iv_mul, iv_lt, iv_le, iv_eq, iv_cl, iv_in, ltT, ltF, leT, leF, eqT, eqF, gI_e, gI_n, gI_sA, gI_sL, gI_sB, gL_e, gL_n, gL_sI, gL_sA, gL_sB, gA_e, gA_n, gA_sI, gA_sL, gA_sB, gB_e, gB_n, gB_sI, gB_sL, gB_sA, up_e, up_n, uL_e, uL_n, isIn_t, isIn_f, isTmM_t, isTmM_f, isRow_t, isRow_f, isVal_t, isVal_f, isVar_t, isVar_f, isTmC_t, isTmC_f, m1, m2]
          · simp (disch := omega) only [nxt_e, bnd_s, chk_T, chk_nF, ↓reduceIte, i_0, i_1, i_2, i_3, i_4, i_5, i_6, i_8, i_9, i_10, i_15, i_19, i_20, i_30, i_31, i_40, i_60, i_100, i_200, i_1000, i_20000, iv_neg, iv_add, iv_sub, iv_mul, iv_lt, iv_le, iv_eq, iv_cl, iv_in, ltT, ltF, leT, leF, eqT, eqF, gI_e, gI_n, gI_sA, gI_sL, gI_sB, gL_e, gL_n, gL_sI, gL_sA, gL_sB, gA_e, gA_n, gA_sI, gA_sL, gA_sB, gB_e, gB_n, gB_sI, gB_sL, gB_sA, up_e, up_n, uL_e, uL_n, isIn_t, isIn_f, isTmM_t, isTmM_f, isRow_t, isRow_f, isVal_t, isVal_f, isVar_t, isVar_f, isTmC_t, isTmC_f, m1, m2]
      · obtain ⟨x, rfl⟩ := Int.eq_ofNat_of_zero_le h1.1
        obtain ⟨r, rfl⟩ := Int.eq_ofNat_of_zero_le h2.1
        obtain ⟨SC', e1, e2, e3, e4⟩ := addC (k := 0) (g := x) (e := r) (a := 10) (b := 10) w1 w2 (by omega) (by omega) (by omega) (by omega)
        obtain ⟨SM', f1, f2, f3⟩ := addM (P := Z.1) (k := 0) (g := x) (e := r) (a := 10) (b := 10) (S := sI (sI SM 0 (iv 0)) 2 (iv ((cnt (pK Z.1) 0 (pN Z.1) : Nat) + 1))) (by omega) (by rw [gI_n (by decide), gI_n (by decide)]; exact m1) (by rw [gI_e, cnt_up1]; rfl) (by rw [gI_n (by decide), gI_n (by decide), cnt_up1, m3]; rfl) m4 m5 m6 m7 m8 m9 m10
        refine ⟨iv (pN Z.1), SC', SM', (pAdd Z.1 0 x r 10 10, 0, Z.2.2), ?_, ?_, Inv_end (Wf_add w1 (by omega) (by omega) (by unfold isTm; omega) (by unfold isTm; omega) (by omega) (by omega) (by omega) (by omega) (by omega) (by omega)) e2 f2 e3 e4 f3⟩
        · unfold f_X4_draw
          simp (disch := omega) only [nxt_e, bnd_s, chk_T, chk_nF, ↓reduceIte, i_0, i_1, i_2, i_3, i_4, i_5, i_6, i_8, i_9, i_10, i_15, i_19, i_20, i_30, i_31, i_40, i_60, i_100, i_200, i_1000, i_20000, iv_neg, iv_add, iv_sub, iv_mul, iv_lt, iv_le, iv_eq, iv_cl, iv_in, ltT, ltF, leT, leF, eqT, eqF, gI_e, gI_n, gI_sA, gI_sL, gI_sB, gL_e, gL_n, gL_sI, gL_sA, gL_sB, gA_e, gA_n, gA_sI, gA_sL, gA_sB, gB_e, gB_n, gB_sI, gB_sL, gB_sA, up_e, up_n, uL_e, uL_n, isIn_t, isIn_f, isTmM_t, isTmM_f, isRow_t, isRow_f, isVal_t, isVal_f, isVar_t, isVar_f, isTmC_t, isTmC_f]
          rw [show f_X4_addStep (iv 0) (iv x) (iv r) (iv 10) (iv 10) SC = _ from e1]
          rfl
        · unfold f_X5_draw
          simp (disch := omega) only [nxt_e, bnd_s, chk_T, chk_nF, ↓reduceIte, i_0, i_1, i_2, i_3, i_4, i_5, i_6, i_8, i_9, i_10, i_15, i_19, i_20, i_30, i_31, i_40, i_60, i_100, i_200, i_1000, i_20000, iv_neg, iv_add, iv_sub, iv_mul, iv_lt, iv_le, iv_eq, iv_cl, iv_in, ltT, ltF, leT, leF, eqT, eqF, gI_e, gI_n, gI_sA, gI_sL, gI_sB, gL_e, gL_n, gL_sI, gL_sA, gL_sB, gA_e, gA_n, gA_sI, gA_sL, gA_sB, gB_e, gB_n, gB_sI, gB_sL, gB_sA, up_e, up_n, uL_e, uL_n, isIn_t, isIn_f, isTmM_t, isTmM_f, isRow_t, isRow_f, isVal_t, isVal_f, isVar_t, isVar_f, isTmC_t, isTmC_f, m1, m2]
          rw [show f_X5_added (iv 0) (iv x) (iv r) (iv 10) (iv 10) _ = _ from f1]
          rfl
    · refine ⟨iv (-1), SC, sI SM 0 (iv 0), Z, ?_, ?_, Inv_thr _ hI⟩
      · unfold f_X4_draw
        simp (disch := omega) only [nxt_e, bnd_s, chk_T, chk_nF, ↓reduceIte, i_0, i_1, i_2, i_3, i_4, i_5, i_6, i_8, i_9, i_10, i_15, i_19, i_20, i_30, i_31, i_40, i_60, i_100, i_200, i_1000, i_20000, iv_neg, iv_add, iv_sub, iv_mul, iv_lt, iv_le, iv_eq, iv_cl, iv_in, ltT, ltF, leT, leF, eqT, eqF, gI_e, gI_n, gI_sA, gI_sL, gI_sB, gL_e, gL_n, gL_sI, gL_sA, gL_sB, gA_e, gA_n, gA_sI, gA_sL, gA_sB, gB_e, gB_n, gB_sI, gB_sL, gB_sA, up_e, up_n, uL_e, uL_n, isIn_t, isIn_f, isTmM_t, isTmM_f, isRow_t, isRow_f, isVal_t, isVal_f, isVar_t, isVar_f, isTmC_t, isTmC_f]
      · unfold f_X5_draw
        simp (disch := omega) only [nxt_e, bnd_s, chk_T, chk_nF, ↓reduceIte, i_0, i_1, i_2, i_3, i_4, i_5, i_6, i_8, i_9, i_10, i_15, i_19, i_20, i_30, i_31, i_40, i_60, i_100, i_200, i_1000, i_20000, iv_neg, iv_add, iv_sub, iv_mul, iv_lt, iv_le, iv_eq, iv_cl, iv_in, ltT, ltF, leT, leF, eqT, eqF, gI_e, gI_n, gI_sA, gI_sL, gI_sB, gL_e, gL_n, gL_sI, gL_sA, gL_sB, gA_e, gA_n, gA_sI, gA_sL, gA_sB, gB_e, gB_n, gB_sI, gB_sL, gB_sA, up_e, up_n, uL_e, uL_n, isIn_t, isIn_f, isTmM_t, isTmM_f, isRow_t, isRow_f, isVal_t, isVal_f, isVar_t, isVar_f, isTmC_t, isTmC_f]
  · refine ⟨iv (-1), SC, sI SM 0 (iv 0), Z, ?_, ?_, Inv_thr _ hI⟩
    · unfold f_X4_draw
      simp (disch := omega) only [nxt_e, bnd_s, chk_T, chk_nF, ↓reduceIte, i_0, i_1, i_2, i_3, i_4, i_5, i_6, i_8, i_9, i_10, i_15, i_19, i_20, i_30, i_31, i_40, i_60, i_100, i_200, i_1000, i_20000, iv_neg, iv_add, iv_sub, iv_mul, iv_lt, iv_le, iv_eq, iv_cl, iv_in, ltT, ltF, leT, leF, eqT, eqF, gI_e, gI_n, gI_sA, gI_sL, gI_sB, gL_e, gL_n, gL_sI, gL_sA, gL_sB, gA_e, gA_n, gA_sI, gA_sL, gA_sB, gB_e, gB_n, gB_sI, gB_sL, gB_sA, up_e, up_n, uL_e, uL_n, isIn_t, isIn_f, isTmM_t, isTmM_f, isRow_t, isRow_f, isVal_t, isVal_f, isVar_t, isVar_f, isTmC_t, isTmC_f]
    · unfold f_X5_draw
      simp (disch := omega) only [nxt_e, bnd_s, chk_T, chk_nF, ↓reduceIte, i_0, i_1, i_2, i_3, i_4, i_5, i_6, i_8, i_9, i_10, i_15, i_19, i_20, i_30, i_31, i_40, i_60, i_100, i_200, i_1000, i_20000, iv_neg, iv_add, iv_sub, iv_mul, iv_lt, iv_le, iv_eq, iv_cl, iv_in, ltT, ltF, leT, leF, eqT, eqF, gI_e, gI_n, gI_sA, gI_sL, gI_sB, gL_e, gL_n, gL_sI, gL_sA, gL_sB, gA_e, gA_n, gA_sI, gA_sL, gA_sB, gB_e, gB_n, gB_sI, gB_sL, gB_sA, up_e, up_n, uL_e, uL_n, isIn_t, isIn_f, isTmM_t, isTmM_f, isRow_t, isRow_f, isVal_t, isVal_f, isVar_t, isVar_f, isTmC_t, isTmC_f]
