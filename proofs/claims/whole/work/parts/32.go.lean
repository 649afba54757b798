/-! ===== what a step makes of a state: reference ===== -/
/-- the made row holds l -/
def MR (l : List (Nat × Nat)) (S : St) : Prop := gI S 20 = iv l.length ∧ ∀ i c m : Nat, l[i]? = some (c, m) → gA S 14 i = iv c ∧ gB S 15 i = jv m
/-- nothing else has changed (made, madePlace, madeLost, madeCode, madeMass apart) -/
def Fm (S S' : St) : Prop := (∀ k, k ≠ 20 → k ≠ 21 → gI S' k = gI S k) ∧ (∀ k, k ≠ 22 → gL S' k = gL S k) ∧ (∀ k, k ≠ 14 → gA S' k = gA S k) ∧ ∀ k, k ≠ 15 → gB S' k = gB S k
theorem Fm.rf {S : St} : Fm S S := ⟨fun _ _ _ => rfl, fun _ _ => rfl, fun _ _ => rfl, fun _ _ => rfl⟩
theorem Fm.tr {S S1 S2 : St} (h : Fm S S1) (g : Fm S1 S2) : Fm S S2 := ⟨fun k a b => (g.1 k a b).trans (h.1 k a b), fun k a => (g.2.1 k a).trans (h.2.1 k a), fun k a => (g.2.2.1 k a).trans (h.2.2.1 k a), fun k a => (g.2.2.2 k a).trans (h.2.2.2 k a)⟩
theorem Fm.RM {P : Pr} {S S' : St} (h : Fm S S') (hR : RM P S) : RM P S' := by
  obtain ⟨m1, m2, m3, m4, m5, m6, m7, m8, m9, m10⟩ := hR
  obtain ⟨a, b, c, d⟩ := h
  refine ⟨?_, ?_, ?_, ?_, ?_, ?_, ?_, ?_, ?_, ?_⟩
  · rw [a 1 (by decide) (by decide)]; exact m1
  · rw [a 2 (by decide) (by decide)]; exact m2
  · rw [a 3 (by decide) (by decide)]; exact m3
  · rw [c 1 (by decide)]; exact m4
  · rw [c 2 (by decide)]; exact m5
  · rw [c 3 (by decide)]; exact m6
  · rw [c 4 (by decide)]; exact m7
  · rw [c 5 (by decide)]; exact m8
  · rw [c 6 (by decide)]; exact m9
  · rw [c 7 (by decide)]; exact m10
theorem Fm.RML {P : Pr} {L : Ld} {S S' : St} (h : Fm S S') (hR : RML P L S) : RML P L S' := by
  obtain ⟨h1, h2, h3, h4, h5, h6, h7⟩ := hR
  obtain ⟨a, b, c, d⟩ := h
  refine ⟨?_, ?_, ?_, ?_, ?_, ?_, ?_⟩
  · rw [c 8 (by decide)]; exact h1
  · rw [c 11 (by decide), d 12 (by decide)]; exact h2
  · rw [c 9 (by decide)]; exact h3
  · rw [c 10 (by decide)]; exact h4
  · rw [b 13 (by decide)]; exact h5
  · rw [a 12 (by decide) (by decide)]; exact h6
  · rw [c 13 (by decide)]; exact h7
theorem e_make {S : St} {l : List (Nat × Nat)} {c m : Nat} (hM : MR l S) (hl : l.length < 10) : ∃ S', f_X5_make (iv (c : Int)) (jv m) S = some ((), S') ∧ MR (l ++ [(c, m)]) S' ∧ Fm S S' ∧ gI S' 21 = gI S 21 ∧ gL S' 22 = gL S 22 := by
  obtain ⟨h1, h2⟩ := hM
  unfold f_X5_make
  simp (disch := omega) only [nxt_e, bnd_s, chk_T, chk_nF, ↓reduceIte, i_0, i_1, i_2, i_3, i_4, i_5, i_6, i_8, i_9, i_10, i_15, i_19, i_20, i_30, i_31, i_40, i_60, i_100, i_200, i_1000, i_20000, iv_neg, iv_add, iv_sub, iv_mul, iv_lt, iv_le, iv_eq, iv_cl, iv_in, ltT, ltF, leT, leF, eqT, eqF, gI_e, gI_n, gI_sA, gI_sL, gI_sB, gL_e, gL_n, gL_sI, gL_sA, gL_sB, gA_e, gA_n, gA_sI, gA_sL, gA_sB, gB_e, gB_n, gB_sI, gB_sL, gB_sA, up_e, up_n, uL_e, uL_n, h1, Int.toNat_natCast]
  refine ⟨_, rfl, ⟨?_, ?_⟩, ⟨?_, ?_, ?_, ?_⟩, ?_, ?_⟩
  · rw [gI_e, List.length_append]
    rfl
  · intro i c' m' hi
    simp (disch := omega) only [gI_e, gI_n, gI_sA, gI_sL, gI_sB, gL_e, gL_n, gL_sI, gL_sA, gL_sB, gA_e, gA_n, gA_sI, gA_sL, gA_sB, gB_e, gB_n, gB_sI, gB_sL, gB_sA, up_e, up_n, uL_e, uL_n]
    by_cases e : i < l.length
    · rw [List.getElem?_append_left e] at hi
      rw [up_n (by omega), uL_n (by omega)]
      exact h2 i c' m' hi
    · rw [List.getElem?_append_right (by omega)] at hi
      have e0 : i - l.length = 0 := by
        rcases Nat.eq_zero_or_pos (i - l.length) with h | h
        · exact h
        · rw [List.getElem?_eq_none (show [(c, m)].length ≤ i - l.length by show 1 ≤ _; omega)] at hi
          cases hi
      rw [e0] at hi
      cases hi
      rw [up_e (by omega), uL_e (by omega)]
      exact ⟨rfl, rfl⟩
  · intro k a b
    rw [gI_n a]; rfl
  · intro k a; rfl
  · intro k a
    simp (disch := omega) only [gI_e, gI_n, gI_sA, gI_sL, gI_sB, gL_e, gL_n, gL_sI, gL_sA, gL_sB, gA_e, gA_n, gA_sI, gA_sL, gA_sB, gB_e, gB_n, gB_sI, gB_sL, gB_sA, up_e, up_n, uL_e, uL_n]
  · intro k a
    simp (disch := omega) only [gI_e, gI_n, gI_sA, gI_sL, gI_sB, gL_e, gL_n, gL_sI, gL_sA, gL_sB, gA_e, gA_n, gA_sI, gA_sL, gA_sB, gB_e, gB_n, gB_sI, gB_sL, gB_sA, up_e, up_n, uL_e, uL_n]
  · rfl
  · rfl
theorem outD_len {P : Pr} {p c m : Nat} : ∀ v, (outD P p c m v).length ≤ v
  | 0 => Nat.le_refl 0
  | v + 1 => by
    show (outD P p c m v ++ _).length ≤ v + 1
    rw [List.length_append]
    have := outD_len (P := P) (p := p) (c := c) (m := m) v
    split
    · show _ + 0 ≤ _; omega
    · show _ + 1 ≤ _; omega
theorem go_loop {P : Pr} {p c m : Nat} (hw : Wf P) (hp : p < pN P) (hc : c < 1000000) (hm : m < 9223372036854775808) (k0 : pK P p = 0) : ∀ (j v fuel : Nat) (S : St), j + v = 10 → j < fuel → RM P S → MR (outD P p c m v) S → ∃ S', lp_X5_go_79 (iv (p : Int)) (iv (c : Int)) (jv m) fuel (iv (v : Int)) S = some ((), S') ∧ MR (outD P p c m 10) S' ∧ Fm S S' ∧ gI S' 21 = gI S 21 ∧ gL S' 22 = gL S 22 := by
  intro j
  induction j with
  | zero =>
    intro v fuel S hv hf hR hM
    obtain ⟨n, rfl⟩ : ∃ k, fuel = k + 1 := ⟨fuel - 1, by omega⟩
    obtain rfl : v = 10 := by omega
    refine ⟨S, ?_, hM, Fm.rf, rfl, rfl⟩
    rw [lp_X5_go_79]
    simp (disch := omega) only [nxt_e, bnd_s, chk_T, chk_nF, ↓reduceIte, i_0, i_1, i_2, i_3, i_4, i_5, i_6, i_8, i_9, i_10, i_15, i_19, i_20, i_30, i_31, i_40, i_60, i_100, i_200, i_1000, i_20000, iv_neg, iv_add, iv_sub, iv_mul, iv_lt, iv_le, iv_eq, iv_cl, iv_in, ltT, ltF, leT, leF, eqT, eqF, gI_e, gI_n, gI_sA, gI_sL, gI_sB, gL_e, gL_n, gL_sI, gL_sA, gL_sB, gA_e, gA_n, gA_sI, gA_sL, gA_sB, gB_e, gB_n, gB_sI, gB_sL, gB_sA, up_e, up_n, uL_e, uL_n]
  | succ j ih =>
    intro v fuel S hv hf hR hM
    obtain ⟨n, rfl⟩ : ∃ k, fuel = k + 1 := ⟨fuel - 1, by omega⟩
    have hR2 := hR
    obtain ⟨m1, m2, m3, m4, m5, m6, m7, m8, m9, m10⟩ := hR
    have q1 := hw.1
    have q3 := hw.2.2.1 p k0
    have q5 := hw.2.2.2.2.1 (pE P p) v
    obtain ⟨z1, z2, z3, z4, z5⟩ := hw.2.1 p
    have hlen := outD_len (P := P) (p := p) (c := c) (m := m) v
    have m9v := m9 (pE P p) v (by omega) (by omega)
    have hn : ((10 : Int) * (pE P p : Int) + (v : Int)).toNat = 10 * pE P p + v := by omega
    rw [lp_X5_go_79]
    have hD : outD P p c m (v + 1) = outD P p c m v ++ if pW P (pE P p) v = 0 then [] else [(wt c (pG P p) v, m / 60 * pW P (pE P p) v)] := rfl
    by_cases hw0 : pW P (pE P p) v = 0
    · simp (disch := omega) only [nxt_e, bnd_s, chk_T, chk_nF, ↓reduceIte, i_0, i_1, i_2, i_3, i_4, i_5, i_6, i_8, i_9, i_10, i_15, i_19, i_20, i_30, i_31, i_40, i_60, i_100, i_200, i_1000, i_20000, iv_neg, iv_add, iv_sub, iv_mul, iv_lt, iv_le, iv_eq, iv_cl, iv_in, ltT, ltF, leT, leF, eqT, eqF, gI_e, gI_n, gI_sA, gI_sL, gI_sB, gL_e, gL_n, gL_sI, gL_sA, gL_sB, gA_e, gA_n, gA_sI, gA_sL, gA_sB, gB_e, gB_n, gB_sI, gB_sL, gB_sA, up_e, up_n, uL_e, uL_n, m6, Int.toNat_natCast, hn, m9v]
      rw [if_pos hw0, List.append_nil] at hD
      exact ih (v + 1) n S (by omega) (by omega) hR2 (by rw [hD]; exact hM)
    · have ew : ∀ S' : St, f_X5_with (iv (c : Int)) (iv (pG P p)) (iv (v : Int)) S' = some (iv (wt c (pG P p) v), S') := fun S' => e_wth hc (by omega)
      simp (disch := omega) only [nxt_e, bnd_s, chk_T, chk_nF, ↓reduceIte, i_0, i_1, i_2, i_3, i_4, i_5, i_6, i_8, i_9, i_10, i_15, i_19, i_20, i_30, i_31, i_40, i_60, i_100, i_200, i_1000, i_20000, iv_neg, iv_add, iv_sub, iv_mul, iv_lt, iv_le, iv_eq, iv_cl, iv_in, ltT, ltF, leT, leF, eqT, eqF, gI_e, gI_n, gI_sA, gI_sL, gI_sB, gL_e, gL_n, gL_sI, gL_sA, gL_sB, gA_e, gA_n, gA_sI, gA_sL, gA_sB, gB_e, gB_n, gB_sI, gB_sL, gB_sA, up_e, up_n, uL_e, uL_n, m5, m6, Int.toNat_natCast, hn, m9v, ew, j_60, jv_div, iv_jv, jv_mul]
      rw [chk_t (by decide)]
      rw [if_neg hw0] at hD
      obtain ⟨S1, s1, s2, s3, s4, s5⟩ := e_make (c := wt c (pG P p) v) (m := m / 60 * pW P (pE P p) v) hM (by omega)
      rw [show ((m : Int) / 60 * (pW P (pE P p) v : Int)) = ((m / 60 * pW P (pE P p) v : Nat) : Int) by rw [Int.natCast_mul]; rfl, s1, bnd_s]
      obtain ⟨S2, t1, t2, t3, t4, t5⟩ := ih (v + 1) n S1 (by omega) (by omega) (s3.RM hR2) (by rw [hD]; exact s2)
      exact ⟨S2, t1, t2, s3.tr t3, t4.trans s4, t5.trans s5⟩
theorem e_go {P : Pr} {S : St} {p c m : Nat} (hw : Wf P) (hR : RM P S) (hp : p < pN P) (hc : c < 1000000) (hm : m < 9223372036854775808) : ∃ S', f_X5_go (iv (p : Int)) (iv (c : Int)) (jv m) S = some ((), S') ∧ MR (outs P p c m) S' ∧ Fm S S' ∧ gI S' 21 = iv (npl P p c) ∧ gL S' 22 = jv (lst P p c m) := by
  have q1 := hw.1
  obtain ⟨z1, z2, z3, z4, z5⟩ := hw.2.1 p
  have q4 := hw.2.2.2.1 p
  have tl := tv_le (c := c) z3
  have tl2 := tv_le (c := c) z4
  have dl := dg_le c (pG P p)
  have hR3 : RM P (sL (sI (sI S 20 (iv 0)) 21 (iv ((p : Int) + 1))) 22 (jv 0)) := RM_sL (RM_sI (by decide) (RM_sI (by decide) hR))
  have hM0 : MR [] (sL (sI (sI S 20 (iv 0)) 21 (iv ((p : Int) + 1))) 22 (jv 0)) := ⟨rfl, fun i c m h => by simp at h⟩
  have hF0 : Fm S (sL (sI (sI S 20 (iv 0)) 21 (iv ((p : Int) + 1))) 22 (jv 0)) := ⟨fun k a b => by rw [gI_sL, gI_n b, gI_n a], fun k a => by rw [gL_n a]; rfl, fun k _ => rfl, fun k _ => rfl⟩
  have g21 : gI (sL (sI (sI S 20 (iv 0)) 21 (iv ((p : Int) + 1))) 22 (jv 0)) 21 = iv ((p : Int) + 1) := rfl
  have g22 : gL (sL (sI (sI S 20 (iv 0)) 21 (iv ((p : Int) + 1))) 22 (jv 0)) 22 = jv 0 := rfl
  obtain ⟨m1, m2, m3, m4, m5, m6, m7, m8, m9, m10⟩ := id hR3
  have t1 : ∀ S' : St, f_X5_termOf (iv (c : Int)) (iv (pA P p)) S' = some (iv (tv c (pA P p)), S') := fun S' => e_tOf hc z3
  have t2 : ∀ S' : St, f_X5_termOf (iv (c : Int)) (iv (pB P p)) S' = some (iv (tv c (pB P p)), S') := fun S' => e_tOf hc z4
  unfold f_X5_go
  simp (disch := omega) only [nxt_e, i_0, i_1, j_0, iv_add]
  generalize sL (sI (sI S 20 (iv 0)) 21 (iv ((p : Int) + 1))) 22 (jv 0) = S3 at hR3 hM0 hF0 m1 m2 m3 m4 m5 m6 m7 m8 m9 m10 g21 g22 ⊢
  unfold outs npl lst
  by_cases k0 : pK P p = 0
  · simp (disch := omega) only [nxt_e, bnd_s, chk_T, chk_nF, ↓reduceIte, i_0, i_1, i_2, i_3, i_4, i_5, i_6, i_8, i_9, i_10, i_15, i_19, i_20, i_30, i_31, i_40, i_60, i_100, i_200, i_1000, i_20000, iv_neg, iv_add, iv_sub, iv_mul, iv_lt, iv_le, iv_eq, iv_cl, iv_in, ltT, ltF, leT, leF, eqT, eqF, gI_e, gI_n, gI_sA, gI_sL, gI_sB, gL_e, gL_n, gL_sI, gL_sA, gL_sB, gA_e, gA_n, gA_sI, gA_sL, gA_sB, gB_e, gB_n, gB_sI, gB_sL, gB_sA, up_e, up_n, uL_e, uL_n, m4, m7, m8, Int.toNat_natCast, t1, t2, if_pos k0]
    obtain ⟨S', s1, s2, s3, s4, s5⟩ := go_loop hw hp hc hm k0 10 0 FU S3 rfl (by rw [FU_v]; decide) hR3 hM0
    rw [i0n] at s1
    refine ⟨S', s1, s2, hF0.tr s3, ?_, ?_⟩
    · rw [s4, g21, if_neg (by omega)]; rfl
    · rw [s5, g22, if_neg (by omega), if_neg (by omega)]; rfl
  · by_cases k1 : pK P p = 1
    · have e1 : ∀ S' : St, f_X5_digit (iv (c : Int)) (iv (pG P p)) S' = some (iv (dg c (pG P p)), S') := fun S' => e_dig hc (by omega)
      have e2 : ∀ S' : St, f_X5_worth (iv (pE P p)) (iv (tv c (pA P p))) (iv (tv c (pB P p))) (iv (dg c (pG P p))) S' = some (iv (cmb (pE P p) (tv c (pA P p)) (tv c (pB P p)) (dg c (pG P p))), S') := fun S' => e_wor q4 tl tl2
      have e3 : ∀ S' : St, f_X5_with (iv (c : Int)) (iv (pG P p)) (iv (cmb (pE P p) (tv c (pA P p)) (tv c (pB P p)) (dg c (pG P p)))) S' = some (iv (wt c (pG P p) (cmb (pE P p) (tv c (pA P p)) (tv c (pB P p)) (dg c (pG P p)))), S') := fun S' => e_wth hc (by omega)
      simp (disch := omega) only [nxt_e, bnd_s, chk_T, chk_nF, ↓reduceIte, i_0, i_1, i_2, i_3, i_4, i_5, i_6, i_8, i_9, i_10, i_15, i_19, i_20, i_30, i_31, i_40, i_60, i_100, i_200, i_1000, i_20000, iv_neg, iv_add, iv_sub, iv_mul, iv_lt, iv_le, iv_eq, iv_cl, iv_in, ltT, ltF, leT, leF, eqT, eqF, gI_e, gI_n, gI_sA, gI_sL, gI_sB, gL_e, gL_n, gL_sI, gL_sA, gL_sB, gA_e, gA_n, gA_sI, gA_sL, gA_sB, gB_e, gB_n, gB_sI, gB_sL, gB_sA, up_e, up_n, uL_e, uL_n, m4, m5, m6, m7, m8, Int.toNat_natCast, t1, t2, e1, e2, e3, if_neg k0, if_pos k1]
      obtain ⟨S', s1, s2, s3, s4, s5⟩ := e_make (c := wt c (pG P p) (cmb (pE P p) (tv c (pA P p)) (tv c (pB P p)) (dg c (pG P p)))) (m := m) hM0 (by decide)
      rw [s1, bnd_s]
      refine ⟨S', rfl, s2, hF0.tr s3, ?_, ?_⟩
      · rw [s4, g21, if_neg (by omega)]; rfl
      · rw [s5, g22, if_neg (by omega), if_neg (by omega)]; rfl
    · by_cases k2 : pK P p = 2
      · have e : ∀ S' : St, f_X5_holds (iv (pE P p)) (iv (tv c (pA P p))) (iv (tv c (pB P p))) S' = some (iv (seen (pE P p) (tv c (pA P p)) (tv c (pB P p))), S') := fun S' => e_hol q4 tl tl2
        have hs : seen (pE P p) (tv c (pA P p)) (tv c (pB P p)) ≤ 1 := by
          unfold seen
          split
          · split <;> omega
          split
          · split <;> omega
          split
          · split <;> omega
          · split <;> omega
        by_cases hse : seen (pE P p) (tv c (pA P p)) (tv c (pB P p)) = 0
        · simp (disch := omega) only [nxt_e, bnd_s, chk_T, chk_nF, ↓reduceIte, i_0, i_1, i_2, i_3, i_4, i_5, i_6, i_8, i_9, i_10, i_15, i_19, i_20, i_30, i_31, i_40, i_60, i_100, i_200, i_1000, i_20000, iv_neg, iv_add, iv_sub, iv_mul, iv_lt, iv_le, iv_eq, iv_cl, iv_in, ltT, ltF, leT, leF, eqT, eqF, gI_e, gI_n, gI_sA, gI_sL, gI_sB, gL_e, gL_n, gL_sI, gL_sA, gL_sB, gA_e, gA_n, gA_sI, gA_sL, gA_sB, gB_e, gB_n, gB_sI, gB_sL, gB_sA, up_e, up_n, uL_e, uL_n, m4, m5, m6, m7, m8, Int.toNat_natCast, t1, t2, e, if_neg k0, if_neg k1, if_pos k2, if_pos hse]
          refine ⟨_, rfl, hM0, hF0.tr ⟨fun _ _ _ => rfl, fun k a => gL_n a, fun _ _ => rfl, fun _ _ => rfl⟩, ?_, ?_⟩
          · rw [gI_sL, g21, if_neg (by omega)]; rfl
          · rw [gL_e]
        · simp (disch := omega) only [nxt_e, bnd_s, chk_T, chk_nF, ↓reduceIte, i_0, i_1, i_2, i_3, i_4, i_5, i_6, i_8, i_9, i_10, i_15, i_19, i_20, i_30, i_31, i_40, i_60, i_100, i_200, i_1000, i_20000, iv_neg, iv_add, iv_sub, iv_mul, iv_lt, iv_le, iv_eq, iv_cl, iv_in, ltT, ltF, leT, leF, eqT, eqF, gI_e, gI_n, gI_sA, gI_sL, gI_sB, gL_e, gL_n, gL_sI, gL_sA, gL_sB, gA_e, gA_n, gA_sI, gA_sL, gA_sB, gB_e, gB_n, gB_sI, gB_sL, gB_sA, up_e, up_n, uL_e, uL_n, m4, m5, m6, m7, m8, Int.toNat_natCast, t1, t2, e, if_neg k0, if_neg k1, if_pos k2, if_neg hse]
          obtain ⟨S', s1, s2, s3, s4, s5⟩ := e_make (c := c) (m := m) hM0 (by decide)
          rw [s1, bnd_s]
          refine ⟨S', rfl, s2, hF0.tr s3, ?_, ?_⟩
          · rw [s4, g21, if_neg (by omega)]; rfl
          · rw [s5, g22]; rfl
      · by_cases k3 : pK P p = 3
        · by_cases ht : tv c (pA P p) = 0
          · simp (disch := omega) only [nxt_e, bnd_s, chk_T, chk_nF, ↓reduceIte, i_0, i_1, i_2, i_3, i_4, i_5, i_6, i_8, i_9, i_10, i_15, i_19, i_20, i_30, i_31, i_40, i_60, i_100, i_200, i_1000, i_20000, iv_neg, iv_add, iv_sub, iv_mul, iv_lt, iv_le, iv_eq, iv_cl, iv_in, ltT, ltF, leT, leF, eqT, eqF, gI_e, gI_n, gI_sA, gI_sL, gI_sB, gL_e, gL_n, gL_sI, gL_sA, gL_sB, gA_e, gA_n, gA_sI, gA_sL, gA_sB, gB_e, gB_n, gB_sI, gB_sL, gB_sA, up_e, up_n, uL_e, uL_n, m4, m5, m6, m7, m8, Int.toNat_natCast, t1, t2, if_neg k0, if_neg k1, if_neg k2, if_pos k3, if_pos ht]
            refine ⟨_, rfl, hM0, hF0.tr ⟨fun _ _ _ => rfl, fun k a => gL_n a, fun _ _ => rfl, fun _ _ => rfl⟩, ?_, ?_⟩
            · rw [gI_sL, g21, if_neg (by omega)]; rfl
            · rw [gL_e]
          · simp (disch := omega) only [nxt_e, bnd_s, chk_T, chk_nF, ↓reduceIte, i_0, i_1, i_2, i_3, i_4, i_5, i_6, i_8, i_9, i_10, i_15, i_19, i_20, i_30, i_31, i_40, i_60, i_100, i_200, i_1000, i_20000, iv_neg, iv_add, iv_sub, iv_mul, iv_lt, iv_le, iv_eq, iv_cl, iv_in, ltT, ltF, leT, leF, eqT, eqF, gI_e, gI_n, gI_sA, gI_sL, gI_sB, gL_e, gL_n, gL_sI, gL_sA, gL_sB, gA_e, gA_n, gA_sI, gA_sL, gA_sB, gB_e, gB_n, gB_sI, gB_sL, gB_sA, up_e, up_n, uL_e, uL_n, m4, m5, m6, m7, m8, Int.toNat_natCast, t1, t2, if_neg k0, if_neg k1, if_neg k2, if_pos k3, if_neg ht, iv_jv, jv_mul]
            obtain ⟨S', s1, s2, s3, s4, s5⟩ := e_make (c := c) (m := m * tv c (pA P p)) hM0 (by decide)
            rw [show ((m : Int) * (tv c (pA P p) : Int)) = ((m * tv c (pA P p) : Nat) : Int) from (Int.natCast_mul _ _).symm, s1, bnd_s]
            refine ⟨S', rfl, s2, hF0.tr s3, ?_, ?_⟩
            · rw [s4, g21, if_neg (by omega)]; rfl
            · rw [s5, g22]; rfl
        · have k4 : pK P p = 4 := by omega
          by_cases ht : tv c (pA P p) = 0
          · have ep := e_pas hw hR3 hp
            simp (disch := omega) only [nxt_e, bnd_s, chk_T, chk_nF, ↓reduceIte, i_0, i_1, i_2, i_3, i_4, i_5, i_6, i_8, i_9, i_10, i_15, i_19, i_20, i_30, i_31, i_40, i_60, i_100, i_200, i_1000, i_20000, iv_neg, iv_add, iv_sub, iv_mul, iv_lt, iv_le, iv_eq, iv_cl, iv_in, ltT, ltF, leT, leF, eqT, eqF, gI_e, gI_n, gI_sA, gI_sL, gI_sB, gL_e, gL_n, gL_sI, gL_sA, gL_sB, gA_e, gA_n, gA_sI, gA_sL, gA_sB, gB_e, gB_n, gB_sI, gB_sL, gB_sA, up_e, up_n, uL_e, uL_n, m4, m5, m6, m7, m8, Int.toNat_natCast, t1, t2, ep, if_neg k0, if_neg k1, if_neg k2, if_neg k3, if_pos k4, if_pos ht]
            have hM1 : MR [] (sI S3 21 (iv (psd P p))) := ⟨by rw [gI_n (by decide)]; exact hM0.1, fun i c m h => by simp at h⟩
            obtain ⟨S', s1, s2, s3, s4, s5⟩ := e_make (c := c) (m := m) hM1 (by decide)
            rw [s1, bnd_s]
            refine ⟨S', rfl, s2, hF0.tr (Fm.tr ⟨fun k a b => gI_n b, fun _ _ => rfl, fun _ _ => rfl, fun _ _ => rfl⟩ s3), ?_, ?_⟩
            · rw [s4, gI_e]
            · rw [s5, gL_sI, g22]; rfl
          · simp (disch := omega) only [nxt_e, bnd_s, chk_T, chk_nF, ↓reduceIte, i_0, i_1, i_2, i_3, i_4, i_5, i_6, i_8, i_9, i_10, i_15, i_19, i_20, i_30, i_31, i_40, i_60, i_100, i_200, i_1000, i_20000, iv_neg, iv_add, iv_sub, iv_mul, iv_lt, iv_le, iv_eq, iv_cl, iv_in, ltT, ltF, leT, leF, eqT, eqF, gI_e, gI_n, gI_sA, gI_sL, gI_sB, gL_e, gL_n, gL_sI, gL_sA, gL_sB, gA_e, gA_n, gA_sI, gA_sL, gA_sB, gB_e, gB_n, gB_sI, gB_sL, gB_sA, up_e, up_n, uL_e, uL_n, m4, m5, m6, m7, m8, Int.toNat_natCast, t1, t2, if_neg k0, if_neg k1, if_neg k2, if_neg k3, if_pos k4, if_neg ht]
            have hM1 : MR [] (sI S3 21 (iv ((p : Int) + 1))) := ⟨by rw [gI_n (by decide)]; exact hM0.1, fun i c m h => by simp at h⟩
            obtain ⟨S', s1, s2, s3, s4, s5⟩ := e_make (c := c) (m := m) hM1 (by decide)
            rw [s1, bnd_s]
            refine ⟨S', rfl, s2, hF0.tr (Fm.tr ⟨fun k a b => gI_n b, fun _ _ => rfl, fun _ _ => rfl, fun _ _ => rfl⟩ s3), ?_, ?_⟩
            · rw [s4, gI_e]; rfl
            · rw [s5, gL_sI, g22]; rfl
