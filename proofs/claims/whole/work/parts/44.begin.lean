/-! ===== begin ===== -/
def uvN (P : Pr) : Nat → Nat → Nat
  | 0, _ => 0
  | r + 1, k => if pK P k = 0 ∧ rw10 P (pE P k) 10 ≠ 60 then 1 else uvN P r (k + 1)
theorem uvN_01 (P : Pr) : ∀ r k, uvN P r k = 0 ∨ uvN P r k = 1
  | 0, _ => Or.inl rfl
  | r + 1, k => by
    show (if pK P k = 0 ∧ rw10 P (pE P k) 10 ≠ 60 then 1 else uvN P r (k + 1)) = 0 ∨ (if pK P k = 0 ∧ rw10 P (pE P k) 10 ≠ 60 then 1 else uvN P r (k + 1)) = 1
    split
    · exact Or.inr rfl
    · exact uvN_01 P r (k + 1)
theorem uvN_0 (P : Pr) : ∀ r k, uvN P r k = 0 ↔ ∀ i, k ≤ i → i < k + r → pK P i = 0 → rw10 P (pE P i) 10 = 60
  | 0, k => ⟨fun _ i h1 h2 => by omega, fun _ => rfl⟩
  | r + 1, k => by
    show (if pK P k = 0 ∧ rw10 P (pE P k) 10 ≠ 60 then 1 else uvN P r (k + 1)) = 0 ↔ _
    split
    · rename_i h
      refine ⟨fun z => (by cases z), fun z => absurd (z k (Nat.le_refl _) (by omega) h.1) h.2⟩
    · rename_i h
      rw [uvN_0 P r (k + 1)]
      constructor
      · intro z i h1 h2 h3
        by_cases e : i = k
        · subst e
          exact Decidable.byContradiction fun q => h ⟨h3, q⟩
        · exact z i (by omega) (by omega) h3
      · intro z i h1 h2 h3
        exact z i (by omega) (by omega) h3
def uv (P : Pr) : Nat := uvN P (pN P) 0
theorem uv_EV {P : Pr} : uv P = 0 ↔ EV P := by
  unfold uv
  rw [uvN_0]
  constructor
  · intro h k hk
    exact h k (Nat.zero_le _) (by omega)
  · intro h k _ hk
    exact h k (by omega)
theorem rw10_le {P : Pr} (hw : Wf P) (r : Nat) : ∀ v, rw10 P r v ≤ 60 * v
  | 0 => Nat.le_refl _
  | v + 1 => by
    show rw10 P r v + pW P r v ≤ _
    have := rw10_le hw r v
    have := hw.2.2.2.2.1 r v
    omega
theorem e_unevM {P : Pr} {S : St} (hw : Wf P) (hR : RM P S) : f_X5_isUneven S = some (iv (uv P), S) := by
  have q1 := hw.1
  obtain ⟨m1, m2, m3, m4, m5, m6, m7, m8, m9, m10⟩ := hR
  have row : ∀ (k : Nat) (k2 : Int32 → St → Option (Int32 × St)), k < pN P → pK P k = 0 → ∀ (j v fuel : Nat), j + v = 10 → j < fuel → lp_X5_isUneven_23 (iv (k : Int)) k2 fuel (iv (rw10 P (pE P k) v : Nat)) (iv (v : Int)) S = if rw10 P (pE P k) 10 = 60 then k2 (iv ((k : Int) + 1)) S else some (iv 1, S) := by
    intro k k2 hk k0 j
    have e3 := hw.2.2.1 k k0
    induction j with
    | zero =>
      intro v fuel h1 h2
      obtain ⟨n, rfl⟩ : ∃ k, fuel = k + 1 := ⟨fuel - 1, by omega⟩
      have := rw10_le hw (pE P k) v
      obtain rfl : v = 10 := by omega
      rw [lp_X5_isUneven_23]
      by_cases e : rw10 P (pE P k) 10 = 60
      · simp (disch := omega) only [nxt_e, bnd_s, chk_T, chk_nF, ↓reduceIte, i_0, i_1, i_2, i_3, i_4, i_5, i_6, i_8, i_9, i_10, i_15, i_19, i_20, i_30, i_31, i_40, i_60, i_100, i_200, i_1000, i_20000, iv_neg, iv_add, iv_sub, iv_mul, iv_lt, iv_le, iv_eq, iv_cl, iv_in, ltT, ltF, leT, leF, eqT, eqF, gI_e, gI_n, gI_sA, gI_sL, gI_sB, gL_e, gL_n, gL_sI, gL_sA, gL_sB, gA_e, gA_n, gA_sI, gA_sL, gA_sB, gB_e, gB_n, gB_sI, gB_sL, gB_sA, up_e, up_n, uL_e, uL_n, if_pos e]
      · simp (disch := omega) only [nxt_e, bnd_s, chk_T, chk_nF, ↓reduceIte, i_0, i_1, i_2, i_3, i_4, i_5, i_6, i_8, i_9, i_10, i_15, i_19, i_20, i_30, i_31, i_40, i_60, i_100, i_200, i_1000, i_20000, iv_neg, iv_add, iv_sub, iv_mul, iv_lt, iv_le, iv_eq, iv_cl, iv_in, ltT, ltF, leT, leF, eqT, eqF, gI_e, gI_n, gI_sA, gI_sL, gI_sB, gL_e, gL_n, gL_sI, gL_sA, gL_sB, gA_e, gA_n, gA_sI, gA_sL, gA_sB, gB_e, gB_n, gB_sI, gB_sL, gB_sA, up_e, up_n, uL_e, uL_n, if_neg e]
    | succ j ih =>
      intro v fuel h1 h2
      obtain ⟨n, rfl⟩ : ∃ k, fuel = k + 1 := ⟨fuel - 1, by omega⟩
      have e6 := m9 (pE P k) v (by omega) (by omega)
      rw [lp_X5_isUneven_23]
      simp (disch := omega) only [nxt_e, bnd_s, chk_T, chk_nF, ↓reduceIte, i_0, i_1, i_2, i_3, i_4, i_5, i_6, i_8, i_9, i_10, i_15, i_19, i_20, i_30, i_31, i_40, i_60, i_100, i_200, i_1000, i_20000, iv_neg, iv_add, iv_sub, iv_mul, iv_lt, iv_le, iv_eq, iv_cl, iv_in, ltT, ltF, leT, leF, eqT, eqF, gI_e, gI_n, gI_sA, gI_sL, gI_sB, gL_e, gL_n, gL_sI, gL_sA, gL_sB, gA_e, gA_n, gA_sI, gA_sL, gA_sB, gB_e, gB_n, gB_sI, gB_sL, gB_sA, up_e, up_n, uL_e, uL_n, Int.toNat_natCast, m6, show ((10 : Int) * (pE P k : Int) + (v : Int)).toNat = 10 * pE P k + v by omega, e6]
      exact ih (v + 1) n (by omega) (by omega)
  have key : ∀ r k fuel : Nat, r + k = pN P → r < fuel → lp_X5_isUneven_2 fuel (iv (k : Int)) S = some (iv (uvN P r k : Nat), S) := by
    intro r
    induction r with
    | zero =>
      intro k fuel h1 h2
      obtain ⟨n, rfl⟩ : ∃ k, fuel = k + 1 := ⟨fuel - 1, by omega⟩
      rw [lp_X5_isUneven_2]
      simp (disch := omega) only [nxt_e, bnd_s, chk_T, chk_nF, ↓reduceIte, i_0, i_1, i_2, i_3, i_4, i_5, i_6, i_8, i_9, i_10, i_15, i_19, i_20, i_30, i_31, i_40, i_60, i_100, i_200, i_1000, i_20000, iv_neg, iv_add, iv_sub, iv_mul, iv_lt, iv_le, iv_eq, iv_cl, iv_in, ltT, ltF, leT, leF, eqT, eqF, gI_e, gI_n, gI_sA, gI_sL, gI_sB, gL_e, gL_n, gL_sI, gL_sA, gL_sB, gA_e, gA_n, gA_sI, gA_sL, gA_sB, gB_e, gB_n, gB_sI, gB_sL, gB_sA, up_e, up_n, uL_e, uL_n, m1]
      rfl
    | succ r ih =>
      intro k fuel h1 h2
      obtain ⟨n, rfl⟩ : ∃ k, fuel = k + 1 := ⟨fuel - 1, by omega⟩
      have z1 := (hw.2.1 k).1
      rw [lp_X5_isUneven_2]
      by_cases k0 : pK P k = 0
      · have e := row k (lp_X5_isUneven_2 n) (by omega) k0 10 0 FU (by omega) (by rw [FU_v]; omega)
        simp (disch := omega) only [nxt_e, bnd_s, chk_T, chk_nF, ↓reduceIte, i_0, i_1, i_2, i_3, i_4, i_5, i_6, i_8, i_9, i_10, i_15, i_19, i_20, i_30, i_31, i_40, i_60, i_100, i_200, i_1000, i_20000, iv_neg, iv_add, iv_sub, iv_mul, iv_lt, iv_le, iv_eq, iv_cl, iv_in, ltT, ltF, leT, leF, eqT, eqF, gI_e, gI_n, gI_sA, gI_sL, gI_sB, gL_e, gL_n, gL_sI, gL_sA, gL_sB, gA_e, gA_n, gA_sI, gA_sL, gA_sB, gB_e, gB_n, gB_sI, gB_sL, gB_sA, up_e, up_n, uL_e, uL_n, m1, m4, Int.toNat_natCast]
        rw [i0n] at e
        have e : lp_X5_isUneven_23 (iv (k : Int)) (lp_X5_isUneven_2 n) FU (iv 0) (iv 0) S = _ := e
        rw [e]
        by_cases h : rw10 P (pE P k) 10 = 60
        · rw [if_pos h, show uvN P (r + 1) k = uvN P r (k + 1) from if_neg (fun z => z.2 h)]
          exact ih (k + 1) n (by omega) (by omega)
        · rw [if_neg h, show uvN P (r + 1) k = 1 from if_pos ⟨k0, h⟩]
          rfl
      · simp (disch := omega) only [nxt_e, bnd_s, chk_T, chk_nF, ↓reduceIte, i_0, i_1, i_2, i_3, i_4, i_5, i_6, i_8, i_9, i_10, i_15, i_19, i_20, i_30, i_31, i_40, i_60, i_100, i_200, i_1000, i_20000, iv_neg, iv_add, iv_sub, iv_mul, iv_lt, iv_le, iv_eq, iv_cl, iv_in, ltT, ltF, leT, leF, eqT, eqF, gI_e, gI_n, gI_sA, gI_sL, gI_sB, gL_e, gL_n, gL_sI, gL_sA, gL_sB, gA_e, gA_n, gA_sI, gA_sL, gA_sB, gB_e, gB_n, gB_sI, gB_sL, gB_sA, up_e, up_n, uL_e, uL_n, m1, m4, Int.toNat_natCast]
        rw [show uvN P (r + 1) k = uvN P r (k + 1) from if_neg (fun z => k0 z.1)]
        exact ih (k + 1) n (by omega) (by omega)
  unfold f_X5_isUneven
  rw [i_0, ← i0n]
  exact key (pN P) 0 FU (by omega) (by rw [FU_v]; omega)
theorem e_unevC {P : Pr} {S : St} (hw : Wf P) (hR : RC P S) : f_X2_isUneven S = some (iv (uv P), S) := by
  have q1 := hw.1
  have hR2 := hR
  obtain ⟨m1, m2, m3, m4, m5, m6, m7, m8, m9, m10⟩ := hR
  have row : ∀ (r : Nat), r < 4 → ∀ (j v fuel : Nat), j + v = 10 → j < fuel → lp_X2_rowTotal_4 (iv (r : Int)) fuel (iv (rw10 P r v : Nat)) (iv (v : Int)) S = some (iv (rw10 P r 10 : Nat), S) := by
    intro r hr j
    induction j with
    | zero =>
      intro v fuel h1 h2
      obtain ⟨n, rfl⟩ : ∃ k, fuel = k + 1 := ⟨fuel - 1, by omega⟩
      obtain rfl : v = 10 := by omega
      rw [lp_X2_rowTotal_4]
      simp (disch := omega) only [nxt_e, bnd_s, chk_T, chk_nF, ↓reduceIte, i_0, i_1, i_2, i_3, i_4, i_5, i_6, i_8, i_9, i_10, i_15, i_19, i_20, i_30, i_31, i_40, i_60, i_100, i_200, i_1000, i_20000, iv_neg, iv_add, iv_sub, iv_mul, iv_lt, iv_le, iv_eq, iv_cl, iv_in, ltT, ltF, leT, leF, eqT, eqF, gI_e, gI_n, gI_sA, gI_sL, gI_sB, gL_e, gL_n, gL_sI, gL_sA, gL_sB, gA_e, gA_n, gA_sI, gA_sL, gA_sB, gB_e, gB_n, gB_sI, gB_sL, gB_sA, up_e, up_n, uL_e, uL_n]
    | succ j ih =>
      intro v fuel h1 h2
      obtain ⟨n, rfl⟩ : ∃ k, fuel = k + 1 := ⟨fuel - 1, by omega⟩
      have e := e_wOf (P := P) (S := S) hR2 hr (show v < 10 by omega)
      rw [lp_X2_rowTotal_4]
      simp (disch := omega) only [nxt_e, bnd_s, chk_T, chk_nF, ↓reduceIte, i_0, i_1, i_2, i_3, i_4, i_5, i_6, i_8, i_9, i_10, i_15, i_19, i_20, i_30, i_31, i_40, i_60, i_100, i_200, i_1000, i_20000, iv_neg, iv_add, iv_sub, iv_mul, iv_lt, iv_le, iv_eq, iv_cl, iv_in, ltT, ltF, leT, leF, eqT, eqF, gI_e, gI_n, gI_sA, gI_sL, gI_sB, gL_e, gL_n, gL_sI, gL_sA, gL_sB, gA_e, gA_n, gA_sI, gA_sL, gA_sB, gB_e, gB_n, gB_sI, gB_sL, gB_sA, up_e, up_n, uL_e, uL_n, e]
      exact ih (v + 1) n (by omega) (by omega)
  have key : ∀ r k fuel : Nat, r + k = pN P → r < fuel → lp_X2_isUneven_2 fuel (iv (k : Int)) S = some (iv (uvN P r k : Nat), S) := by
    intro r
    induction r with
    | zero =>
      intro k fuel h1 h2
      obtain ⟨n, rfl⟩ : ∃ k, fuel = k + 1 := ⟨fuel - 1, by omega⟩
      rw [lp_X2_isUneven_2]
      simp (disch := omega) only [nxt_e, bnd_s, chk_T, chk_nF, ↓reduceIte, i_0, i_1, i_2, i_3, i_4, i_5, i_6, i_8, i_9, i_10, i_15, i_19, i_20, i_30, i_31, i_40, i_60, i_100, i_200, i_1000, i_20000, iv_neg, iv_add, iv_sub, iv_mul, iv_lt, iv_le, iv_eq, iv_cl, iv_in, ltT, ltF, leT, leF, eqT, eqF, gI_e, gI_n, gI_sA, gI_sL, gI_sB, gL_e, gL_n, gL_sI, gL_sA, gL_sB, gA_e, gA_n, gA_sI, gA_sL, gA_sB, gB_e, gB_n, gB_sI, gB_sL, gB_sA, up_e, up_n, uL_e, uL_n, m1]
      rfl
    | succ r ih =>
      intro k fuel h1 h2
      obtain ⟨n, rfl⟩ : ∃ k, fuel = k + 1 := ⟨fuel - 1, by omega⟩
      have ed := e_isD hw hR2 (show k < pN P by omega)
      rw [lp_X2_isUneven_2]
      by_cases k0 : pK P k = 0
      · have e3 := hw.2.2.1 k k0
        have e := row (pE P k) (by omega) 10 0 FU (by omega) (by rw [FU_v]; omega)
        rw [i0n] at e
        have e : f_X2_rowTotal (iv (pE P k)) S = _ := e
        have hb := rw10_le hw (pE P k) 10
        rw [if_pos k0] at ed
        by_cases h : rw10 P (pE P k) 10 = 60
        · simp (disch := omega) only [nxt_e, bnd_s, chk_T, chk_nF, ↓reduceIte, i_0, i_1, i_2, i_3, i_4, i_5, i_6, i_8, i_9, i_10, i_15, i_19, i_20, i_30, i_31, i_40, i_60, i_100, i_200, i_1000, i_20000, iv_neg, iv_add, iv_sub, iv_mul, iv_lt, iv_le, iv_eq, iv_cl, iv_in, ltT, ltF, leT, leF, eqT, eqF, gI_e, gI_n, gI_sA, gI_sL, gI_sB, gL_e, gL_n, gL_sI, gL_sA, gL_sB, gA_e, gA_n, gA_sI, gA_sL, gA_sB, gB_e, gB_n, gB_sI, gB_sL, gB_sA, up_e, up_n, uL_e, uL_n, m1, m6, Int.toNat_natCast, ed, e]
          rw [show uvN P (r + 1) k = uvN P r (k + 1) from if_neg (fun z => z.2 h)]
          exact ih (k + 1) n (by omega) (by omega)
        · simp (disch := omega) only [nxt_e, bnd_s, chk_T, chk_nF, ↓reduceIte, i_0, i_1, i_2, i_3, i_4, i_5, i_6, i_8, i_9, i_10, i_15, i_19, i_20, i_30, i_31, i_40, i_60, i_100, i_200, i_1000, i_20000, iv_neg, iv_add, iv_sub, iv_mul, iv_lt, iv_le, iv_eq, iv_cl, iv_in, ltT, ltF, leT, leF, eqT, eqF, gI_e, gI_n, gI_sA, gI_sL, gI_sB, gL_e, gL_n, gL_sI, gL_sA, gL_sB, gA_e, gA_n, gA_sI, gA_sL, gA_sB, gB_e, gB_n, gB_sI, gB_sL, gB_sA, up_e, up_n, uL_e, uL_n, m1, m6, Int.toNat_natCast, ed, e]
          rw [show uvN P (r + 1) k = 1 from if_pos ⟨k0, h⟩]
          rfl
      · rw [if_neg k0] at ed
        simp (disch := omega) only [nxt_e, bnd_s, chk_T, chk_nF, ↓reduceIte, i_0, i_1, i_2, i_3, i_4, i_5, i_6, i_8, i_9, i_10, i_15, i_19, i_20, i_30, i_31, i_40, i_60, i_100, i_200, i_1000, i_20000, iv_neg, iv_add, iv_sub, iv_mul, iv_lt, iv_le, iv_eq, iv_cl, iv_in, ltT, ltF, leT, leF, eqT, eqF, gI_e, gI_n, gI_sA, gI_sL, gI_sB, gL_e, gL_n, gL_sI, gL_sA, gL_sB, gA_e, gA_n, gA_sI, gA_sL, gA_sB, gB_e, gB_n, gB_sI, gB_sL, gB_sA, up_e, up_n, uL_e, uL_n, m1, ed]
        rw [show uvN P (r + 1) k = uvN P r (k + 1) from if_neg (fun z => k0 z.1)]
        exact ih (k + 1) n (by omega) (by omega)
  unfold f_X2_isUneven
  rw [i_0, ← i0n]
  exact key (pN P) 0 FU (by omega) (by rw [FU_v]; omega)
theorem mask_any (x : Int32) (S : St) : ∃ r, f_X0_maskOf x S = some (r, S) := by
  have key : ∀ (j k fuel : Nat) (y : Int32), j + k = 6 → j < fuel → ∃ r, lp_X0_maskOf_4 x fuel y (iv (k : Int)) S = some (r, S) := by
    intro j
    induction j with
    | zero =>
      intro k fuel y h1 h2
      obtain ⟨n, rfl⟩ : ∃ k, fuel = k + 1 := ⟨fuel - 1, by omega⟩
      rw [lp_X0_maskOf_4]
      simp (disch := omega) only [nxt_e, bnd_s, chk_T, chk_nF, ↓reduceIte, i_0, i_1, i_2, i_3, i_4, i_5, i_6, i_8, i_9, i_10, i_15, i_19, i_20, i_30, i_31, i_40, i_60, i_100, i_200, i_1000, i_20000, iv_neg, iv_add, iv_sub, iv_mul, iv_lt, iv_le, iv_eq, iv_cl, iv_in, ltT, ltF, leT, leF, eqT, eqF, gI_e, gI_n, gI_sA, gI_sL, gI_sB, gL_e, gL_n, gL_sI, gL_sA, gL_sB, gA_e, gA_n, gA_sI, gA_sL, gA_sB, gB_e, gB_n, gB_sI, gB_sL, gB_sA, up_e, up_n, uL_e, uL_n]
      exact ⟨_, rfl⟩
    | succ j ih =>
      intro k fuel y h1 h2
      obtain ⟨n, rfl⟩ : ∃ k, fuel = k + 1 := ⟨fuel - 1, by omega⟩
      rw [lp_X0_maskOf_4, i_6, if_neg (by rw [iv_le (by omega) (by omega) (by omega) (by omega)]; omega), nxt_e, show iv (k : Int) + 1 = iv ((k + 1 : Nat) : Int) by rw [i_1, iv_add]; rfl]
      split
      · exact ih (k + 1) n _ (by omega) (by omega)
      · exact ih (k + 1) n _ (by omega) (by omega)
  unfold f_X0_maskOf
  have := key 6 0 FU 0 (by omega) (by rw [FU_v]; omega)
  rw [i0n] at this
  exact this
/-- an empty listing, and the first one -/
def L0 : Ld := (fun _ => [], fun _ => 0, fun _ => 0, 0, 0)
def L1 : Ld := cmL L0 0 0 167961600000000
theorem ct_0 (L : Nat) : ct 0 L = 0 := by
  have : ∀ k, ctn L 0 k = 0 := by
    intro k
    induction k with
    | zero => rfl
    | succ k ih =>
      show (if L / 2 ^ k % 2 = 1 then ctn L 0 k else wt (ctn L 0 k) k 0) = 0
      rw [ih]
      split
      · rfl
      · unfold wt dg; simp
  exact this 6
theorem hs_nil (c : Nat) : hs c [] = 0 := rfl
theorem L1_Ls (p : Nat) : lLs L1 p = if p = 0 then [(0, 167961600000000)] else [] := by
  show va_up (fun _ => []) 0 (ins 0 167961600000000 []) p = _
  by_cases e : p = 0
  · rw [vup_e e, if_pos e]; rfl
  · rw [vup_n e, if_neg e]
theorem pot_nil (P : Pr) : ∀ N, pot P (fun _ => []) N = 0
  | 0 => rfl
  | N + 1 => by
    show pot P (fun _ => []) N + 9 ^ (cnt (pK P) 3 (pN P) - cnt (pK P) 3 N) * msum [] = 0
    rw [pot_nil P N]; rfl
theorem WfL_1 {P : Pr} (he : EV P) : WfL P L1 := by
  refine ⟨he, fun p => ?_, fun p => ?_, fun p c m h => ?_, fun p hp => ?_, ?_⟩
  · rw [L1_Ls]; split
    · show 1 ≤ 200; omega
    · show 0 ≤ 200; omega
  · rw [L1_Ls]; split
    · unfold srt; simp
    · unfold srt; simp
  · rw [L1_Ls] at h
    split at h
    · rename_i e
      subst e
      cases List.mem_singleton.mp h
      refine ⟨by omega, by omega, ?_⟩
      show 60 ^ (8 - 0) ∣ 167961600000000
      decide
    · cases h
  · rw [L1_Ls, if_neg (by omega)]
  · have e : lLs L1 = va_up (fun _ => []) 0 (ins 0 167961600000000 []) := rfl
    rw [e]
    have := (pot_up (P := P) (Ls := fun _ => []) (q := 0) (l := ins 0 167961600000000 []) (pN P + 1)).1 (by omega)
    rw [pot_nil] at this
    have h2 : msum (ins 0 167961600000000 []) = 167961600000000 := rfl
    rw [h2, show cnt (pK P) 3 0 = 0 from rfl, Nat.sub_zero] at this
    have h3 : msum ([] : List (Nat × Nat)) = 0 := rfl
    rw [h3, Nat.mul_zero, Nat.mul_comm (9 ^ _)] at this
    omega
theorem e_beginM {P : Pr} {S : St} (hw : Wf P) (hR : RM P S) : ∃ S', lp_X5_begin_17 FU (iv 0) S = some (iv 1, S') ∧ RM P S' ∧ RML P L1 S' ∧ gI S' 11 = iv 1 := by
  have q1 := hw.1
  have key : ∀ (j k fuel : Nat) (S : St), j + k = 31 → j < fuel → RM P S → (∀ p, p < k → gA S 8 p = iv 0 ∧ gA S 9 p = iv 0 ∧ gA S 10 p = iv 0) → ∃ S', lp_X5_begin_17 fuel (iv (k : Int)) S = some (iv 1, S') ∧ RM P S' ∧ RML P L1 S' ∧ gI S' 11 = iv 1 := by
    intro j
    induction j with
    | zero =>
      intro k fuel S h1 h2 hR hz
      obtain ⟨n, rfl⟩ : ∃ k, fuel = k + 1 := ⟨fuel - 1, by omega⟩
      obtain ⟨f, l1, l2⟩ := e_liven hw hR
      rw [lp_X5_begin_17]
      simp (disch := omega) only [nxt_e, bnd_s, chk_T, chk_nF, ↓reduceIte, i_0, i_1, i_2, i_3, i_4, i_5, i_6, i_8, i_9, i_10, i_15, i_19, i_20, i_30, i_31, i_40, i_60, i_100, i_200, i_1000, i_20000, iv_neg, iv_add, iv_sub, iv_mul, iv_lt, iv_le, iv_eq, iv_cl, iv_in, ltT, ltF, leT, leF, eqT, eqF, l1]
      have hRL : RML P L0 (sL (sI (sI (sA S 13 f) 11 (iv 1)) 12 (iv 0)) 13 0) := by
        refine ⟨fun p hp => ?_, fun p i c m hp hi => ?_, fun p hp => ?_, fun p hp => ?_, ?_, ?_, fun p hp => ?_⟩
        · exact (hz p (by omega)).1
        · cases i <;> cases hi
        · exact (hz p (by omega)).2.1
        · exact (hz p (by omega)).2.2
        · rfl
        · rfl
        · exact l2 p hp
      obtain ⟨S', z1, z2, z3⟩ := e_comeM (p := 0) (c := 0) (m := 167961600000000) hRL (by omega) (by omega) (fun _ => Nat.zero_le _) (fun q c' m' h => by cases h) (Or.inr (by show 0 < 200; omega))
      have z1 : f_X5_come (iv 0) (iv 0) 167961600000000 (sL (sI (sI (sA S 13 f) 11 (iv 1)) 12 (iv 0)) 13 0) = some ((), S') := z1
      rw [z1, bnd_s]
      refine ⟨S', rfl, z3.RM (RM_sL (RM_sI (by decide) (RM_sI (by decide) (RM_sA (by decide) hR)))), z2, ?_⟩
      rw [z3.1]; rfl
    | succ j ih =>
      intro k fuel S h1 h2 hR hz
      obtain ⟨n, rfl⟩ : ∃ k, fuel = k + 1 := ⟨fuel - 1, by omega⟩
      rw [lp_X5_begin_17]
      simp (disch := omega) only [nxt_e, bnd_s, chk_T, chk_nF, ↓reduceIte, i_0, i_1, i_2, i_3, i_4, i_5, i_6, i_8, i_9, i_10, i_15, i_19, i_20, i_30, i_31, i_40, i_60, i_100, i_200, i_1000, i_20000, iv_neg, iv_add, iv_sub, iv_mul, iv_lt, iv_le, iv_eq, iv_cl, iv_in, ltT, ltF, leT, leF, eqT, eqF, gI_e, gI_n, gI_sA, gI_sL, gI_sB, gL_e, gL_n, gL_sI, gL_sA, gL_sB, gA_e, gA_n, gA_sI, gA_sL, gA_sB, gB_e, gB_n, gB_sI, gB_sL, gB_sA, up_e, up_n, uL_e, uL_n, Int.toNat_natCast]
      refine ih (k + 1) n _ (by omega) (by omega) (RM_sA (by decide) (RM_sA (by decide) (RM_sA (by decide) hR))) (fun p hp => ?_)
      simp (disch := omega) only [gI_e, gI_n, gI_sA, gI_sL, gI_sB, gL_e, gL_n, gL_sI, gL_sA, gL_sB, gA_e, gA_n, gA_sI, gA_sL, gA_sB, gB_e, gB_n, gB_sI, gB_sL, gB_sA, up_e, up_n, uL_e, uL_n]
      by_cases e : p = k
      · rw [up_e e, up_e e, up_e e]; exact ⟨rfl, rfl, rfl⟩
      · rw [up_n e, up_n e, up_n e]; exact hz p (by omega)
  have := key 31 0 FU S (by omega) (by rw [FU_v]; omega) hR (fun p hp => absurd hp (by omega))
  rw [i0n] at this
  exact this
theorem e_startC {P : Pr} {S : St} (hw : Wf P) (hR : RC P S) (hK : RCK P S) : ∃ S', f_X1_start S = some ((), S') ∧ QC P S' ∧ RCL P L1 S' := by
  have q1 := hw.1
  have key : ∀ (j k fuel : Nat) (S : St), j + k = 31 → j < fuel → RC P S → RCK P S → (∀ p, p ≤ pN P → gA S 10 p = iv (LV P p)) → (∀ p, p < k → gA S 13 p = iv 0 ∧ gA S 14 p = iv 0 ∧ gA S 15 p = iv 0 ∧ gA S 16 p = iv 0) → (∀ p, p < k → p ≤ pN P → gA S 17 p = iv (mk (LV P p))) → ∃ S', lp_X1_start_9 fuel (iv (k : Int)) S = some ((), S') ∧ QC P S' ∧ RCL P L1 S' := by
    intro j
    induction j with
    | zero =>
      intro k fuel S h1 h2 hR hK hl hz hm
      obtain ⟨n, rfl⟩ : ∃ k, fuel = k + 1 := ⟨fuel - 1, by omega⟩
      rw [lp_X1_start_9]
      simp (disch := omega) only [nxt_e, bnd_s, chk_T, chk_nF, ↓reduceIte, i_0, i_1, i_2, i_3, i_4, i_5, i_6, i_8, i_9, i_10, i_15, i_19, i_20, i_30, i_31, i_40, i_60, i_100, i_200, i_1000, i_20000, iv_neg, iv_add, iv_sub, iv_mul, iv_lt, iv_le, iv_eq, iv_cl, iv_in, ltT, ltF, leT, leF, eqT, eqF]
      have hRL : RCF (fun _ => 0) P L0 (sI (sL (sI S 108 (iv 1)) 109 0) 110 (iv 0)) := by
        refine ⟨fun p hp => ?_, fun p hp => ?_, fun p i c m hp hi => ?_, fun p hp => ?_, ?_, ?_⟩
        · have := hz p (by omega)
          exact ⟨this.1, this.2.1, by show 0 + 0 ≤ 200; omega⟩
        · have := hz p (by omega)
          exact ⟨this.2.2.1, this.2.2.2⟩
        · cases i <;> cases hi
        · exact hm p (by omega) hp
        · rfl
        · rfl
      obtain ⟨S', z1, z2, z3⟩ := e_comeC (p := 0) (c0 := 0) (m := 167961600000000) hRL (by omega) (by omega) (by omega) List.Pairwise.nil (fun q c' m' h => by cases h) (Or.inr (by show 0 + 0 < 200; omega))
      have z1 : f_X1_come (iv 0) (iv 0) 167961600000000 (sI (sL (sI S 108 (iv 1)) 109 0) 110 (iv 0)) = some ((), S') := z1
      rw [z1, bnd_s]
      refine ⟨S', rfl, ⟨z3.RC (RC_sI (by decide) (RC_sL (RC_sI (by decide) hR))), RCK_Fl (by omega) z3 (RCK_sI (by decide) (RCK_sL (by decide) (RCK_sI (by decide) hK))), ?_⟩, RCL_of (fs := fun _ => 0) ?_ (fun p q h1 h2 => absurd rfl h2)⟩
      · rw [z3.1]; rfl
      · rw [ct_0] at z2
        exact z2
    | succ j ih =>
      intro k fuel S h1 h2 hR hK hl hz hm
      obtain ⟨n, rfl⟩ : ∃ k, fuel = k + 1 := ⟨fuel - 1, by omega⟩
      have hla : ∀ S' : St, f_X2_liveAt (iv (k : Int)) S' = some (gA S' 10 k, S') := by
        intro S'
        unfold f_X2_liveAt
        simp (disch := omega) only [nxt_e, bnd_s, chk_T, chk_nF, ↓reduceIte, i_0, i_1, i_2, i_3, i_4, i_5, i_6, i_8, i_9, i_10, i_15, i_19, i_20, i_30, i_31, i_40, i_60, i_100, i_200, i_1000, i_20000, iv_neg, iv_add, iv_sub, iv_mul, iv_lt, iv_le, iv_eq, iv_cl, iv_in, ltT, ltF, leT, leF, eqT, eqF, gI_e, gI_n, gI_sA, gI_sL, gI_sB, gL_e, gL_n, gL_sI, gL_sA, gL_sB, gA_e, gA_n, gA_sI, gA_sL, gA_sB, gB_e, gB_n, gB_sI, gB_sL, gB_sA, up_e, up_n, uL_e, uL_n, Int.toNat_natCast]
      rw [lp_X1_start_9]
      simp (disch := omega) only [nxt_e, bnd_s, chk_T, chk_nF, ↓reduceIte, i_0, i_1, i_2, i_3, i_4, i_5, i_6, i_8, i_9, i_10, i_15, i_19, i_20, i_30, i_31, i_40, i_60, i_100, i_200, i_1000, i_20000, iv_neg, iv_add, iv_sub, iv_mul, iv_lt, iv_le, iv_eq, iv_cl, iv_in, ltT, ltF, leT, leF, eqT, eqF, gI_e, gI_n, gI_sA, gI_sL, gI_sB, gL_e, gL_n, gL_sI, gL_sA, gL_sB, gA_e, gA_n, gA_sI, gA_sL, gA_sB, gB_e, gB_n, gB_sI, gB_sL, gB_sA, up_e, up_n, uL_e, uL_n, Int.toNat_natCast, hla]
      obtain ⟨r, hr⟩ := mask_any (gA S 10 k) (sA (sA (sA (sA S 13 (upd (gA S 13) k (iv 0))) 14 (upd (gA S 14) k (iv 0))) 15 (upd (gA S 15) k (iv 0))) 16 (upd (gA S 16) k (iv 0)))
      rw [hr, bnd_s]
      simp (disch := omega) only [gI_e, gI_n, gI_sA, gI_sL, gI_sB, gL_e, gL_n, gL_sI, gL_sA, gL_sB, gA_e, gA_n, gA_sI, gA_sL, gA_sB, gB_e, gB_n, gB_sI, gB_sL, gB_sA, up_e, up_n, uL_e, uL_n]
      refine ih (k + 1) n _ (by omega) (by omega) (RC_sA (by decide) (by decide) (RC_sA (by decide) (by decide) (RC_sA (by decide) (by decide) (RC_sA (by decide) (by decide) (RC_sA (by decide) (by decide) hR))))) (RCK_sA (RCK_sA (RCK_sA (RCK_sA (RCK_sA hK))))) hl (fun p hp => ?_) (fun p hp hpn => ?_)
      · simp (disch := omega) only [gI_e, gI_n, gI_sA, gI_sL, gI_sB, gL_e, gL_n, gL_sI, gL_sA, gL_sB, gA_e, gA_n, gA_sI, gA_sL, gA_sB, gB_e, gB_n, gB_sI, gB_sL, gB_sA, up_e, up_n, uL_e, uL_n]
        by_cases e : p = k
        · rw [up_e e, up_e e, up_e e, up_e e]; exact ⟨rfl, rfl, rfl, rfl⟩
        · rw [up_n e, up_n e, up_n e, up_n e]; exact hz p (by omega)
      · simp (disch := omega) only [gI_e, gI_n, gI_sA, gI_sL, gI_sB, gL_e, gL_n, gL_sI, gL_sA, gL_sB, gA_e, gA_n, gA_sI, gA_sL, gA_sB, gB_e, gB_n, gB_sI, gB_sL, gB_sA, up_e, up_n, uL_e, uL_n]
        by_cases e : p = k
        · subst e
          rw [up_e rfl]
          rw [hl p hpn, e_mask (LV_lt hw p)] at hr
          cases hr
          rfl
        · rw [up_n e]; exact hm p (by omega) hpn
  obtain ⟨f, l1, l2⟩ := e_mark hw hR
  unfold f_X1_start
  rw [l1, bnd_s]
  have := key 31 0 FU (sA S 10 f) (by omega) (by rw [FU_v]; omega) (RC_sA (by decide) (by decide) hR) (RCK_sA hK) (fun p hp => by rw [gA_e]; exact l2 p hp) (fun p hp => absurd hp (by omega)) (fun p hp => absurd hp (by omega))
  rw [i0n] at this
  exact this
theorem sm_begin : Sm f_X4_begin f_X5_begin := by
  intro Z SC SM hI
  have hI2 := hI
  obtain ⟨w1, w2, w3, w4, w5⟩ := hI
  have w3' := RM_sI (v := iv 0) (k := 0) (by decide) w3
  have uC := e_unevC w1 w2
  have uM := e_unevM w1 w3'
  rcases uvN_01 Z.1 (pN Z.1) 0 with h | h
  · have h : uv Z.1 = 0 := h
    have he := uv_EV.mp h
    rw [h] at uC uM
    obtain ⟨SC', a1, a2, a3⟩ := e_startC w1 w2 w4
    obtain ⟨SM', b1, b2, b3, b4⟩ := e_beginM w1 w3'
    refine ⟨iv 1, SC', SM', (Z.1, 1, L1), ?_, ?_, w1, a2.1, b2, a2.2.1, Or.inr ⟨rfl, a2.2.2, b4, WfL_1 he, a3, b3⟩⟩
    · unfold f_X4_begin
      simp (disch := omega) only [nxt_e, bnd_s, chk_T, chk_nF, ↓reduceIte, i_0, i_1, i_2, i_3, i_4, i_5, i_6, i_8, i_9, i_10, i_15, i_19, i_20, i_30, i_31, i_40, i_60, i_100, i_200, i_1000, i_20000, iv_neg, iv_add, iv_sub, iv_mul, iv_lt, iv_le, iv_eq, iv_cl, iv_in, ltT, ltF, leT, leF, eqT, eqF, gI_e, gI_n, gI_sA, gI_sL, gI_sB, gL_e, gL_n, gL_sI, gL_sA, gL_sB, gA_e, gA_n, gA_sI, gA_sL, gA_sB, gB_e, gB_n, gB_sI, gB_sL, gB_sA, up_e, up_n, uL_e, uL_n, uC, a1]
    · unfold f_X5_begin
      simp (disch := omega) only [nxt_e, bnd_s, chk_T, chk_nF, ↓reduceIte, i_0, i_1, i_2, i_3, i_4, i_5, i_6, i_8, i_9, i_10, i_15, i_19, i_20, i_30, i_31, i_40, i_60, i_100, i_200, i_1000, i_20000, iv_neg, iv_add, iv_sub, iv_mul, iv_lt, iv_le, iv_eq, iv_cl, iv_in, ltT, ltF, leT, leF, eqT, eqF, gI_e, gI_n, gI_sA, gI_sL, gI_sB, gL_e, gL_n, gL_sI, gL_sA, gL_sB, gA_e, gA_n, gA_sI, gA_sL, gA_sB, gB_e, gB_n, gB_sI, gB_sL, gB_sA, up_e, up_n, uL_e, uL_n, uM]
      exact b1
  · have h : uv Z.1 = 1 := h
    rw [h] at uC uM
    refine ⟨iv (-4), SC, sI SM 0 (iv 0), Z, ?_, ?_, Inv_thr _ hI2⟩
    · unfold f_X4_begin
      simp (disch := omega) only [nxt_e, bnd_s, chk_T, chk_nF, ↓reduceIte, i_0, i_1, i_2, i_3, i_4, i_5, i_6, i_8, i_9, i_10, i_15, i_19, i_20, i_30, i_31, i_40, i_60, i_100, i_200, i_1000, i_20000, iv_neg, iv_add, iv_sub, iv_mul, iv_lt, iv_le, iv_eq, iv_cl, iv_in, ltT, ltF, leT, leF, eqT, eqF, gI_e, gI_n, gI_sA, gI_sL, gI_sB, gL_e, gL_n, gL_sI, gL_sA, gL_sB, gA_e, gA_n, gA_sI, gA_sL, gA_sB, gB_e, gB_n, gB_sI, gB_sL, gB_sA, up_e, up_n, uL_e, uL_n, uC]
    · unfold f_X5_begin
      simp (disch := omega) only [nxt_e, bnd_s, chk_T, chk_nF, ↓reduceIte, i_0, i_1, i_2, i_3, i_4, i_5, i_6, i_8, i_9, i_10, i_15, i_19, i_20, i_30, i_31, i_40, i_60, i_100, i_200, i_1000, i_20000, iv_neg, iv_add, iv_sub, iv_mul, iv_lt, iv_le, iv_eq, iv_cl, iv_in, ltT, ltF, leT, leF, eqT, eqF, gI_e, gI_n, gI_sA, gI_sL, gI_sB, gL_e, gL_n, gL_sI, gL_sA, gL_sB, gA_e, gA_n, gA_sI, gA_sL, gA_sB, gB_e, gB_n, gB_sI, gB_sL, gB_sA, up_e, up_n, uL_e, uL_n, uM]
