/-! ===== runs, plain ===== -/
theorem e_empty {S : St} : ∃ S', f_X3_empty S = some ((), S') ∧ SvR [] S' ∧ FS S S' ∧ gI S' 304 = gI S 304 := by
  have row : ∀ (x : Nat) (k2 : Int32 → St → Option (Unit × St)), x < 6 → ∀ (j v fuel : Nat) (S : St), j + v = 10 → j < fuel → ∃ S', lp_X3_empty_10 (iv (x : Int)) k2 fuel (iv (v : Int)) S = k2 (iv ((x : Int) + 1)) S' ∧ (∀ k, gI S' k = gI S k) ∧ (∀ k, gL S' k = gL S k) ∧ (∀ k, gA S' k = gA S k) ∧ (∀ k, k ≠ 85 + x → gB S' k = gB S k) ∧ (∀ u, u < 10 → (v ≤ u → gB S' (85 + x) u = 0) ∧ (u < v → gB S' (85 + x) u = gB S (85 + x) u)) := by
    intro x k2 hx j
    induction j with
    | zero =>
      intro v fuel S h1 h2
      obtain ⟨n, rfl⟩ : ∃ k, fuel = k + 1 := ⟨fuel - 1, by omega⟩
      refine ⟨S, ?_, fun _ => rfl, fun _ => rfl, fun _ => rfl, fun _ _ => rfl, fun u hu => ⟨fun z => absurd z (by omega), fun _ => rfl⟩⟩
      rw [lp_X3_empty_10]
      simp (disch := omega) only [nxt_e, bnd_s, chk_T, chk_nF, ↓reduceIte, i_0, i_1, i_2, i_3, i_4, i_5, i_6, i_8, i_9, i_10, i_15, i_19, i_20, i_30, i_31, i_40, i_60, i_100, i_200, i_1000, i_20000, iv_neg, iv_add, iv_sub, iv_mul, iv_lt, iv_le, iv_eq, iv_cl, iv_in, ltT, ltF, leT, leF, eqT, eqF, gI_e, gI_n, gI_sA, gI_sL, gI_sB, gL_e, gL_n, gL_sI, gL_sA, gL_sB, gA_e, gA_n, gA_sI, gA_sL, gA_sB, gB_e, gB_n, gB_sI, gB_sL, gB_sA, up_e, up_n, uL_e, uL_n]
    | succ j ih =>
      intro v fuel S h1 h2
      obtain ⟨n, rfl⟩ : ∃ k, fuel = k + 1 := ⟨fuel - 1, by omega⟩
      rw [lp_X3_empty_10]
      simp (disch := omega) only [nxt_e, bnd_s, chk_T, chk_nF, ↓reduceIte, i_0, i_1, i_2, i_3, i_4, i_5, i_6, i_8, i_9, i_10, i_15, i_19, i_20, i_30, i_31, i_40, i_60, i_100, i_200, i_1000, i_20000, iv_neg, iv_add, iv_sub, iv_mul, iv_lt, iv_le, iv_eq, iv_cl, iv_in, ltT, ltF, leT, leF, eqT, eqF, gI_e, gI_n, gI_sA, gI_sL, gI_sB, gL_e, gL_n, gL_sI, gL_sA, gL_sB, gA_e, gA_n, gA_sI, gA_sL, gA_sB, gB_e, gB_n, gB_sI, gB_sL, gB_sA, up_e, up_n, uL_e, uL_n, Int.toNat_natCast]
      obtain ⟨S', y1, y2, y3, y4, y5, y6⟩ := ih (v + 1) n (sB S (85 + x) (vp_updL (gB S (85 + x)) v 0)) (by omega) (by omega)
      refine ⟨S', y1, y2, y3, y4, fun k hk => by rw [y5 k hk, gB_n hk], fun u hu => ⟨fun z => ?_, fun z => ?_⟩⟩
      · by_cases e : u = v
        · rw [(y6 u hu).2 (by omega), gB_e, uL_e e]
        · exact (y6 u hu).1 (by omega)
      · rw [(y6 u hu).2 (by omega), gB_e, uL_n (by omega)]
  have key : ∀ (j x fuel : Nat) (S : St), j + x = 6 → j < fuel → (∀ y u, y < x → u < 10 → gB S (85 + y) u = 0) → ∃ S', lp_X3_empty_2 fuel (iv (x : Int)) S = some ((), S') ∧ SvR [] S' ∧ FS S S' ∧ gI S' 304 = gI S 304 := by
    intro j
    induction j with
    | zero =>
      intro x fuel S h1 h2 h3
      obtain ⟨n, rfl⟩ : ∃ k, fuel = k + 1 := ⟨fuel - 1, by omega⟩
      refine ⟨sI (sL S 302 0) 303 0, ?_, ⟨rfl, rfl, fun y u hy hu => h3 y u (by omega) hu⟩, ⟨fun k a _ => gI_n a, fun k a => gL_n a, fun _ => rfl, fun _ _ => rfl⟩, gI_n (by decide)⟩
      rw [lp_X3_empty_2, if_pos (by rw [i_6, iv_le (by omega) (by omega) (by omega) (by omega)]; omega)]
      rfl
    | succ j ih =>
      intro x fuel S h1 h2 h3
      obtain ⟨n, rfl⟩ : ∃ k, fuel = k + 1 := ⟨fuel - 1, by omega⟩
      rw [lp_X3_empty_2, if_neg (by rw [i_6, iv_le (by omega) (by omega) (by omega) (by omega)]; omega), i_0, ← i0n]
      obtain ⟨S1, y1, y2, y3, y4, y5, y6⟩ := row x (lp_X3_empty_2 n) (by omega) 10 0 FU S (by omega) (by rw [FU_v]; omega)
      rw [y1]
      obtain ⟨S2, z1, z2, z3, z4⟩ := ih (x + 1) n S1 (by omega) (by omega) (fun y u hy hu => by
        by_cases e : y = x
        · subst e; exact (y6 u hu).1 (by omega)
        · rw [y5 (85 + y) (by omega)]; exact h3 y u (by omega) hu)
      have hF : FS S S1 := ⟨fun k _ _ => y2 k, fun k _ => y3 k, y4, fun k hk => y5 k (by omega)⟩
      exact ⟨S2, z1, z2, hF.tr z3, by rw [z4, y2]⟩
  obtain ⟨S', y⟩ := key 6 0 FU S (by omega) (by rw [FU_v]; omega) (fun y u hy => absurd hy (by omega))
  refine ⟨S', ?_⟩
  unfold f_X3_empty
  rw [i_0, ← i0n]
  exact y
/-- what tally answers -/
def tly (P : Pr) : Int32 := if (allR P).length ≤ 20000 then iv (allR P).length else -2
theorem e_tally {P : Pr} {S : St} (hw : Wf P) (he : EV P) (hR : RC P S) (hK : RCK P S) : ∃ S', f_X3_tally S = some (tly P, S') ∧ FS S S' ∧ RCK P S' ∧ ((allR P).length ≤ 20000 → gL S' 302 = jv (endM 6 0 (allR P)) ∧ ∀ x v, x < 6 → v < 10 → gB S' (85 + x) v = jv (endM x v (allR P))) := by
  have hu := e_unevC hw hR
  rw [uv_EV.mpr he] at hu
  unfold f_X3_tally tly
  rw [hu, bnd_s, if_pos (show iv ((0 : Nat) : Int) = 0 from rfl)]
  have hle : ∀ n : Nat, n ≤ 20001 ∨ n < 2000000 → (iv (n : Int) ≤ (20000 : Int32) ↔ n ≤ 20000) := by
    intro n hn
    rw [i_20000, iv_le (by omega) (by omega) (by omega) (by omega)]; omega
  rcases hK with h0 | ⟨h1, h2⟩
  · rw [if_pos (show gI S 304 = 0 from h0)]
    obtain ⟨S1, y1, y2, y3, y4⟩ := e_empty (S := S)
    have hfol := fol_ok hw he 20 0 0 167961600000000 0 [] S1 (En_0 hw) (Nat.zero_le _) (by unfold dl; have := hw.2.2.2.2.2.1; omega) (y3.RC hR) y2 (Nat.zero_le _)
    obtain ⟨S2, z1, z2, z3⟩ := hfol
    have z1 : f_X3_follow 0 0 167961600000000 0 S1 = some ((), S2) := z1
    rw [y1, bnd_s, z1, bnd_s, nxt_e]
    have hF : FS S (sI S2 304 1) := (y3.tr z2).tr ⟨fun k _ a => gI_n a, fun _ _ => rfl, fun _ => rfl, fun _ _ => rfl⟩
    rw [List.nil_append] at z3
    have hg : gI (sI S2 304 1) 303 = gI S2 303 := gI_n (by decide)
    rw [hg]
    have z3 : Rs (allR P) S2 := z3
    rcases z3 with ⟨z3, u1, u2, u3⟩ | ⟨z3, u1⟩
    · rw [u1, if_pos ((hle _ (by omega)).mpr z3), if_pos z3]
      exact ⟨_, rfl, hF, Or.inr ⟨rfl, Or.inl ⟨by rw [hg]; exact u1, z3, u2, u3⟩⟩, fun _ => ⟨u2, u3⟩⟩
    · rw [u1, if_neg (show ¬ iv 20001 ≤ (20000 : Int32) by decide), if_neg (by omega)]
      exact ⟨_, rfl, hF, Or.inr ⟨rfl, Or.inr ⟨20001, by rw [hg]; exact u1, by omega, by omega, z3⟩⟩, fun z => absurd z (by omega)⟩
  · rw [if_neg (by rw [h1]; decide)]
    have hK : RCK P S := Or.inr ⟨h1, h2⟩
    rcases h2 with ⟨u1, z3, u2, u3⟩ | ⟨k, u1, u2, u3, u4⟩
    · rw [u1, if_pos ((hle _ (by omega)).mpr z3), if_pos z3]
      exact ⟨S, rfl, FS.rf, hK, fun _ => ⟨u2, u3⟩⟩
    · rw [u1, if_neg (fun z => by have := (hle k (by omega)).mp z; omega), if_neg (by omega)]
      exact ⟨S, rfl, FS.rf, hK, fun z => absurd z (by omega)⟩
theorem Inv_run {Z : Zt} {SC SM SC' SM' : St} (hI : Inv Z SC SM) (hF : FS SC SC') (hK : RCK Z.1 SC') (hP : Fp (sI SM 0 (iv 0)) SM') : Inv Z SC' SM' := by
  obtain ⟨w1, w2, w3, w4, w5⟩ := hI
  refine ⟨w1, hF.RC w2, hP.RM (RM_sI (by decide) w3), hK, ?_⟩
  rcases w5 with ⟨o, o1, o2⟩ | ⟨o, o1, o2, o3, o4, o5⟩
  · exact Or.inl ⟨o, by rw [hF.1 108 (by decide) (by decide)]; exact o1, by rw [hP.1 11 (by decide) (by decide) (by decide), gI_n (by decide)]; exact o2⟩
  · exact Or.inr ⟨o, by rw [hF.1 108 (by decide) (by decide)]; exact o1, by rw [hP.1 11 (by decide) (by decide) (by decide), gI_n (by decide)]; exact o2, o3, hF.RCL o4, hP.RML (RML_sI (by decide) o5)⟩
theorem sm_runs : Sm f_X4_runs f_X5_runs := by
  intro Z SC SM hI
  have hI2 := hI
  obtain ⟨w1, w2, w3, w4, w5⟩ := hI
  have w3' := RM_sI (v := iv 0) (k := 0) (by decide) w3
  have uC := e_unevC w1 w2
  have uM := e_unevM w1 w3'
  rcases uvN_01 Z.1 (pN Z.1) 0 with h | h
  · have h : uv Z.1 = 0 := h
    have he := uv_EV.mp h
    rw [h] at uM
    obtain ⟨SC', a1, a2, a3, a4⟩ := e_tally w1 he w2 w4
    obtain ⟨SM', b1, b2, b3⟩ := e_listed (xi := -1) (vi := 0) (xn := 6) (vn := 0) w1 he (Or.inl ⟨rfl, rfl⟩) w3'
    refine ⟨tly Z.1, SC', SM', Z, ?_, ?_, Inv_run hI2 a2 a3 b3⟩
    · unfold f_X4_runs
      rw [a1, bnd_s]
    · unfold f_X5_runs
      have b1 : f_X5_listed (-1) 0 (sI SM 0 0) = some (tly Z.1, SM') := b1
      have uM : f_X5_isUneven (sI SM 0 0) = some (iv ((0 : Nat) : Int), sI SM 0 0) := uM
      rw [nxt_e, uM, bnd_s, if_pos (show iv ((0 : Nat) : Int) = 0 from rfl), b1, bnd_s]
  · have h : uv Z.1 = 1 := h
    rw [h] at uC uM
    refine ⟨iv (-4), SC, sI SM 0 (iv 0), Z, ?_, ?_, Inv_thr _ hI2⟩
    · unfold f_X4_runs f_X3_tally
      simp (disch := omega) only [nxt_e, bnd_s, chk_T, chk_nF, ↓reduceIte, i_0, i_1, i_2, i_3, i_4, i_5, i_6, i_8, i_9, i_10, i_15, i_19, i_20, i_30, i_31, i_40, i_60, i_100, i_200, i_1000, i_20000, iv_neg, iv_add, iv_sub, iv_mul, iv_lt, iv_le, iv_eq, iv_cl, iv_in, ltT, ltF, leT, leF, eqT, eqF, gI_e, gI_n, gI_sA, gI_sL, gI_sB, gL_e, gL_n, gL_sI, gL_sA, gL_sB, gA_e, gA_n, gA_sI, gA_sL, gA_sB, gB_e, gB_n, gB_sI, gB_sL, gB_sA, up_e, up_n, uL_e, uL_n, uC]
    · unfold f_X5_runs
      simp (disch := omega) only [nxt_e, bnd_s, chk_T, chk_nF, ↓reduceIte, i_0, i_1, i_2, i_3, i_4, i_5, i_6, i_8, i_9, i_10, i_15, i_19, i_20, i_30, i_31, i_40, i_60, i_100, i_200, i_1000, i_20000, iv_neg, iv_add, iv_sub, iv_mul, iv_lt, iv_le, iv_eq, iv_cl, iv_in, ltT, ltF, leT, leF, eqT, eqF, gI_e, gI_n, gI_sA, gI_sL, gI_sB, gL_e, gL_n, gL_sI, gL_sA, gL_sB, gA_e, gA_n, gA_sI, gA_sL, gA_sB, gB_e, gB_n, gB_sI, gB_sL, gB_sA, up_e, up_n, uL_e, uL_n, uM]
theorem sm_plain (a b : Int32) : Sm (f_X4_plain a b) (f_X5_plain a b) := by
  intro Z SC SM hI
  obtain ⟨a, rfl, ha1, ha2⟩ := iv_ex a
  obtain ⟨b, rfl, hb1, hb2⟩ := iv_ex b
  have hI2 := hI
  obtain ⟨w1, w2, w3, w4, w5⟩ := hI
  have fin : ∀ r : Int64, f_X4_plain (iv a) (iv b) SC = some (r, SC) → f_X5_plain (iv a) (iv b) SM = some (r, sI SM 0 (iv 0)) → ∃ (r : Int64) (SC' SM' : St) (Z' : Zt), f_X4_plain (iv a) (iv b) SC = some (r, SC') ∧ f_X5_plain (iv a) (iv b) SM = some (r, SM') ∧ Inv Z' SC' SM' := fun r h1 h2 => ⟨r, SC, _, Z, h1, h2, Inv_thr _ hI2⟩
  by_cases h2 : okx a b
  · have ch := isCh_t (S := SC) h2
    have w3' := RM_sI (v := iv 0) (k := 0) (by decide) w3
    have uC := e_unevC w1 w2
    have uM := e_unevM w1 w3'
    rcases uvN_01 Z.1 (pN Z.1) 0 with h | h
    · have h : uv Z.1 = 0 := h
      have he := uv_EV.mp h
      rw [h] at uM
      obtain ⟨SC', a1, a2, a3, a4⟩ := e_tally w1 he w2 w4
      obtain ⟨xn, vn, hxv, hok⟩ : ∃ xn vn : Nat, xok a b xn vn ∧ (a = -1 → xn = 6 ∧ vn = 0) := by
        rcases h2 with z | ⟨z1, z2, z3, z4⟩
        · exact ⟨6, 0, Or.inl ⟨z, rfl⟩, fun _ => ⟨rfl, rfl⟩⟩
        · exact ⟨a.toNat, b.toNat, Or.inr ⟨by omega, by omega, by omega, by omega⟩, fun z => by omega⟩
      obtain ⟨SM', b1, b2, b3⟩ := e_listed w1 he hxv w3'
      have b1 : f_X5_listed (iv a) (iv b) (sI SM 0 (iv 0)) = some (tly Z.1, SM') := b1
      have hfin := Inv_run hI2 a2 a3 b3
      by_cases hle : (allR Z.1).length ≤ 20000
      · have ht : tly Z.1 = iv (allR Z.1).length := if_pos hle
        have c1 := a4 hle
        have c2 := b2 hle
        rw [ht] at a1 b1
        refine ⟨jv (endM xn vn (allR Z.1)), SC', SM', Z, ?_, ?_, hfin⟩
        · unfold f_X4_plain
          rcases hxv with ⟨z1, z2⟩ | ⟨z1, z2, z3, z4⟩
          · obtain ⟨z5, z6⟩ := hok z1
            subst z5
            subst z6
            subst z1
            simp (disch := omega) only [nxt_e, bnd_s, chk_T, chk_nF, ↓reduceIte, i_0, i_1, i_2, i_3, i_4, i_5, i_6, i_8, i_9, i_10, i_15, i_19, i_20, i_30, i_31, i_40, i_60, i_100, i_200, i_1000, i_20000, iv_neg, iv_add, iv_sub, iv_mul, iv_lt, iv_le, iv_eq, iv_cl, iv_in, ltT, ltF, leT, leF, eqT, eqF, gI_e, gI_n, gI_sA, gI_sL, gI_sB, gL_e, gL_n, gL_sI, gL_sA, gL_sB, gA_e, gA_n, gA_sI, gA_sL, gA_sB, gB_e, gB_n, gB_sI, gB_sL, gB_sA, up_e, up_n, uL_e, uL_n, ch, a1, c1.1]
          · subst z1
            subst z3
            have c3 := c1.2 xn vn z2 (by omega)
            simp (disch := omega) only [nxt_e, bnd_s, chk_T, chk_nF, ↓reduceIte, i_0, i_1, i_2, i_3, i_4, i_5, i_6, i_8, i_9, i_10, i_15, i_19, i_20, i_30, i_31, i_40, i_60, i_100, i_200, i_1000, i_20000, iv_neg, iv_add, iv_sub, iv_mul, iv_lt, iv_le, iv_eq, iv_cl, iv_in, ltT, ltF, leT, leF, eqT, eqF, gI_e, gI_n, gI_sA, gI_sL, gI_sB, gL_e, gL_n, gL_sI, gL_sA, gL_sB, gA_e, gA_n, gA_sI, gA_sL, gA_sB, gB_e, gB_n, gB_sI, gB_sL, gB_sA, up_e, up_n, uL_e, uL_n, ch, a1, Int.toNat_natCast, c3]
        · unfold f_X5_plain
          rcases hxv with ⟨z1, z2⟩ | ⟨z1, z2, z3, z4⟩
          · simp (disch := omega) only [nxt_e, bnd_s, chk_T, chk_nF, ↓reduceIte, i_0, i_1, i_2, i_3, i_4, i_5, i_6, i_8, i_9, i_10, i_15, i_19, i_20, i_30, i_31, i_40, i_60, i_100, i_200, i_1000, i_20000, iv_neg, iv_add, iv_sub, iv_mul, iv_lt, iv_le, iv_eq, iv_cl, iv_in, ltT, ltF, leT, leF, eqT, eqF, gI_e, gI_n, gI_sA, gI_sL, gI_sB, gL_e, gL_n, gL_sI, gL_sA, gL_sB, gA_e, gA_n, gA_sI, gA_sL, gA_sB, gB_e, gB_n, gB_sI, gB_sL, gB_sA, up_e, up_n, uL_e, uL_n, isIn_t, uM, b1, c2]
          · simp (disch := omega) only [nxt_e, bnd_s, chk_T, chk_nF, ↓reduceIte, i_0, i_1, i_2, i_3, i_4, i_5, i_6, i_8, i_9, i_10, i_15, i_19, i_20, i_30, i_31, i_40, i_60, i_100, i_200, i_1000, i_20000, iv_neg, iv_add, iv_sub, iv_mul, iv_lt, iv_le, iv_eq, iv_cl, iv_in, ltT, ltF, leT, leF, eqT, eqF, gI_e, gI_n, gI_sA, gI_sL, gI_sB, gL_e, gL_n, gL_sI, gL_sA, gL_sB, gA_e, gA_n, gA_sI, gA_sL, gA_sB, gB_e, gB_n, gB_sI, gB_sL, gB_sA, up_e, up_n, uL_e, uL_n, isIn_t, uM, b1, c2]
      · have ht : tly Z.1 = -2 := if_neg hle
        rw [ht] at a1 b1
        refine ⟨-2, SC', SM', Z, ?_, ?_, hfin⟩
        · unfold f_X4_plain
          rw [ch, bnd_s, if_neg (show ¬ iv 1 = 0 by decide), a1, bnd_s, if_neg (by decide)]
          rfl
        · unfold f_X5_plain
          rcases hxv with ⟨z1, z2⟩ | ⟨z1, z2, z3, z4⟩
          · simp (disch := omega) only [nxt_e, bnd_s, chk_T, chk_nF, ↓reduceIte, i_0, i_1, i_2, i_3, i_4, i_5, i_6, i_8, i_9, i_10, i_15, i_19, i_20, i_30, i_31, i_40, i_60, i_100, i_200, i_1000, i_20000, iv_neg, iv_add, iv_sub, iv_mul, iv_lt, iv_le, iv_eq, iv_cl, iv_in, ltT, ltF, leT, leF, eqT, eqF, gI_e, gI_n, gI_sA, gI_sL, gI_sB, gL_e, gL_n, gL_sI, gL_sA, gL_sB, gA_e, gA_n, gA_sI, gA_sL, gA_sB, gB_e, gB_n, gB_sI, gB_sL, gB_sA, up_e, up_n, uL_e, uL_n, isIn_t, uM, b1]
          · simp (disch := omega) only [nxt_e, bnd_s, chk_T, chk_nF, ↓reduceIte, i_0, i_1, i_2, i_3, i_4, i_5, i_6, i_8, i_9, i_10, i_15, i_19, i_20, i_30, i_31, i_40, i_60, i_100, i_200, i_1000, i_20000, iv_neg, iv_add, iv_sub, iv_mul, iv_lt, iv_le, iv_eq, iv_cl, iv_in, ltT, ltF, leT, leF, eqT, eqF, gI_e, gI_n, gI_sA, gI_sL, gI_sB, gL_e, gL_n, gL_sI, gL_sA, gL_sB, gA_e, gA_n, gA_sI, gA_sL, gA_sB, gB_e, gB_n, gB_sI, gB_sL, gB_sA, up_e, up_n, uL_e, uL_n, isIn_t, uM, b1]
    · have h : uv Z.1 = 1 := h
      rw [h] at uC uM
      refine fin (-4) ?_ ?_
      · unfold f_X4_plain f_X3_tally
        rw [ch, bnd_s, if_neg (show ¬ iv 1 = 0 by decide), uC, bnd_s, if_neg (show ¬ iv ((1 : Nat) : Int) = 0 by decide), bnd_s, if_neg (by decide)]
        rfl
      · unfold f_X5_plain
        rcases h2 with z1 | ⟨z1, z2, z3, z4⟩
        · simp (disch := omega) only [nxt_e, bnd_s, chk_T, chk_nF, ↓reduceIte, i_0, i_1, i_2, i_3, i_4, i_5, i_6, i_8, i_9, i_10, i_15, i_19, i_20, i_30, i_31, i_40, i_60, i_100, i_200, i_1000, i_20000, iv_neg, iv_add, iv_sub, iv_mul, iv_lt, iv_le, iv_eq, iv_cl, iv_in, ltT, ltF, leT, leF, eqT, eqF, gI_e, gI_n, gI_sA, gI_sL, gI_sB, gL_e, gL_n, gL_sI, gL_sA, gL_sB, gA_e, gA_n, gA_sI, gA_sL, gA_sB, gB_e, gB_n, gB_sI, gB_sL, gB_sA, up_e, up_n, uL_e, uL_n, isIn_t, uM]
        · simp (disch := omega) only [nxt_e, bnd_s, chk_T, chk_nF, ↓reduceIte, i_0, i_1, i_2, i_3, i_4, i_5, i_6, i_8, i_9, i_10, i_15, i_19, i_20, i_30, i_31, i_40, i_60, i_100, i_200, i_1000, i_20000, iv_neg, iv_add, iv_sub, iv_mul, iv_lt, iv_le, iv_eq, iv_cl, iv_in, ltT, ltF, leT, leF, eqT, eqF, gI_e, gI_n, gI_sA, gI_sL, gI_sB, gL_e, gL_n, gL_sI, gL_sA, gL_sB, gA_e, gA_n, gA_sI, gA_sL, gA_sB, gB_e, gB_n, gB_sI, gB_sL, gB_sA, up_e, up_n, uL_e, uL_n, isIn_t, uM]
  · have ch := isCh_f (S := SC) h2 ha1 ha2 hb1 hb2
    unfold okx at h2
    refine fin (-1) ?_ ?_
    · unfold f_X4_plain
      rw [ch, bnd_s, if_pos (show iv 0 = 0 from rfl)]
    · unfold f_X5_plain
      by_cases e1 : -1 ≤ a ∧ a ≤ 5
      · simp (disch := omega) only [nxt_e, bnd_s, chk_T, chk_nF, ↓reduceIte, i_0, i_1, i_2, i_3, i_4, i_5, i_6, i_8, i_9, i_10, i_15, i_19, i_20, i_30, i_31, i_40, i_60, i_100, i_200, i_1000, i_20000, iv_neg, iv_add, iv_sub, iv_mul, iv_lt, iv_le, iv_eq, iv_cl, iv_in, ltT, ltF, leT, leF, eqT, eqF, gI_e, gI_n, gI_sA, gI_sL, gI_sB, gL_e, gL_n, gL_sI, gL_sA, gL_sB, gA_e, gA_n, gA_sI, gA_sL, gA_sB, gB_e, gB_n, gB_sI, gB_sL, gB_sA, up_e, up_n, uL_e, uL_n, isIn_t, isIn_f]
      · simp (disch := omega) only [nxt_e, bnd_s, chk_T, chk_nF, ↓reduceIte, i_0, i_1, i_2, i_3, i_4, i_5, i_6, i_8, i_9, i_10, i_15, i_19, i_20, i_30, i_31, i_40, i_60, i_100, i_200, i_1000, i_20000, iv_neg, iv_add, iv_sub, iv_mul, iv_lt, iv_le, iv_eq, iv_cl, iv_in, ltT, ltF, leT, leF, eqT, eqF, gI_e, gI_n, gI_sA, gI_sL, gI_sB, gL_e, gL_n, gL_sI, gL_sA, gL_sB, gA_e, gA_n, gA_sI, gA_sL, gA_sB, gB_e, gB_n, gB_sI, gB_sL, gB_sA, up_e, up_n, uL_e, uL_n, isIn_t, isIn_f]
