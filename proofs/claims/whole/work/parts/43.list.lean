/-! ===== list, done ===== -/
theorem mvL_stW {P : Pr} {L : Ld} {w p c m : Nat} : stW (mvL P (stW L w) p c m) w = stW (mvL P L p c m) w := by
  unfold mvL
  rw [show rmv (stW L w) p (lst P p c m) = stW (rmv L p (lst P p c m)) (w + 1) from rfl, cmF_stW]
  rfl
theorem lsN_stW (L : Ld) (w : Nat) : ∀ r p, lsN (stW L w) r p = lsN L r p
  | 0, p => rfl
  | r + 1, p => by
    show (if (lLs L p).length = 0 then lsN (stW L w) r (p + 1) else p) = if (lLs L p).length = 0 then lsN L r (p + 1) else p
    rw [lsN_stW L w r (p + 1)]
theorem spend_sim {P : Pr} (hw : Wf P) {wk : Nat} (hwk : wk ≤ 1000) : ∀ (j n fC fM : Nat) (L : Ld) (w : Nat) (SC SM : St), j + n = wk → j < fC → j < fM → QC P SC → RCL P L SC → WfL P L → RM P SM → RML P (stW L w) SM → gI SM 11 = iv 1 → lWk L = w + n → ∃ (r : Int32) (SC' SM' : St) (L' : Ld), lp_X1_spend_2 (iv (wk : Int)) fC (iv (n : Int)) SC = some (r, SC') ∧ lp_X5_list_35 (iv (wk : Int)) fM (iv (n : Int)) (iv (if lsP P L = pN P then -5 else (lsP P L : Int))) SM = some (r, SM') ∧ QC P SC' ∧ RCL P L' SC' ∧ WfL P L' ∧ RM P SM' ∧ RML P L' SM' ∧ gI SM' 11 = iv 1 := by
  have q1 := hw.1
  have fin : ∀ (n w : Nat) (L : Ld) (SM : St), RML P (stW L w) SM → lWk L = w + n → RML P L (sI SM 12 (gI SM 12 + iv (n : Int))) := by
    intro n w L SM h e
    obtain ⟨h1, h2, h3, h4, h5, h6, h7⟩ := h
    refine ⟨h1, h2, h3, h4, h5, ?_, h7⟩
    rw [gI_e, h6, iv_add, e]
    rfl
  intro j
  induction j with
  | zero =>
    intro n fC fM L w SC SM h1 h2 h3 h4 h5 h6 h7 h8 h9 h10
    obtain ⟨fC, rfl⟩ : ∃ k, fC = k + 1 := ⟨fC - 1, by omega⟩
    obtain ⟨fM, rfl⟩ : ∃ k, fM = k + 1 := ⟨fM - 1, by omega⟩
    have hle : iv (wk : Int) ≤ iv (n : Int) := (iv_le (by omega) (by omega) (by omega) (by omega)).mpr (by omega)
    refine ⟨iv (n : Int), SC, sI SM 12 (gI SM 12 + iv (n : Int)), L, ?_, ?_, h4, h5, h6, RM_sI (by decide) h7, fin n w L SM h8 h10, by rw [gI_n (by decide)]; exact h9⟩
    · rw [lp_X1_spend_2, if_pos hle]
    · rw [lp_X5_list_35, if_pos hle]; rfl
  | succ j ih =>
    intro n fC fM L w SC SM h1 h2 h3 h4 h5 h6 h7 h8 h9 h10
    obtain ⟨fC, rfl⟩ : ∃ k, fC = k + 1 := ⟨fC - 1, by omega⟩
    obtain ⟨fM, rfl⟩ : ∃ k, fM = k + 1 := ⟨fM - 1, by omega⟩
    have hle : ¬ iv (wk : Int) ≤ iv (n : Int) := by rw [iv_le (by omega) (by omega) (by omega) (by omega)]; omega
    have el := e_leastC hw h4.1 h5 h6.2.1
    have hlp := lsP_le P L
    rw [lp_X1_spend_2, if_neg hle, el, bnd_s, lp_X5_list_35, if_neg hle]
    by_cases e : lsP P L = pN P
    · rw [if_pos e, if_pos (show iv (-5) = -5 from rfl), if_pos (show iv (-5) = -5 from rfl)]
      exact ⟨iv (n : Int), SC, sI SM 12 (gI SM 12 + iv (n : Int)), L, rfl, rfl, h4, h5, h6, RM_sI (by decide) h7, fin n w L SM h8 h10, by rw [gI_n (by decide)]; exact h9⟩
    · have hne := lsP_ne e
      have hem : ∀ q, q < lsP P L → lLs L q = [] := fun q h => lsP_em h
      rw [if_neg e]
      generalize hpe : lsP P L = p at *
      have hp : p < pN P := by omega
      obtain ⟨⟨c, m⟩, t, hl⟩ := List.exists_cons_of_ne_nil hne
      have hn5 : ¬ iv (p : Int) = -5 := by
        rw [show (-5 : Int32) = iv (-5) from rfl, iv_eq (by omega) (by omega) (by omega) (by omega)]
        omega
      have h0 : (lLs L p)[0]? = some (c, m) := by rw [hl]; rfl
      have hmem : (c, m) ∈ lLs L p := by rw [hl]; exact List.mem_cons_self
      have hcm := h6.2.2.2.1 p c m hmem
      have hbd := mass_bd hw h6 (show p ≤ pN P by omega) hmem
      have hq := npl_le (c := c) hp
      obtain ⟨fs, hF, hz⟩ := RCL_to h5
      have hfq : fs (npl P p c) = 0 := by
        rcases Nat.eq_zero_or_pos (fs (npl P p c)) with h | h
        · exact h
        · have := hz (npl P p c) p hq.1 (by omega)
          rw [hl] at this
          cases this
      have er := e_roomC hw h4.1 hF h5 hp hcm.2.1 (by omega) (fun k0 => div60 hw hp k0 hcm.2.2) h6.2.2.1 (fun q c' m' h => (h6.2.2.2.1 q c' m' h).1) h0 hfq
      obtain ⟨S1, y1, y2, y3, y4, y5⟩ := e_roomM (L := stW L w) hw h7 h8 hp h6.2.1 (fun q c' m' h => (h6.2.2.2.1 q c' m' h).1) (by omega) h0
      rw [if_neg hn5, if_neg hn5, er, bnd_s, y1, bnd_s, show rmS P (stW L w) p c m = rmS P L p c m from rfl]
      by_cases hr : rmS P L p c m = 1
      · rw [hr, if_neg (show ¬ iv ((1 : Nat) : Int) = 0 by decide), if_neg (show ¬ iv ((1 : Nat) : Int) = 0 by decide)]
        obtain ⟨SC1, z1, z2, z3⟩ := e_mvC hw h4 h5 h6 hp hl hem hr
        have hWm := WfL_mv hw h6 hp hl hr
        have hW' : WfL P (stW L w) := h6
        have l1 := (RML_Fm y3 h8).1 p (by omega)
        have l1 : gA S1 8 p = iv (lLs L p).length := l1
        have hlen : (lLs L p).length = t.length + 1 := by rw [hl]; rfl
        obtain ⟨SM1, u1, u2, u3, u4⟩ := e_mvM (x1 := iv (wk : Int)) (x2 := iv (n : Int)) (k35 := lp_X5_list_35 (iv (wk : Int)) fM) hw (RM_Fm y3 h7) (RML_Fm y3 h8) hW' hp hl hr y2 y4 y5
        have u3 : RML P (stW (mvL P L p c m) w) SM1 := by
          rw [← mvL_stW]; exact u3
        have hlsw : lsP P (stW (mvL P L p c m) w) = lsP P (mvL P L p c m) := lsN_stW _ _ _ _
        rw [z1, bnd_s]
        simp (disch := omega) only [iv_in, chk_T, iv_cl, Int.toNat_natCast, nxt_e, l1, i_1, i_0, iv_sub]
        rw [show (((lLs L p).length : Int) - 1) = (t.length : Int) by omega, u1, e_leastM hw u2 u3 hWm.2.1, bnd_s, i_1, iv_add, hlsw]
        exact ih (n + 1) fC fM (mvL P L p c m) w SC1 SM1 (by omega) (by omega) (by omega) z2 z3 hWm u2 u3 (by rw [u4, y3.1 11 (by decide) (by decide)]; exact h9) (by
          unfold mvL
          rw [(cmF_lo _ _ _).2]
          show lWk L + 1 = _
          omega)
      · have hr0 : rmS P L p c m = 0 := by
          unfold rmS at hr ⊢
          split
          · rename_i h; rw [if_pos h] at hr; exact absurd rfl hr
          · rfl
        rw [hr0, if_pos (show iv ((0 : Nat) : Int) = 0 by decide), if_pos (show iv ((0 : Nat) : Int) = 0 by decide)]
        exact ⟨iv (n : Int), SC, sI S1 12 (gI S1 12 + iv (n : Int)), L, rfl, rfl, h4, h5, h6, RM_sI (by decide) (RM_Fm y3 h7), fin n w L S1 (RML_Fm y3 h8) h10, by rw [gI_n (by decide), y3.1 11 (by decide) (by decide)]; exact h9⟩
theorem sm_list (a : Int32) : Sm (f_X4_list a) (f_X5_list a) := by
  intro Z SC SM hI
  obtain ⟨a, rfl, ha1, ha2⟩ := iv_ex a
  have hI2 := hI
  obtain ⟨w1, w2, w3, w4, w5⟩ := hI
  have fin : ∀ r : Int32, f_X4_list (iv a) SC = some (r, SC) → f_X5_list (iv a) SM = some (r, sI SM 0 (iv 0)) → ∃ (r : Int32) (SC' SM' : St) (Z' : Zt), f_X4_list (iv a) SC = some (r, SC') ∧ f_X5_list (iv a) SM = some (r, SM') ∧ Inv Z' SC' SM' := fun r h1 h2 => ⟨r, SC, _, Z, h1, h2, Inv_thr _ hI2⟩
  by_cases h : 1 ≤ a ∧ a ≤ 1000
  · obtain ⟨k, rfl⟩ := Int.eq_ofNat_of_zero_le (show 0 ≤ a by omega)
    rcases w5 with ⟨o, o1, o2⟩ | ⟨o, o1, o2, o3, o4, o5⟩
    · refine fin (iv (-3)) ?_ ?_
      · unfold f_X4_list
        simp (disch := omega) only [nxt_e, bnd_s, chk_T, chk_nF, ↓reduceIte, i_0, i_1, i_2, i_3, i_4, i_5, i_6, i_8, i_9, i_10, i_15, i_19, i_20, i_30, i_31, i_40, i_60, i_100, i_200, i_1000, i_20000, iv_neg, iv_add, iv_sub, iv_mul, iv_lt, iv_le, iv_eq, iv_cl, iv_in, ltT, ltF, leT, leF, eqT, eqF, gI_e, gI_n, gI_sA, gI_sL, gI_sB, gL_e, gL_n, gL_sI, gL_sA, gL_sB, gA_e, gA_n, gA_sI, gA_sL, gA_sB, gB_e, gB_n, gB_sI, gB_sL, gB_sA, up_e, up_n, uL_e, uL_n, o1]
      · unfold f_X5_list
        simp (disch := omega) only [nxt_e, bnd_s, chk_T, chk_nF, ↓reduceIte, i_0, i_1, i_2, i_3, i_4, i_5, i_6, i_8, i_9, i_10, i_15, i_19, i_20, i_30, i_31, i_40, i_60, i_100, i_200, i_1000, i_20000, iv_neg, iv_add, iv_sub, iv_mul, iv_lt, iv_le, iv_eq, iv_cl, iv_in, ltT, ltF, leT, leF, eqT, eqF, gI_e, gI_n, gI_sA, gI_sL, gI_sB, gL_e, gL_n, gL_sI, gL_sA, gL_sB, gA_e, gA_n, gA_sI, gA_sL, gA_sB, gB_e, gB_n, gB_sI, gB_sL, gB_sA, up_e, up_n, uL_e, uL_n, isIn_t, o2]
    · obtain ⟨r, SC', SM', L', s1, s2, s3, s4, s5, s6, s7, s8⟩ := spend_sim (wk := k) w1 (by omega) k 0 FU FU Z.2.2 (lWk Z.2.2) SC (sI SM 0 (iv 0)) (by omega) (by rw [FU_v]; omega) (by rw [FU_v]; omega) ⟨w2, w4, o1⟩ o4 o3 (RM_sI (by decide) w3) (RML_sI (by decide) o5) (by rw [gI_n (by decide)]; exact o2) rfl
      rw [i0n] at s1 s2
      refine ⟨r, SC', SM', (Z.1, 1, L'), ?_, ?_, w1, s3.1, s6, s3.2.1, Or.inr ⟨rfl, s3.2.2, s8, s5, s4, s7⟩⟩
      · unfold f_X4_list f_X1_spend
        simp (disch := omega) only [nxt_e, bnd_s, chk_T, chk_nF, ↓reduceIte, i_0, i_1, i_2, i_3, i_4, i_5, i_6, i_8, i_9, i_10, i_15, i_19, i_20, i_30, i_31, i_40, i_60, i_100, i_200, i_1000, i_20000, iv_neg, iv_add, iv_sub, iv_mul, iv_lt, iv_le, iv_eq, iv_cl, iv_in, ltT, ltF, leT, leF, eqT, eqF, gI_e, gI_n, gI_sA, gI_sL, gI_sB, gL_e, gL_n, gL_sI, gL_sA, gL_sB, gA_e, gA_n, gA_sI, gA_sL, gA_sB, gB_e, gB_n, gB_sI, gB_sL, gB_sA, up_e, up_n, uL_e, uL_n, o1]
        rw [s1, bnd_s]
      · have el := e_leastM w1 (RM_sI (v := iv 0) (k := 0) (by decide) w3) (RML_sI (v := iv 0) (k := 0) (by decide) o5) o3.2.1
        unfold f_X5_list
        simp (disch := omega) only [nxt_e, bnd_s, chk_T, chk_nF, ↓reduceIte, i_0, i_1, i_2, i_3, i_4, i_5, i_6, i_8, i_9, i_10, i_15, i_19, i_20, i_30, i_31, i_40, i_60, i_100, i_200, i_1000, i_20000, iv_neg, iv_add, iv_sub, iv_mul, iv_lt, iv_le, iv_eq, iv_cl, iv_in, ltT, ltF, leT, leF, eqT, eqF, gI_e, gI_n, gI_sA, gI_sL, gI_sB, gL_e, gL_n, gL_sI, gL_sA, gL_sB, gA_e, gA_n, gA_sI, gA_sL, gA_sB, gB_e, gB_n, gB_sI, gB_sL, gB_sA, up_e, up_n, uL_e, uL_n, isIn_t, o2]
        rw [el, bnd_s]
        exact s2
  · refine fin (iv (-1)) ?_ ?_
    · unfold f_X4_list
      by_cases h1 : a < 1
      · simp (disch := omega) only [nxt_e, bnd_s, chk_T, chk_nF, ↓reduceIte, i_0, i_1, i_2, i_3, i_4, i_5, i_6, i_8, i_9, i_10, i_15, i_19, i_20, i_30, i_31, i_40, i_60, i_100, i_200, i_1000, i_20000, iv_neg, iv_add, iv_sub, iv_mul, iv_lt, iv_le, iv_eq, iv_cl, iv_in, ltT, ltF, leT, leF, eqT, eqF, gI_e, gI_n, gI_sA, gI_sL, gI_sB, gL_e, gL_n, gL_sI, gL_sA, gL_sB, gA_e, gA_n, gA_sI, gA_sL, gA_sB, gB_e, gB_n, gB_sI, gB_sL, gB_sA, up_e, up_n, uL_e, uL_n]
      · simp (disch := omega) only [nxt_e, bnd_s, chk_T, chk_nF, ↓reduceIte, i_0, i_1, i_2, i_3, i_4, i_5, i_6, i_8, i_9, i_10, i_15, i_19, i_20, i_30, i_31, i_40, i_60, i_100, i_200, i_1000, i_20000, iv_neg, iv_add, iv_sub, iv_mul, iv_lt, iv_le, iv_eq, iv_cl, iv_in, ltT, ltF, leT, leF, eqT, eqF, gI_e, gI_n, gI_sA, gI_sL, gI_sB, gL_e, gL_n, gL_sI, gL_sA, gL_sB, gA_e, gA_n, gA_sI, gA_sL, gA_sB, gB_e, gB_n, gB_sI, gB_sL, gB_sA, up_e, up_n, uL_e, uL_n]
    · unfold f_X5_list
      simp (disch := omega) only [nxt_e, bnd_s, chk_T, chk_nF, ↓reduceIte, i_0, i_1, i_2, i_3, i_4, i_5, i_6, i_8, i_9, i_10, i_15, i_19, i_20, i_30, i_31, i_40, i_60, i_100, i_200, i_1000, i_20000, iv_neg, iv_add, iv_sub, iv_mul, iv_lt, iv_le, iv_eq, iv_cl, iv_in, ltT, ltF, leT, leF, eqT, eqF, gI_e, gI_n, gI_sA, gI_sL, gI_sB, gL_e, gL_n, gL_sI, gL_sA, gL_sB, gA_e, gA_n, gA_sI, gA_sL, gA_sB, gB_e, gB_n, gB_sI, gB_sL, gB_sA, up_e, up_n, uL_e, uL_n, isIn_f]
theorem sm_done : Sm f_X4_done f_X5_done := by
  intro Z SC SM hI
  have hI2 := hI
  obtain ⟨w1, w2, w3, w4, w5⟩ := hI
  have q1 := w1.1
  rcases w5 with ⟨o, o1, o2⟩ | ⟨o, o1, o2, o3, o4, o5⟩
  · refine ⟨iv (-3), SC, sI SM 0 (iv 0), Z, ?_, ?_, Inv_thr _ hI2⟩
    · unfold f_X4_done
      simp (disch := omega) only [nxt_e, bnd_s, chk_T, chk_nF, ↓reduceIte, i_0, i_1, i_2, i_3, i_4, i_5, i_6, i_8, i_9, i_10, i_15, i_19, i_20, i_30, i_31, i_40, i_60, i_100, i_200, i_1000, i_20000, iv_neg, iv_add, iv_sub, iv_mul, iv_lt, iv_le, iv_eq, iv_cl, iv_in, ltT, ltF, leT, leF, eqT, eqF, gI_e, gI_n, gI_sA, gI_sL, gI_sB, gL_e, gL_n, gL_sI, gL_sA, gL_sB, gA_e, gA_n, gA_sI, gA_sL, gA_sB, gB_e, gB_n, gB_sI, gB_sL, gB_sA, up_e, up_n, uL_e, uL_n, o1]
    · unfold f_X5_done
      simp (disch := omega) only [nxt_e, bnd_s, chk_T, chk_nF, ↓reduceIte, i_0, i_1, i_2, i_3, i_4, i_5, i_6, i_8, i_9, i_10, i_15, i_19, i_20, i_30, i_31, i_40, i_60, i_100, i_200, i_1000, i_20000, iv_neg, iv_add, iv_sub, iv_mul, iv_lt, iv_le, iv_eq, iv_cl, iv_in, ltT, ltF, leT, leF, eqT, eqF, gI_e, gI_n, gI_sA, gI_sL, gI_sB, gL_e, gL_n, gL_sI, gL_sA, gL_sB, gA_e, gA_n, gA_sI, gA_sL, gA_sB, gB_e, gB_n, gB_sI, gB_sL, gB_sA, up_e, up_n, uL_e, uL_n, o2]
  · have w3' := RM_sI (v := iv 0) (k := 0) (by decide) w3
    have o5' := RML_sI (v := iv 0) (k := 0) (by decide) o5
    have el := e_leastM w1 w3' o5' o3.2.1
    have ec := e_leastC w1 w2 o4 o3.2.1
    have hlp := lsP_le Z.1 Z.2.2
    by_cases e : lsP Z.1 Z.2.2 = pN Z.1
    · rw [if_pos e] at el ec
      refine ⟨iv 1, SC, sI SM 0 (iv 0), Z, ?_, ?_, Inv_thr _ hI2⟩
      · unfold f_X4_done
        simp (disch := omega) only [nxt_e, bnd_s, chk_T, chk_nF, ↓reduceIte, i_0, i_1, i_2, i_3, i_4, i_5, i_6, i_8, i_9, i_10, i_15, i_19, i_20, i_30, i_31, i_40, i_60, i_100, i_200, i_1000, i_20000, iv_neg, iv_add, iv_sub, iv_mul, iv_lt, iv_le, iv_eq, iv_cl, iv_in, ltT, ltF, leT, leF, eqT, eqF, gI_e, gI_n, gI_sA, gI_sL, gI_sB, gL_e, gL_n, gL_sI, gL_sA, gL_sB, gA_e, gA_n, gA_sI, gA_sL, gA_sB, gB_e, gB_n, gB_sI, gB_sL, gB_sA, up_e, up_n, uL_e, uL_n, o1, ec]
      · unfold f_X5_done
        simp (disch := omega) only [nxt_e, bnd_s, chk_T, chk_nF, ↓reduceIte, i_0, i_1, i_2, i_3, i_4, i_5, i_6, i_8, i_9, i_10, i_15, i_19, i_20, i_30, i_31, i_40, i_60, i_100, i_200, i_1000, i_20000, iv_neg, iv_add, iv_sub, iv_mul, iv_lt, iv_le, iv_eq, iv_cl, iv_in, ltT, ltF, leT, leF, eqT, eqF, gI_e, gI_n, gI_sA, gI_sL, gI_sB, gL_e, gL_n, gL_sI, gL_sA, gL_sB, gA_e, gA_n, gA_sI, gA_sL, gA_sB, gB_e, gB_n, gB_sI, gB_sL, gB_sA, up_e, up_n, uL_e, uL_n, o2, el]
    · rw [if_neg e] at el ec
      have hne := lsP_ne e
      generalize hpe : lsP Z.1 Z.2.2 = p at *
      have hp : p < pN Z.1 := by omega
      obtain ⟨⟨c, m⟩, t, hl⟩ := List.exists_cons_of_ne_nil hne
      have h0 : (lLs Z.2.2 p)[0]? = some (c, m) := by rw [hl]; rfl
      have hmem : (c, m) ∈ lLs Z.2.2 p := by rw [hl]; exact List.mem_cons_self
      have hcm := o3.2.2.2.1 p c m hmem
      have hbd := mass_bd w1 o3 (show p ≤ pN Z.1 by omega) hmem
      have hq := npl_le (c := c) hp
      obtain ⟨fs, hF, hz⟩ := RCL_to o4
      have hfq : fs (npl Z.1 p c) = 0 := by
        rcases Nat.eq_zero_or_pos (fs (npl Z.1 p c)) with h | h
        · exact h
        · have := hz (npl Z.1 p c) p hq.1 (by omega)
          rw [hl] at this
          cases this
      have er := e_roomC w1 w2 hF o4 hp hcm.2.1 (by omega) (fun k0 => div60 w1 hp k0 hcm.2.2) o3.2.2.1 (fun q c' m' h => (o3.2.2.2.1 q c' m' h).1) h0 hfq
      obtain ⟨S1, y1, y2, y3, y4, y5⟩ := e_roomM w1 w3' o5' hp o3.2.1 (fun q c' m' h => (o3.2.2.2.1 q c' m' h).1) (by omega) h0
      have hfin : Inv (Z.1, 1, Z.2.2) SC S1 := ⟨w1, w2, RM_Fm y3 w3', w4, Or.inr ⟨rfl, o1, by rw [y3.1 11 (by decide) (by decide), gI_n (by decide)]; exact o2, o3, o4, RML_Fm y3 o5'⟩⟩
      by_cases hr : rmS Z.1 Z.2.2 p c m = 1
      · rw [hr] at er y1
        refine ⟨iv 0, SC, S1, _, ?_, ?_, hfin⟩
        · unfold f_X4_done
          simp (disch := omega) only [nxt_e, bnd_s, chk_T, chk_nF, ↓reduceIte, i_0, i_1, i_2, i_3, i_4, i_5, i_6, i_8, i_9, i_10, i_15, i_19, i_20, i_30, i_31, i_40, i_60, i_100, i_200, i_1000, i_20000, iv_neg, iv_add, iv_sub, iv_mul, iv_lt, iv_le, iv_eq, iv_cl, iv_in, ltT, ltF, leT, leF, eqT, eqF, gI_e, gI_n, gI_sA, gI_sL, gI_sB, gL_e, gL_n, gL_sI, gL_sA, gL_sB, gA_e, gA_n, gA_sI, gA_sL, gA_sB, gB_e, gB_n, gB_sI, gB_sL, gB_sA, up_e, up_n, uL_e, uL_n, o1, ec, er]
        · unfold f_X5_done
          simp (disch := omega) only [nxt_e, bnd_s, chk_T, chk_nF, ↓reduceIte, i_0, i_1, i_2, i_3, i_4, i_5, i_6, i_8, i_9, i_10, i_15, i_19, i_20, i_30, i_31, i_40, i_60, i_100, i_200, i_1000, i_20000, iv_neg, iv_add, iv_sub, iv_mul, iv_lt, iv_le, iv_eq, iv_cl, iv_in, ltT, ltF, leT, leF, eqT, eqF, gI_e, gI_n, gI_sA, gI_sL, gI_sB, gL_e, gL_n, gL_sI, gL_sA, gL_sB, gA_e, gA_n, gA_sI, gA_sL, gA_sB, gB_e, gB_n, gB_sI, gB_sL, gB_sA, up_e, up_n, uL_e, uL_n, o2, el, y1]
      · have hr0 : rmS Z.1 Z.2.2 p c m = 0 := by
          unfold rmS at hr ⊢
          split
          · rename_i h; rw [if_pos h] at hr; exact absurd rfl hr
          · rfl
        rw [hr0] at er y1
        refine ⟨iv 2, SC, S1, _, ?_, ?_, hfin⟩
        · unfold f_X4_done
          simp (disch := omega) only [nxt_e, bnd_s, chk_T, chk_nF, ↓reduceIte, i_0, i_1, i_2, i_3, i_4, i_5, i_6, i_8, i_9, i_10, i_15, i_19, i_20, i_30, i_31, i_40, i_60, i_100, i_200, i_1000, i_20000, iv_neg, iv_add, iv_sub, iv_mul, iv_lt, iv_le, iv_eq, iv_cl, iv_in, ltT, ltF, leT, leF, eqT, eqF, gI_e, gI_n, gI_sA, gI_sL, gI_sB, gL_e, gL_n, gL_sI, gL_sA, gL_sB, gA_e, gA_n, gA_sI, gA_sL, gA_sB, gB_e, gB_n, gB_sI, gB_sL, gB_sA, up_e, up_n, uL_e, uL_n, o1, ec, er]
        · unfold f_X5_done
          simp (disch := omega) only [nxt_e, bnd_s, chk_T, chk_nF, ↓reduceIte, i_0, i_1, i_2, i_3, i_4, i_5, i_6, i_8, i_9, i_10, i_15, i_19, i_20, i_30, i_31, i_40, i_60, i_100, i_200, i_1000, i_20000, iv_neg, iv_add, iv_sub, iv_mul, iv_lt, iv_le, iv_eq, iv_cl, iv_in, ltT, ltF, leT, leF, eqT, eqF, gI_e, gI_n, gI_sA, gI_sL, gI_sB, gL_e, gL_n, gL_sI, gL_sA, gL_sB, gA_e, gA_n, gA_sI, gA_sL, gA_sB, gB_e, gB_n, gB_sI, gB_sL, gB_sA, up_e, up_n, uL_e, uL_n, o2, el, y1]
