/-! ===== a Program by itself (genprog.py) ===== -/
def objP (d : Dt) (S : St) : va_E := .inr (1, [.ref (d.1 1), .ref (d.1 2), .ref (d.1 3), .ref (d.1 4), .ref (d.1 5), .ref (d.1 6), .ref (d.1 11), .int (gI S 207), .int (gI S 208), .int (gI S 209), .int (gI S 210)])
def lenP (c : Nat) : Nat := if c ≤ 5 then 30 else if c ≤ 10 then 10 else 31
def cellP (d : Dt) (S : St) (c : Nat) : va_E := if c = 0 then objP d S else if c = 6 then .inl (d.2.2.2.2.1, 4, .inr (.inr (.inr (.inr (fun i => some (d.1 (7 + i))))))) else .inl (d.2.1, lenP c, .inl (gA S c))
def wlP (d : Dt) (S : St) : va_W := (List.range 12).map (fun c => (d.1 c, cellP d S c))
theorem wadP : wlAd wlP := by
  intro d S S' k q e hk
  by_cases hl : k < 12
  · unfold wlP at hk
    rw [wl_get _ hl] at hk
    cases hk
    exact ⟨_, wl_get _ hl⟩
  · unfold wlP at hk
    rw [List.getElem?_eq_none (by simpa using hl)] at hk
    cases hk
theorem cellP_sA (d : Dt) (S : St) (c j : Nat) (f : Nat → Int32) (h : j ≠ c) : cellP d (sA S c f) j = cellP d S j := by
  unfold cellP objP
  simp only [gI_sA, gA_sA, if_neg h]
theorem arP_6 : AR wlP 6 4 7 := ⟨3, .int, fun d => d.2.2.2.2.1, fun _ => rfl, fun d S => by
  unfold wlP; rw [wl_get _ (by decide)]; rfl⟩
theorem roP_6 {i : Int32} (h : inB i 4 = true) : AI wlP (7 + i.toNatClampNeg) 10 := by
  have := inB_lt h
  generalize i.toNatClampNeg = j at this
  have h0 : ∀ d S, cellP d S (7 + j) = .inl (d.2.1, 10, .inl (gA S (7 + j))) := by
    intro d S
    unfold cellP lenP
    rw [if_neg (by omega), if_neg (by omega), if_neg (by omega), if_pos (by omega)]
  exact fun d S => ⟨by unfold wlP; rw [wl_get _ (by omega), h0], fun f => by
    unfold wlP
    exact wl_set (by rw [h0, gA_sA, if_pos rfl]) (fun j hj => by rw [cellP_sA _ _ _ _ _ hj])⟩
theorem obP : OB wlP 0 RX2 := ⟨1, _, rfl, rfl, fun d S => ⟨_, wl_get (fun c => (d.1 c, cellP d S c)) (by decide)⟩⟩
theorem gP_29 : GF wlP RX2 29 0 (fun d _ => .ref (d.1 6)) := ⟨1, 5, RX2, TX2, 11, rfl, uwX2, by decide, Or.inl (T11 (i := 38) rfl rfl), rfl, fun d S => ⟨_, wl_get (fun c => (d.1 c, cellP d S c)) (by decide), rfl⟩⟩
theorem pP_38 : ∀ x : Int32, PF wlP RX2 38 0 (.int x) (fun S => sI S 208 x) := fun x => ⟨1, 8, RX2, TX2, 11, tyX2, rfl, uwX2, by decide, T11 (i := 41) rfl rfl, rfl, tyX2_ok, nmX2, rfl, rfl, rfl, fun d S => ⟨_, wl_get (fun c => (d.1 c, cellP d S c)) (by decide), Nat.le_of_ble_eq_true rfl, by
  refine wl_set rfl (fun j hj => ?_)
  have : cellP d (sI S 208 x) j = cellP d S j := by
    unfold cellP
    simp only [if_neg (show ¬ j = 0 from hj)]
    rfl
  rw [this]⟩⟩
theorem pP_42 : ∀ x : Int32, PF wlP RX2 42 0 (.int x) (fun S => sI S 209 x) := fun x => ⟨1, 9, RX2, TX2, 11, tyX2, rfl, uwX2, by decide, T11 (i := 44) rfl rfl, rfl, tyX2_ok, nmX2, rfl, rfl, rfl, fun d S => ⟨_, wl_get (fun c => (d.1 c, cellP d S c)) (by decide), Nat.le_of_ble_eq_true rfl, by
  refine wl_set rfl (fun j hj => ?_)
  have : cellP d (sI S 209 x) j = cellP d S j := by
    unfold cellP
    simp only [if_neg (show ¬ j = 0 from hj)]
    rfl
  rw [this]⟩⟩
theorem pP_45 : ∀ x : Int32, PF wlP RX2 45 0 (.int x) (fun S => sI S 210 x) := fun x => ⟨1, 10, RX2, TX2, 11, tyX2, rfl, uwX2, by decide, T11 (i := 46) rfl rfl, rfl, tyX2_ok, nmX2, rfl, rfl, rfl, fun d S => ⟨_, wl_get (fun c => (d.1 c, cellP d S c)) (by decide), Nat.le_of_ble_eq_true rfl, by
  refine wl_set rfl (fun j hj => ?_)
  have : cellP d (sI S 210 x) j = cellP d S j := by
    unfold cellP
    simp only [if_neg (show ¬ j = 0 from hj)]
    rfl
  rw [this]⟩⟩
theorem pP_48 : ∀ x : Int32, PF wlP RX2 48 0 (.int x) (fun S => sI S 207 x) := fun x => ⟨1, 7, RX2, TX2, 11, tyX2, rfl, uwX2, by decide, T11 (i := 40) rfl rfl, rfl, tyX2_ok, nmX2, rfl, rfl, rfl, fun d S => ⟨_, wl_get (fun c => (d.1 c, cellP d S c)) (by decide), Nat.le_of_ble_eq_true rfl, by
  refine wl_set rfl (fun j hj => ?_)
  have : cellP d (sI S 207 x) j = cellP d S j := by
    unfold cellP
    simp only [if_neg (show ¬ j = 0 from hj)]
    rfl
  rw [this]⟩⟩
noncomputable def lp_P_reset_29 (x1 : Int32) (k22 : Int32 → St → Option (Unit × St)) : Nat → Int32 → St → Option (Unit × St)
  | 0, _, _ => none
  | n + 1, x2, S => (if (10 : Int32) ≤ x2 then (k22 (x1 + (1 : Int32)) S) else (chk (inB x1 4) (if x2 = 0 then (chk (inB x2 10) (nxt (sA S (7 + (x1).toNatClampNeg) (upd (gA S (7 + (x1).toNatClampNeg)) (x2).toNatClampNeg (60 : Int32))) fun S7 => (lp_P_reset_29 x1 k22 n (x2 + (1 : Int32)) S7))) else (chk (inB x2 10) (nxt (sA S (7 + (x1).toNatClampNeg) (upd (gA S (7 + (x1).toNatClampNeg)) (x2).toNatClampNeg (0 : Int32))) fun S6 => (lp_P_reset_29 x1 k22 n (x2 + (1 : Int32)) S6))))))
set_option maxRecDepth 100000 in
set_option maxHeartbeats 4000000 in
theorem wlp_P_reset_29 (X : Cx) (x1 : Int32) (k22 : Int32 → St → Option (Unit × St)) (hk22 : ∀ (x1 : Int32) (S : St), KJ X (cX2_reset, RX2, 3, 1, none) wlP jV 22 [some (.ref (xa X 0)), some (.int x1), none] [] S (k22 x1 S)) : ∀ (n : Nat) (x2 : Int32) (S : St), KJ X (cX2_reset, RX2, 3, 1, none) wlP jV 29 [some (.ref (xa X 0)), some (.int x1), some (.int x2)] [] S (lp_P_reset_29 x1 k22 n x2 S) := by
  intro n
  induction n with
  | zero => intro x2 S; rw [lp_P_reset_29]; exact k_none
  | succ n ih =>
    intro x2 S
    rw [lp_P_reset_29]
    refine k_iload_n dX2_reset_29 rfl ?_
    refine k_bipush dX2_reset_30 cb_10 ?_
    refine k_icmp_ge (tgt := 59) dX2_reset_32 (by decide) (fun _ => ?_) (fun _ => ?_)
    · refine k_inc1 dX2_reset_59 ci_1 (by decide) rfl ?_
      refine k_goto (tgt := 22) dX2_reset_62 (by decide) ?_
      refine k_to (pc' := 22) rfl ?_
      exact k_weak (hk22 _ _) (And.intro rfl (And.intro rfl True.intro))
    · refine k_to (pc' := 35) rfl ?_
      refine k_aload_n dX2_reset_35 rfl ?_
      refine k_getR gP_29 dX2_reset_36 ?_
      refine k_iload_n dX2_reset_39 rfl ?_
      refine k_aald arP_6 dX2_reset_40 (fun h5 => ?_)
      refine k_iload_n dX2_reset_41 rfl ?_
      refine k_iload_n dX2_reset_42 rfl ?_
      refine k_if_ne (tgt := 51) dX2_reset_43 (by decide) (fun _ => ?_) (fun _ => ?_)
      · refine k_iconst dX2_reset_51 ci_0 ?_
        refine k_iast (roP_6 h5) dX2_reset_52 ?_
        refine k_nxt ?_
        refine k_inc2 dX2_reset_53 ci_1 (by decide) rfl ?_
        refine k_goto (tgt := 29) dX2_reset_56 (by decide) ?_
        refine k_to (pc' := 29) rfl ?_
        exact k_weak (ih _ _) (And.intro rfl (And.intro rfl (And.intro rfl True.intro)))
      · refine k_to (pc' := 46) rfl ?_
        refine k_bipush dX2_reset_46 cb_60 ?_
        refine k_goto (tgt := 52) dX2_reset_48 (by decide) ?_
        refine k_iast (roP_6 h5) dX2_reset_52 ?_
        refine k_nxt ?_
        refine k_inc2 dX2_reset_53 ci_1 (by decide) rfl ?_
        refine k_goto (tgt := 29) dX2_reset_56 (by decide) ?_
        refine k_to (pc' := 29) rfl ?_
        exact k_weak (ih _ _) (And.intro rfl (And.intro rfl (And.intro rfl True.intro)))
noncomputable def lp_P_reset_22 : Nat → Int32 → St → Option (Unit × St)
  | 0, _, _ => none
  | n + 1, x1, S => (if (4 : Int32) ≤ x1 then (some ((), S)) else (lp_P_reset_29 x1 (lp_P_reset_22 n) FU (0 : Int32) S))
set_option maxRecDepth 100000 in
set_option maxHeartbeats 4000000 in
theorem wlp_P_reset_22 (X : Cx) : ∀ (n : Nat) (x1 : Int32) (S : St), KJ X (cX2_reset, RX2, 3, 1, none) wlP jV 22 [some (.ref (xa X 0)), some (.int x1), none] [] S (lp_P_reset_22 n x1 S) := by
  intro n
  induction n with
  | zero => intro x1 S; rw [lp_P_reset_22]; exact k_none
  | succ n ih =>
    intro x1 S
    rw [lp_P_reset_22]
    refine k_iload_n dX2_reset_22 rfl ?_
    refine k_iconst dX2_reset_23 ci_4 ?_
    refine k_icmp_ge (tgt := 65) dX2_reset_24 (by decide) (fun _ => ?_) (fun _ => ?_)
    · exact k_vret dX2_reset_65
    · refine k_to (pc' := 27) rfl ?_
      refine k_iconst dX2_reset_27 ci_0 ?_
      refine k_ist_n2 dX2_reset_28 (by decide) rfl ?_
      refine k_to (pc' := 29) rfl ?_
      exact k_weak (wlp_P_reset_29 X _ _ ih FU _ _) (And.intro rfl (And.intro rfl (And.intro rfl True.intro)))
noncomputable def f_P_reset (S : St) : Option (Unit × St) := (nxt (sI S 208 (0 : Int32)) fun S1 => (nxt (sI S1 209 (0 : Int32)) fun S2 => (nxt (sI S2 210 (0 : Int32)) fun S3 => (nxt (sI S3 207 (0 : Int32)) fun S4 => (lp_P_reset_22 FU (0 : Int32) S4)))))
set_option maxRecDepth 100000 in
set_option maxHeartbeats 4000000 in
theorem w_P_reset (X : Cx) (S : St) : KJ X (cX2_reset, RX2, 3, 1, none) wlP jV 0 [some (.ref (xa X 0)), none, none] [] S (f_P_reset S) := by
  unfold f_P_reset
  refine k_aload_n dX2_reset_0 rfl ?_
  refine k_iconst dX2_reset_1 ci_0 ?_
  refine k_putI pP_38 dX2_reset_2 ?_
  refine k_nxt ?_
  refine k_aload_n dX2_reset_5 rfl ?_
  refine k_iconst dX2_reset_6 ci_0 ?_
  refine k_putI pP_42 dX2_reset_7 ?_
  refine k_nxt ?_
  refine k_aload_n dX2_reset_10 rfl ?_
  refine k_iconst dX2_reset_11 ci_0 ?_
  refine k_putI pP_45 dX2_reset_12 ?_
  refine k_nxt ?_
  refine k_to (pc' := 15) rfl ?_
  refine k_aload_n dX2_reset_15 rfl ?_
  refine k_iconst dX2_reset_16 ci_0 ?_
  refine k_putI pP_48 dX2_reset_17 ?_
  refine k_nxt ?_
  refine k_iconst dX2_reset_20 ci_0 ?_
  refine k_ist_n1 dX2_reset_21 (by decide) rfl ?_
  refine k_to (pc' := 22) rfl ?_
  exact k_weak (wlp_P_reset_22 X FU _ _) (And.intro rfl (And.intro rfl True.intro))
theorem m_P_reset {l : Launch} {D : va_G} {d : Dt} (S : St) : ∀ (r : Unit) (S' : St), f_P_reset S = some (r, S') → Mt l D d wlP yX2_reset cX2_reset 3 none 1 [.ref (d.1 0)] S (jV r) S' := Mt_of wadP (by decide) (Nat.le_of_ble_eq_true rfl) (fun X hL hd => by subst hd; exact w_P_reset X S)
theorem rsP29 {r : Nat} (hr : r < 4) {k : Int32 → St → Option (Unit × St)} : ∀ (j x fuel : Nat) (S : St), j + x = 10 → j < fuel → ∃ f, lp_P_reset_29 (iv (r : Int)) k fuel (iv (x : Int)) S = k (iv ((r : Int) + 1)) (sA S (7 + r) f) ∧ (∀ y, y < 10 → f y = if x ≤ y then (if y = 0 then iv 60 else iv 0) else gA S (7 + r) y) := by
  intro j
  induction j with
  | zero =>
    intro x fuel S hx hf
    obtain ⟨n, rfl⟩ : ∃ k, fuel = k + 1 := ⟨fuel - 1, by omega⟩
    refine ⟨gA S (7 + r), ?_, fun y h1 => by rw [if_neg (show ¬ x ≤ y by omega)]⟩
    rw [lp_P_reset_29, sA_self]
    simp (disch := omega) only [nxt_e, bnd_s, chk_T, chk_nF, ↓reduceIte, i_0, i_1, i_2, i_3, i_4, i_5, i_6, i_8, i_9, i_10, i_15, i_19, i_20, i_30, i_31, i_40, i_60, i_100, i_200, i_1000, i_20000, iv_neg, iv_add, iv_sub, iv_mul, iv_lt, iv_le, iv_eq, iv_cl, iv_in, ltT, ltF, leT, leF, eqT, eqF, gI_e, gI_n, gI_sA, gI_sL, gI_sB, gL_e, gL_n, gL_sI, gL_sA, gL_sB, gA_e, gA_n, gA_sI, gA_sL, gA_sB, gB_e, gB_n, gB_sI, gB_sL, gB_sA, up_e, up_n, uL_e, uL_n]
  | succ j ih =>
    intro x fuel S hx hf
    obtain ⟨n, rfl⟩ : ∃ k, fuel = k + 1 := ⟨fuel - 1, by omega⟩
    have step : ∀ v : Int32, v = (if x = 0 then iv 60 else iv 0) → ∃ f, lp_P_reset_29 (iv (r : Int)) k n (iv ((x : Int) + 1)) (sA S (7 + r) (upd (gA S (7 + r)) x v)) = k (iv ((r : Int) + 1)) (sA S (7 + r) f) ∧ (∀ y, y < 10 → f y = if x ≤ y then (if y = 0 then iv 60 else iv 0) else gA S (7 + r) y) := by
      intro v hv
      obtain ⟨f, f1, f2⟩ := ih (x + 1) n (sA S (7 + r) (upd (gA S (7 + r)) x v)) (by omega) (by omega)
      rw [sA_sA] at f1
      refine ⟨f, f1, fun y hy => ?_⟩
      rw [f2 y hy, gA_e]
      by_cases e : y = x
      · rw [if_neg (show ¬ x + 1 ≤ y by omega), if_pos (show x ≤ y by omega), up_e e, hv, e]
      · by_cases e2 : x + 1 ≤ y
        · rw [if_pos e2, if_pos (show x ≤ y by omega)]
        · rw [if_neg e2, if_neg (show ¬ x ≤ y by omega), up_n e]
    rw [lp_P_reset_29]
    by_cases hm : x = 0
    · simp (disch := omega) only [nxt_e, bnd_s, chk_T, chk_nF, ↓reduceIte, i_0, i_1, i_2, i_3, i_4, i_5, i_6, i_8, i_9, i_10, i_15, i_19, i_20, i_30, i_31, i_40, i_60, i_100, i_200, i_1000, i_20000, iv_neg, iv_add, iv_sub, iv_mul, iv_lt, iv_le, iv_eq, iv_cl, iv_in, ltT, ltF, leT, leF, eqT, eqF, gI_e, gI_n, gI_sA, gI_sL, gI_sB, gL_e, gL_n, gL_sI, gL_sA, gL_sB, gA_e, gA_n, gA_sI, gA_sL, gA_sB, gB_e, gB_n, gB_sI, gB_sL, gB_sA, up_e, up_n, uL_e, uL_n, Int.toNat_natCast]
      exact step _ (by rw [if_pos hm])
    · simp (disch := omega) only [nxt_e, bnd_s, chk_T, chk_nF, ↓reduceIte, i_0, i_1, i_2, i_3, i_4, i_5, i_6, i_8, i_9, i_10, i_15, i_19, i_20, i_30, i_31, i_40, i_60, i_100, i_200, i_1000, i_20000, iv_neg, iv_add, iv_sub, iv_mul, iv_lt, iv_le, iv_eq, iv_cl, iv_in, ltT, ltF, leT, leF, eqT, eqF, gI_e, gI_n, gI_sA, gI_sL, gI_sB, gL_e, gL_n, gL_sI, gL_sA, gL_sB, gA_e, gA_n, gA_sI, gA_sL, gA_sB, gB_e, gB_n, gB_sI, gB_sL, gB_sA, up_e, up_n, uL_e, uL_n, Int.toNat_natCast]
      exact step _ (by rw [if_neg hm])
theorem rsP22 : ∀ (j r fuel : Nat) (S : St), j + r = 4 → j < fuel → ∃ S', lp_P_reset_22 fuel (iv (r : Int)) S = some ((), S') ∧ (∀ k, gI S' k = gI S k) ∧ (∀ k, gL S' k = gL S k) ∧ (∀ k, gB S' k = gB S k) ∧ (∀ k, (k < 7 + r ∨ 11 ≤ k) → gA S' k = gA S k) ∧ ∀ r' v, r ≤ r' → r' < 4 → v < 10 → gA S' (7 + r') v = if v = 0 then iv 60 else iv 0 := by
  intro j
  induction j with
  | zero =>
    intro r fuel S hr hf
    obtain ⟨n, rfl⟩ : ∃ k, fuel = k + 1 := ⟨fuel - 1, by omega⟩
    refine ⟨S, ?_, fun _ => rfl, fun _ => rfl, fun _ => rfl, fun _ _ => rfl, fun r' v h1 h2 _ => by omega⟩
    rw [lp_P_reset_22]
    simp (disch := omega) only [nxt_e, bnd_s, chk_T, chk_nF, ↓reduceIte, i_0, i_1, i_2, i_3, i_4, i_5, i_6, i_8, i_9, i_10, i_15, i_19, i_20, i_30, i_31, i_40, i_60, i_100, i_200, i_1000, i_20000, iv_neg, iv_add, iv_sub, iv_mul, iv_lt, iv_le, iv_eq, iv_cl, iv_in, ltT, ltF, leT, leF, eqT, eqF, gI_e, gI_n, gI_sA, gI_sL, gI_sB, gL_e, gL_n, gL_sI, gL_sA, gL_sB, gA_e, gA_n, gA_sI, gA_sL, gA_sB, gB_e, gB_n, gB_sI, gB_sL, gB_sA, up_e, up_n, uL_e, uL_n]
  | succ j ih =>
    intro r fuel S hr hf
    obtain ⟨n, rfl⟩ : ∃ k, fuel = k + 1 := ⟨fuel - 1, by omega⟩
    rw [lp_P_reset_22]
    simp (disch := omega) only [nxt_e, bnd_s, chk_T, chk_nF, ↓reduceIte, i_0, i_1, i_2, i_3, i_4, i_5, i_6, i_8, i_9, i_10, i_15, i_19, i_20, i_30, i_31, i_40, i_60, i_100, i_200, i_1000, i_20000, iv_neg, iv_add, iv_sub, iv_mul, iv_lt, iv_le, iv_eq, iv_cl, iv_in, ltT, ltF, leT, leF, eqT, eqF, gI_e, gI_n, gI_sA, gI_sL, gI_sB, gL_e, gL_n, gL_sI, gL_sA, gL_sB, gA_e, gA_n, gA_sI, gA_sL, gA_sB, gB_e, gB_n, gB_sI, gB_sL, gB_sA, up_e, up_n, uL_e, uL_n]
    obtain ⟨f, f1, f2⟩ := rsP29 (r := r) (by omega) (k := lp_P_reset_22 n) 10 0 FU S rfl (by rw [FU_v]; decide)
    rw [show iv 0 = iv ((0 : Nat) : Int) from rfl, f1]
    obtain ⟨S', s1, s2, s3, s4, s5, s6⟩ := ih (r + 1) n (sA S (7 + r) f) (by omega) (by omega)
    refine ⟨S', s1, s2, s3, s4, fun k hk => ?_, fun r' v h1 h2 h3 => ?_⟩
    · rw [s5 k (by omega), gA_n (by omega)]
    · by_cases e : r' = r
      · subst e
        rw [s5 _ (by omega), gA_e, f2 v h3, if_pos (Nat.zero_le v)]
        rfl
      · exact s6 r' v (by omega) h2 h3
theorem rsP : ∃ S', f_P_reset st0 = some ((), S') ∧ gI S' 207 = iv 0 ∧ gI S' 208 = iv 0 ∧ gI S' 209 = iv 0 ∧ gI S' 210 = iv 0 ∧ (∀ k, k < 7 → gA S' k = fun _ => 0) ∧ ∀ r v, r < 4 → v < 10 → gA S' (7 + r) v = iv (pW P0 r v) := by
  obtain ⟨S', h1, h2, h3, h4, h5, h6⟩ := rsP22 4 0 FU (sI (sI (sI (sI st0 208 (iv 0)) 209 (iv 0)) 210 (iv 0)) 207 (iv 0)) (by omega) (by rw [FU_v]; omega)
  refine ⟨S', h1, by rw [h2]; rfl, by rw [h2]; rfl, by rw [h2]; rfl, by rw [h2]; rfl, fun k hk => by rw [h5 k (by omega)]; rfl, fun r v hr hv => ?_⟩
  rw [h6 r v (Nat.zero_le _) hr hv]
  show _ = iv (if v = 0 then 60 else 0 : Nat)
  split <;> rfl
theorem nm_ii : "[" ++ (FieldType.array FieldType.int).toString = "[[I" := by decide +kernel
theorem nm_ll : "[" ++ (FieldType.array FieldType.long).toString = "[[J" := by decide +kernel
theorem inn_i (c : ClassId) (K : Nat) : Jvm.Free.Multi.innerC c K (defaultValue .int) = vp_cell c (K, .inl (fun _ => 0)) := by
  show ({ cls := c, slots := Array.replicate K (.int 0), vm := .none } : Cell) = _
  rw [arrV_new]; rfl
theorem inn_l (c : ClassId) (K : Nat) : Jvm.Free.Multi.innerC c K (defaultValue .long) = vp_cell c (K, .inr (.inl (fun _ => 0))) := by
  show ({ cls := c, slots := Array.replicate K (.long 0), vm := .none } : Cell) = _
  rw [arrV_new]; rfl
