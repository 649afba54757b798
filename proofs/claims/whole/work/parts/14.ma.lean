/-! ===== printed by gen.py out of the bytecode: functions and walks ===== -/

noncomputable def f_X5_thrown (S : St) : Option (Int32 × St) := (some ((gI S 0), S))
set_option maxRecDepth 100000 in
set_option maxHeartbeats 4000000 in
theorem w_X5_thrown (X : Cx) (S : St) : KJ X (cX5_thrown, RX5, 1, 1, (some .int)) wlM jI 0 [some (.ref (xa X 0))] [] S (f_X5_thrown S) := by
  unfold f_X5_thrown
  refine k_aload_n dX5_thrown_0 rfl ?_
  refine k_getI gX5_69 dX5_thrown_1 ?_
  exact k_iret dX5_thrown_4
theorem m_X5_thrown {l : Launch} {D : va_G} {d : Dt} (S : St) : ∀ (r : Int32) (S' : St), f_X5_thrown S = some (r, S') → Mt l D d wlM yX5_thrown cX5_thrown 1 (some .int) 1 [.ref (d.1 0)] S (jI r) S' := Mt_of wadM (by decide) (Nat.le_of_ble_eq_true rfl) (fun X hL hd => by subst hd; exact w_X5_thrown X S)
noncomputable def lp_X5_reset_50 : Nat → Int32 → St → Option (Unit × St)
  | 0, _, _ => none
  | n + 1, x1, S => (if (6 : Int32) ≤ x1 then (nxt (sI S 11 (0 : Int32)) fun S4 => (some ((), S4))) else (chk (inB x1 6) (nxt (sA S 7 (upd (gA S 7) (x1).toNatClampNeg (vp_nar .boolean (0 : Int32)))) fun S5 => (lp_X5_reset_50 n (x1 + (1 : Int32)) S5))))
set_option maxRecDepth 100000 in
set_option maxHeartbeats 4000000 in
theorem wlp_X5_reset_50 (X : Cx) : ∀ (n : Nat) (x1 : Int32) (S : St), KJ X (cX5_reset, RX5, 2, 1, none) wlM jV 50 [some (.ref (xa X 0)), some (.int x1)] [] S (lp_X5_reset_50 n x1 S) := by
  intro n
  induction n with
  | zero => intro x1 S; rw [lp_X5_reset_50]; exact k_none
  | succ n ih =>
    intro x1 S
    rw [lp_X5_reset_50]
    refine k_iload_n dX5_reset_50 rfl ?_
    refine k_bipush dX5_reset_51 cb_6 ?_
    refine k_icmp_ge (tgt := 69) dX5_reset_53 (by decide) (fun _ => ?_) (fun _ => ?_)
    · refine k_aload_n dX5_reset_69 rfl ?_
      refine k_iconst dX5_reset_70 ci_0 ?_
      refine k_putZ pX5_82 (Or.inl rfl) dX5_reset_71 ?_
      refine k_nxt ?_
      exact k_vret dX5_reset_74
    · refine k_to (pc' := 56) rfl ?_
      refine k_aload_n dX5_reset_56 rfl ?_
      refine k_getR gX5_28 dX5_reset_57 ?_
      refine k_iload_n dX5_reset_60 rfl ?_
      refine k_iconst dX5_reset_61 ci_0 ?_
      refine k_zast aM_7 dX5_reset_62 ?_
      refine k_nxt ?_
      refine k_inc1 dX5_reset_63 ci_1 (by decide) rfl ?_
      refine k_goto (tgt := 50) dX5_reset_66 (by decide) ?_
      refine k_to (pc' := 50) rfl ?_
      exact k_weak (ih _ _) (And.intro rfl (And.intro rfl True.intro))
noncomputable def lp_X5_reset_17 : Nat → Int32 → St → Option (Unit × St)
  | 0, _, _ => none
  | n + 1, x1, S => (if (40 : Int32) ≤ x1 then (lp_X5_reset_50 FU (0 : Int32) S) else (chk (decide (¬ (10 : Int32) = 0)) (if (x1 - x1 / (10 : Int32) * (10 : Int32)) = 0 then (chk (inB x1 40) (nxt (sA S 6 (upd (gA S 6) (x1).toNatClampNeg (60 : Int32))) fun S7 => (lp_X5_reset_17 n (x1 + (1 : Int32)) S7))) else (chk (inB x1 40) (nxt (sA S 6 (upd (gA S 6) (x1).toNatClampNeg (0 : Int32))) fun S6 => (lp_X5_reset_17 n (x1 + (1 : Int32)) S6))))))
set_option maxRecDepth 100000 in
set_option maxHeartbeats 4000000 in
theorem wlp_X5_reset_17 (X : Cx) : ∀ (n : Nat) (x1 : Int32) (S : St), KJ X (cX5_reset, RX5, 2, 1, none) wlM jV 17 [some (.ref (xa X 0)), some (.int x1)] [] S (lp_X5_reset_17 n x1 S) := by
  intro n
  induction n with
  | zero => intro x1 S; rw [lp_X5_reset_17]; exact k_none
  | succ n ih =>
    intro x1 S
    rw [lp_X5_reset_17]
    refine k_iload_n dX5_reset_17 rfl ?_
    refine k_bipush dX5_reset_18 cb_40 ?_
    refine k_icmp_ge (tgt := 48) dX5_reset_20 (by decide) (fun _ => ?_) (fun _ => ?_)
    · refine k_iconst dX5_reset_48 ci_0 ?_
      refine k_ist_n1 dX5_reset_49 (by decide) rfl ?_
      refine k_to (pc' := 50) rfl ?_
      exact k_weak (wlp_X5_reset_50 X FU _ _) (And.intro rfl (And.intro rfl True.intro))
    · refine k_to (pc' := 23) rfl ?_
      refine k_aload_n dX5_reset_23 rfl ?_
      refine k_getR gX5_25 dX5_reset_24 ?_
      refine k_iload_n dX5_reset_27 rfl ?_
      refine k_iload_n dX5_reset_28 rfl ?_
      refine k_bipush dX5_reset_29 cb_10 ?_
      refine k_irem dX5_reset_31 ?_
      refine k_if_ne (tgt := 40) dX5_reset_32 (by decide) (fun _ => ?_) (fun _ => ?_)
      · refine k_iconst dX5_reset_40 ci_0 ?_
        refine k_iast aM_6 dX5_reset_41 ?_
        refine k_nxt ?_
        refine k_inc1 dX5_reset_42 ci_1 (by decide) rfl ?_
        refine k_goto (tgt := 17) dX5_reset_45 (by decide) ?_
        refine k_to (pc' := 17) rfl ?_
        exact k_weak (ih _ _) (And.intro rfl (And.intro rfl True.intro))
      · refine k_to (pc' := 35) rfl ?_
        refine k_bipush dX5_reset_35 cb_60 ?_
        refine k_goto (tgt := 41) dX5_reset_37 (by decide) ?_
        refine k_iast aM_6 dX5_reset_41 ?_
        refine k_nxt ?_
        refine k_inc1 dX5_reset_42 ci_1 (by decide) rfl ?_
        refine k_goto (tgt := 17) dX5_reset_45 (by decide) ?_
        refine k_to (pc' := 17) rfl ?_
        exact k_weak (ih _ _) (And.intro rfl (And.intro rfl True.intro))
noncomputable def f_X5_reset (S : St) : Option (Unit × St) := (nxt (sI S 1 (0 : Int32)) fun S1 => (nxt (sI S1 2 (0 : Int32)) fun S2 => (nxt (sI S2 3 (0 : Int32)) fun S3 => (lp_X5_reset_17 FU (0 : Int32) S3))))
set_option maxRecDepth 100000 in
set_option maxHeartbeats 4000000 in
theorem w_X5_reset (X : Cx) (S : St) : KJ X (cX5_reset, RX5, 2, 1, none) wlM jV 0 [some (.ref (xa X 0)), none] [] S (f_X5_reset S) := by
  unfold f_X5_reset
  refine k_aload_n dX5_reset_0 rfl ?_
  refine k_iconst dX5_reset_1 ci_0 ?_
  refine k_putI pX5_73 dX5_reset_2 ?_
  refine k_nxt ?_
  refine k_aload_n dX5_reset_5 rfl ?_
  refine k_iconst dX5_reset_6 ci_0 ?_
  refine k_putI pX5_76 dX5_reset_7 ?_
  refine k_nxt ?_
  refine k_aload_n dX5_reset_10 rfl ?_
  refine k_iconst dX5_reset_11 ci_0 ?_
  refine k_putI pX5_79 dX5_reset_12 ?_
  refine k_nxt ?_
  refine k_to (pc' := 15) rfl ?_
  refine k_iconst dX5_reset_15 ci_0 ?_
  refine k_ist_n1 dX5_reset_16 (by decide) rfl ?_
  refine k_to (pc' := 17) rfl ?_
  exact k_weak (wlp_X5_reset_17 X FU _ _) (And.intro rfl (And.intro rfl True.intro))
theorem m_X5_reset {l : Launch} {D : va_G} {d : Dt} (S : St) : ∀ (r : Unit) (S' : St), f_X5_reset S = some (r, S') → Mt l D d wlM yX5_reset cX5_reset 2 none 1 [.ref (d.1 0)] S (jV r) S' := Mt_of wadM (by decide) (Nat.le_of_ble_eq_true rfl) (fun X hL hd => by subst hd; exact w_X5_reset X S)
noncomputable def f_X5_isIn (x0 : Int32) (x1 : Int32) (x2 : Int32) (S : St) : Option (Int32 × St) := (if x0 < x1 then (some ((0 : Int32), S)) else (if x2 < x0 then (some ((0 : Int32), S)) else (some ((1 : Int32), S))))
set_option maxRecDepth 100000 in
set_option maxHeartbeats 4000000 in
theorem w_X5_isIn (X : Cx) (x0 : Int32) (x1 : Int32) (x2 : Int32) (S : St) : KJ X (cX5_isIn, RX5, 3, 1, (some .boolean)) wlM jI 0 [some (.int x0), some (.int x1), some (.int x2)] [] S (f_X5_isIn x0 x1 x2 S) := by
  unfold f_X5_isIn
  refine k_iload_n dX5_isIn_0 rfl ?_
  refine k_iload_n dX5_isIn_1 rfl ?_
  refine k_icmp_lt (tgt := 14) dX5_isIn_2 (by decide) (fun _ => ?_) (fun _ => ?_)
  · refine k_iconst dX5_isIn_14 ci_0 ?_
    exact k_zret (Or.inl rfl) dX5_isIn_15
  · refine k_to (pc' := 5) rfl ?_
    refine k_iload_n dX5_isIn_5 rfl ?_
    refine k_iload_n dX5_isIn_6 rfl ?_
    refine k_icmp_gt (tgt := 14) dX5_isIn_7 (by decide) (fun _ => ?_) (fun _ => ?_)
    · refine k_iconst dX5_isIn_14 ci_0 ?_
      exact k_zret (Or.inl rfl) dX5_isIn_15
    · refine k_to (pc' := 10) rfl ?_
      refine k_iconst dX5_isIn_10 ci_1 ?_
      refine k_goto (tgt := 15) dX5_isIn_11 (by decide) ?_
      exact k_zret (Or.inr rfl) dX5_isIn_15
theorem m_X5_isIn {l : Launch} {D : va_G} {d : Dt} (x0 : Int32) (x1 : Int32) (x2 : Int32) (S : St) : ∀ (r : Int32) (S' : St), f_X5_isIn x0 x1 x2 S = some (r, S') → Mt l D d wlM yX5_isIn cX5_isIn 3 (some .boolean) 1 [.int x0, .int x1, .int x2] S (jI r) S' := Mt_of wadM (by decide) (Nat.le_of_ble_eq_true rfl) (fun X hL hd => by subst hd; exact w_X5_isIn X x0 x1 x2 S)
noncomputable def f_X5_isTerm (x0 : Int32) (S : St) : Option (Int32 × St) := (bnd (f_X5_isIn x0 (0 : Int32) (5 : Int32) S) fun r1 S2 => (if r1 = 0 then (bnd (f_X5_isIn x0 (10 : Int32) (19 : Int32) S2) fun r3 S4 => (if r3 = 0 then (some ((0 : Int32), S4)) else (some ((1 : Int32), S4)))) else (some ((1 : Int32), S2))))
set_option maxRecDepth 100000 in
set_option maxHeartbeats 4000000 in
theorem w_X5_isTerm (X : Cx) (x0 : Int32) (S : St) : KJ X (cX5_isTerm, RX5, 1, 2, (some .boolean)) wlM jI 0 [some (.int x0)] [] S (f_X5_isTerm x0 S) := by
  unfold f_X5_isTerm
  refine k_iload_n dX5_isTerm_0 rfl ?_
  refine k_iconst dX5_isTerm_1 ci_0 ?_
  refine k_iconst dX5_isTerm_2 ci_5 ?_
  refine k_cs3i wadM lkX5_86 (m_X5_isIn _ _ _ _) (by decide) (Nat.le_of_ble_eq_true rfl) dX5_isTerm_3 (fun r1 S2 => ?_)
  refine k_if_ne (tgt := 20) dX5_isTerm_6 (by decide) (fun _ => ?_) (fun _ => ?_)
  · refine k_iconst dX5_isTerm_20 ci_1 ?_
    refine k_goto (tgt := 25) dX5_isTerm_21 (by decide) ?_
    exact k_zret (Or.inr rfl) dX5_isTerm_25
  · refine k_to (pc' := 9) rfl ?_
    refine k_iload_n dX5_isTerm_9 rfl ?_
    refine k_bipush dX5_isTerm_10 cb_10 ?_
    refine k_bipush dX5_isTerm_12 cb_19 ?_
    refine k_cs3i wadM lkX5_86 (m_X5_isIn _ _ _ _) (by decide) (Nat.le_of_ble_eq_true rfl) dX5_isTerm_14 (fun r3 S4 => ?_)
    refine k_if_eq (tgt := 24) dX5_isTerm_17 (by decide) (fun _ => ?_) (fun _ => ?_)
    · refine k_iconst dX5_isTerm_24 ci_0 ?_
      exact k_zret (Or.inl rfl) dX5_isTerm_25
    · refine k_to (pc' := 20) rfl ?_
      refine k_iconst dX5_isTerm_20 ci_1 ?_
      refine k_goto (tgt := 25) dX5_isTerm_21 (by decide) ?_
      exact k_zret (Or.inr rfl) dX5_isTerm_25
theorem m_X5_isTerm {l : Launch} {D : va_G} {d : Dt} (x0 : Int32) (S : St) : ∀ (r : Int32) (S' : St), f_X5_isTerm x0 S = some (r, S') → Mt l D d wlM yX5_isTerm cX5_isTerm 1 (some .boolean) 2 [.int x0] S (jI r) S' := Mt_of wadM (by decide) (Nat.le_of_ble_eq_true rfl) (fun X hL hd => by subst hd; exact w_X5_isTerm X x0 S)
noncomputable def f_X5_weight (x1 : Int32) (x2 : Int32) (x3 : Int32) (S : St) : Option (Int32 × St) := (nxt (sI S 0 (0 : Int32)) fun S1 => (bnd (f_X5_isIn x1 (0 : Int32) (3 : Int32) S1) fun r2 S3 => (if r2 = 0 then (some ((-1 : Int32), S3)) else (bnd (f_X5_isIn x2 (0 : Int32) (9 : Int32) S3) fun r4 S5 => (if r4 = 0 then (some ((-1 : Int32), S5)) else (bnd (f_X5_isIn x3 (0 : Int32) (60 : Int32) S5) fun r6 S7 => (if r6 = 0 then (some ((-1 : Int32), S7)) else (chk (inB (((10 : Int32) * x1) + x2) 40) (nxt (gA S7 6 ((((10 : Int32) * x1) + x2)).toNatClampNeg) fun y8 => (chk (inB (((10 : Int32) * x1) + x2) 40) (nxt (sA S7 6 (upd (gA S7 6) ((((10 : Int32) * x1) + x2)).toNatClampNeg x3)) fun S9 => (nxt (sI S9 11 (0 : Int32)) fun S10 => (some (y8, S10))))))))))))))
set_option maxRecDepth 100000 in
set_option maxHeartbeats 4000000 in
theorem w_X5_weight (X : Cx) (x1 : Int32) (x2 : Int32) (x3 : Int32) (S : St) : KJ X (cX5_weight, RX5, 5, 2, (some .int)) wlM jI 0 [some (.ref (xa X 0)), some (.int x1), some (.int x2), some (.int x3), none] [] S (f_X5_weight x1 x2 x3 S) := by
  unfold f_X5_weight
  refine k_aload_n dX5_weight_0 rfl ?_
  refine k_iconst dX5_weight_1 ci_0 ?_
  refine k_putI pX5_69 dX5_weight_2 ?_
  refine k_nxt ?_
  refine k_iload_n dX5_weight_5 rfl ?_
  refine k_iconst dX5_weight_6 ci_0 ?_
  refine k_iconst dX5_weight_7 ci_3 ?_
  refine k_cs3i wadM lkX5_86 (m_X5_isIn _ _ _ _) (by decide) (Nat.le_of_ble_eq_true rfl) dX5_weight_8 (fun r2 S3 => ?_)
  refine k_if_eq (tgt := 34) dX5_weight_11 (by decide) (fun _ => ?_) (fun _ => ?_)
  · refine k_iconst dX5_weight_34 ci_m1 ?_
    exact k_iret dX5_weight_35
  · refine k_to (pc' := 14) rfl ?_
    refine k_iload_n dX5_weight_14 rfl ?_
    refine k_iconst dX5_weight_15 ci_0 ?_
    refine k_bipush dX5_weight_16 cb_9 ?_
    refine k_cs3i wadM lkX5_86 (m_X5_isIn _ _ _ _) (by decide) (Nat.le_of_ble_eq_true rfl) dX5_weight_18 (fun r4 S5 => ?_)
    refine k_if_eq (tgt := 34) dX5_weight_21 (by decide) (fun _ => ?_) (fun _ => ?_)
    · refine k_iconst dX5_weight_34 ci_m1 ?_
      exact k_iret dX5_weight_35
    · refine k_to (pc' := 24) rfl ?_
      refine k_iload_n dX5_weight_24 rfl ?_
      refine k_iconst dX5_weight_25 ci_0 ?_
      refine k_bipush dX5_weight_26 cb_60 ?_
      refine k_cs3i wadM lkX5_86 (m_X5_isIn _ _ _ _) (by decide) (Nat.le_of_ble_eq_true rfl) dX5_weight_28 (fun r6 S7 => ?_)
      refine k_if_ne (tgt := 36) dX5_weight_31 (by decide) (fun _ => ?_) (fun _ => ?_)
      · refine k_aload_n dX5_weight_36 rfl ?_
        refine k_getR gX5_25 dX5_weight_37 ?_
        refine k_bipush dX5_weight_40 cb_10 ?_
        refine k_iload_n dX5_weight_42 rfl ?_
        refine k_imul dX5_weight_43 ?_
        refine k_iload_n dX5_weight_44 rfl ?_
        refine k_iadd dX5_weight_45 ?_
        refine k_iald aM_6 dX5_weight_46 ?_
        refine k_ist4 dX5_weight_47 (by decide) rfl ?_
        refine k_nxt ?_
        refine k_to (pc' := 49) rfl ?_
        refine k_aload_n dX5_weight_49 rfl ?_
        refine k_getR gX5_25 dX5_weight_50 ?_
        refine k_bipush dX5_weight_53 cb_10 ?_
        refine k_iload_n dX5_weight_55 rfl ?_
        refine k_imul dX5_weight_56 ?_
        refine k_iload_n dX5_weight_57 rfl ?_
        refine k_iadd dX5_weight_58 ?_
        refine k_iload_n dX5_weight_59 rfl ?_
        refine k_iast aM_6 dX5_weight_60 ?_
        refine k_nxt ?_
        refine k_aload_n dX5_weight_61 rfl ?_
        refine k_to (pc' := 62) rfl ?_
        refine k_iconst dX5_weight_62 ci_0 ?_
        refine k_putZ pX5_82 (Or.inl rfl) dX5_weight_63 ?_
        refine k_nxt ?_
        refine k_iload dX5_weight_66 rfl ?_
        exact k_iret dX5_weight_68
      · refine k_to (pc' := 34) rfl ?_
        refine k_iconst dX5_weight_34 ci_m1 ?_
        exact k_iret dX5_weight_35
theorem m_X5_weight {l : Launch} {D : va_G} {d : Dt} (x1 : Int32) (x2 : Int32) (x3 : Int32) (S : St) : ∀ (r : Int32) (S' : St), f_X5_weight x1 x2 x3 S = some (r, S') → Mt l D d wlM yX5_weight cX5_weight 5 (some .int) 2 [.ref (d.1 0), .int x1, .int x2, .int x3] S (jI r) S' := Mt_of wadM (by decide) (Nat.le_of_ble_eq_true rfl) (fun X hL hd => by subst hd; exact w_X5_weight X x1 x2 x3 S)
noncomputable def f_X5_added (x1 : Int32) (x2 : Int32) (x3 : Int32) (x4 : Int32) (x5 : Int32) (S : St) : Option (Int32 × St) := (chk (inB (gI S 1) 30) (nxt (sA S 1 (upd (gA S 1) ((gI S 1)).toNatClampNeg x1)) fun S1 => (chk (inB (gI S1 1) 30) (nxt (sA S1 2 (upd (gA S1 2) ((gI S1 1)).toNatClampNeg x2)) fun S2 => (chk (inB (gI S2 1) 30) (nxt (sA S2 3 (upd (gA S2 3) ((gI S2 1)).toNatClampNeg x3)) fun S3 => (chk (inB (gI S3 1) 30) (nxt (sA S3 4 (upd (gA S3 4) ((gI S3 1)).toNatClampNeg x4)) fun S4 => (chk (inB (gI S4 1) 30) (nxt (sA S4 5 (upd (gA S4 5) ((gI S4 1)).toNatClampNeg x5)) fun S5 => (nxt (sI S5 1 ((gI S5 1) + (1 : Int32))) fun S6 => (nxt (sI S6 11 (0 : Int32)) fun S7 => (some (((gI S7 1) - (1 : Int32)), S7))))))))))))))
set_option maxRecDepth 100000 in
set_option maxHeartbeats 4000000 in
theorem w_X5_added (X : Cx) (x1 : Int32) (x2 : Int32) (x3 : Int32) (x4 : Int32) (x5 : Int32) (S : St) : KJ X (cX5_added, RX5, 6, 1, (some .int)) wlM jI 0 [some (.ref (xa X 0)), some (.int x1), some (.int x2), some (.int x3), some (.int x4), some (.int x5)] [] S (f_X5_added x1 x2 x3 x4 x5 S) := by
  unfold f_X5_added
  refine k_aload_n dX5_added_0 rfl ?_
  refine k_getR gX5_7 dX5_added_1 ?_
  refine k_aload_n dX5_added_4 rfl ?_
  refine k_getI gX5_73 dX5_added_5 ?_
  refine k_iload_n dX5_added_8 rfl ?_
  refine k_iast aM_1 dX5_added_9 ?_
  refine k_nxt ?_
  refine k_aload_n dX5_added_10 rfl ?_
  refine k_getR gX5_13 dX5_added_11 ?_
  refine k_aload_n dX5_added_14 rfl ?_
  refine k_to (pc' := 15) rfl ?_
  refine k_getI gX5_73 dX5_added_15 ?_
  refine k_iload_n dX5_added_18 rfl ?_
  refine k_iast aM_2 dX5_added_19 ?_
  refine k_nxt ?_
  refine k_aload_n dX5_added_20 rfl ?_
  refine k_getR gX5_16 dX5_added_21 ?_
  refine k_aload_n dX5_added_24 rfl ?_
  refine k_getI gX5_73 dX5_added_25 ?_
  refine k_iload_n dX5_added_28 rfl ?_
  refine k_iast aM_3 dX5_added_29 ?_
  refine k_nxt ?_
  refine k_aload_n dX5_added_30 rfl ?_
  refine k_to (pc' := 31) rfl ?_
  refine k_getR gX5_19 dX5_added_31 ?_
  refine k_aload_n dX5_added_34 rfl ?_
  refine k_getI gX5_73 dX5_added_35 ?_
  refine k_iload dX5_added_38 rfl ?_
  refine k_iast aM_4 dX5_added_40 ?_
  refine k_nxt ?_
  refine k_aload_n dX5_added_41 rfl ?_
  refine k_getR gX5_22 dX5_added_42 ?_
  refine k_aload_n dX5_added_45 rfl ?_
  refine k_getI gX5_73 dX5_added_46 ?_
  refine k_iload dX5_added_49 rfl ?_
  refine k_to (pc' := 51) rfl ?_
  refine k_iast aM_5 dX5_added_51 ?_
  refine k_nxt ?_
  refine k_aload_n dX5_added_52 rfl ?_
  refine k_dup dX5_added_53 rfl ?_
  refine k_getI gX5_73 dX5_added_54 ?_
  refine k_iconst dX5_added_57 ci_1 ?_
  refine k_iadd dX5_added_58 ?_
  refine k_putI pX5_73 dX5_added_59 ?_
  refine k_nxt ?_
  refine k_aload_n dX5_added_62 rfl ?_
  refine k_iconst dX5_added_63 ci_0 ?_
  refine k_putZ pX5_82 (Or.inl rfl) dX5_added_64 ?_
  refine k_nxt ?_
  refine k_to (pc' := 67) rfl ?_
  refine k_aload_n dX5_added_67 rfl ?_
  refine k_getI gX5_73 dX5_added_68 ?_
  refine k_iconst dX5_added_71 ci_1 ?_
  refine k_isub dX5_added_72 ?_
  exact k_iret dX5_added_73
theorem m_X5_added {l : Launch} {D : va_G} {d : Dt} (x1 : Int32) (x2 : Int32) (x3 : Int32) (x4 : Int32) (x5 : Int32) (S : St) : ∀ (r : Int32) (S' : St), f_X5_added x1 x2 x3 x4 x5 S = some (r, S') → Mt l D d wlM yX5_added cX5_added 6 (some .int) 1 [.ref (d.1 0), .int x1, .int x2, .int x3, .int x4, .int x5] S (jI r) S' := Mt_of wadM (by decide) (Nat.le_of_ble_eq_true rfl) (fun X hL hd => by subst hd; exact w_X5_added X x1 x2 x3 x4 x5 S)
noncomputable def f_X5_draw (x1 : Int32) (x2 : Int32) (S : St) : Option (Int32 × St) := (nxt (sI S 0 (0 : Int32)) fun S1 => (bnd (f_X5_isIn x1 (0 : Int32) (5 : Int32) S1) fun r2 S3 => (if r2 = 0 then (some ((-1 : Int32), S3)) else (bnd (f_X5_isIn x2 (0 : Int32) (3 : Int32) S3) fun r4 S5 => (if r4 = 0 then (some ((-1 : Int32), S5)) else (if (gI S5 1) = (30 : Int32) then (some ((-2 : Int32), S5)) else (if (gI S5 2) = (8 : Int32) then (some ((-2 : Int32), S5)) else (nxt (sI S5 2 ((gI S5 2) + (1 : Int32))) fun S6 => (bnd (f_X5_added (0 : Int32) x1 x2 (10 : Int32) (10 : Int32) S6) fun r7 S8 => (some (r7, S8)))))))))))
set_option maxRecDepth 100000 in
set_option maxHeartbeats 4000000 in
theorem w_X5_draw (X : Cx) (x1 : Int32) (x2 : Int32) (S : St) : KJ X (cX5_draw, RX5, 3, 2, (some .int)) wlM jI 0 [some (.ref (xa X 0)), some (.int x1), some (.int x2)] [] S (f_X5_draw x1 x2 S) := by
  unfold f_X5_draw
  refine k_aload_n dX5_draw_0 rfl ?_
  refine k_iconst dX5_draw_1 ci_0 ?_
  refine k_putI pX5_69 dX5_draw_2 ?_
  refine k_nxt ?_
  refine k_iload_n dX5_draw_5 rfl ?_
  refine k_iconst dX5_draw_6 ci_0 ?_
  refine k_iconst dX5_draw_7 ci_5 ?_
  refine k_cs3i wadM lkX5_86 (m_X5_isIn _ _ _ _) (by decide) (Nat.le_of_ble_eq_true rfl) dX5_draw_8 (fun r2 S3 => ?_)
  refine k_if_eq (tgt := 23) dX5_draw_11 (by decide) (fun _ => ?_) (fun _ => ?_)
  · refine k_iconst dX5_draw_23 ci_m1 ?_
    exact k_iret dX5_draw_24
  · refine k_to (pc' := 14) rfl ?_
    refine k_iload_n dX5_draw_14 rfl ?_
    refine k_iconst dX5_draw_15 ci_0 ?_
    refine k_iconst dX5_draw_16 ci_3 ?_
    refine k_cs3i wadM lkX5_86 (m_X5_isIn _ _ _ _) (by decide) (Nat.le_of_ble_eq_true rfl) dX5_draw_17 (fun r4 S5 => ?_)
    refine k_if_ne (tgt := 25) dX5_draw_20 (by decide) (fun _ => ?_) (fun _ => ?_)
    · refine k_aload_n dX5_draw_25 rfl ?_
      refine k_getI gX5_73 dX5_draw_26 ?_
      refine k_bipush dX5_draw_29 cb_30 ?_
      refine k_icmp_eq (tgt := 43) dX5_draw_31 (by decide) (fun _ => ?_) (fun _ => ?_)
      · refine k_bipush dX5_draw_43 cb_m2 ?_
        exact k_iret dX5_draw_45
      · refine k_to (pc' := 34) rfl ?_
        refine k_aload_n dX5_draw_34 rfl ?_
        refine k_getI gX5_76 dX5_draw_35 ?_
        refine k_bipush dX5_draw_38 cb_8 ?_
        refine k_icmp_ne (tgt := 46) dX5_draw_40 (by decide) (fun _ => ?_) (fun _ => ?_)
        · refine k_aload_n dX5_draw_46 rfl ?_
          refine k_dup dX5_draw_47 rfl ?_
          refine k_getI gX5_76 dX5_draw_48 ?_
          refine k_iconst dX5_draw_51 ci_1 ?_
          refine k_iadd dX5_draw_52 ?_
          refine k_putI pX5_76 dX5_draw_53 ?_
          refine k_nxt ?_
          refine k_aload_n dX5_draw_56 rfl ?_
          refine k_iconst dX5_draw_57 ci_0 ?_
          refine k_iload_n dX5_draw_58 rfl ?_
          refine k_to (pc' := 59) rfl ?_
          refine k_iload_n dX5_draw_59 rfl ?_
          refine k_bipush dX5_draw_60 cb_10 ?_
          refine k_bipush dX5_draw_62 cb_10 ?_
          refine k_cv5i wadM lkX5_90 obX5 (m_X5_added _ _ _ _ _ _) (by decide) (Nat.le_of_ble_eq_true rfl) dX5_draw_64 (fun r7 S8 => ?_)
          exact k_iret dX5_draw_67
        · refine k_to (pc' := 43) rfl ?_
          refine k_bipush dX5_draw_43 cb_m2 ?_
          exact k_iret dX5_draw_45
    · refine k_to (pc' := 23) rfl ?_
      refine k_iconst dX5_draw_23 ci_m1 ?_
      exact k_iret dX5_draw_24
theorem m_X5_draw {l : Launch} {D : va_G} {d : Dt} (x1 : Int32) (x2 : Int32) (S : St) : ∀ (r : Int32) (S' : St), f_X5_draw x1 x2 S = some (r, S') → Mt l D d wlM yX5_draw cX5_draw 3 (some .int) 2 [.ref (d.1 0), .int x1, .int x2] S (jI r) S' := Mt_of wadM (by decide) (Nat.le_of_ble_eq_true rfl) (fun X hL hd => by subst hd; exact w_X5_draw X x1 x2 S)
noncomputable def f_X5_set (x1 : Int32) (x2 : Int32) (x3 : Int32) (x4 : Int32) (S : St) : Option (Int32 × St) := (nxt (sI S 0 (0 : Int32)) fun S1 => (bnd (f_X5_isIn x1 (0 : Int32) (5 : Int32) S1) fun r2 S3 => (if r2 = 0 then (some ((-1 : Int32), S3)) else (bnd (f_X5_isIn x2 (0 : Int32) (6 : Int32) S3) fun r4 S5 => (if r4 = 0 then (some ((-1 : Int32), S5)) else (bnd (f_X5_isTerm x3 S5) fun r6 S7 => (if r6 = 0 then (some ((-1 : Int32), S7)) else (bnd (f_X5_isTerm x4 S7) fun r8 S9 => (if r8 = 0 then (some ((-1 : Int32), S9)) else (if (gI S9 1) = (30 : Int32) then (some ((-2 : Int32), S9)) else (bnd (f_X5_added (1 : Int32) x1 x2 x3 x4 S9) fun r10 S11 => (some (r10, S11)))))))))))))
set_option maxRecDepth 100000 in
set_option maxHeartbeats 4000000 in
theorem w_X5_set (X : Cx) (x1 : Int32) (x2 : Int32) (x3 : Int32) (x4 : Int32) (S : St) : KJ X (cX5_set, RX5, 5, 3, (some .int)) wlM jI 0 [some (.ref (xa X 0)), some (.int x1), some (.int x2), some (.int x3), some (.int x4)] [] S (f_X5_set x1 x2 x3 x4 S) := by
  unfold f_X5_set
  refine k_aload_n dX5_set_0 rfl ?_
  refine k_iconst dX5_set_1 ci_0 ?_
  refine k_putI pX5_69 dX5_set_2 ?_
  refine k_nxt ?_
  refine k_iload_n dX5_set_5 rfl ?_
  refine k_iconst dX5_set_6 ci_0 ?_
  refine k_iconst dX5_set_7 ci_5 ?_
  refine k_cs3i wadM lkX5_86 (m_X5_isIn _ _ _ _) (by decide) (Nat.le_of_ble_eq_true rfl) dX5_set_8 (fun r2 S3 => ?_)
  refine k_if_eq (tgt := 39) dX5_set_11 (by decide) (fun _ => ?_) (fun _ => ?_)
  · refine k_iconst dX5_set_39 ci_m1 ?_
    exact k_iret dX5_set_40
  · refine k_to (pc' := 14) rfl ?_
    refine k_iload_n dX5_set_14 rfl ?_
    refine k_iconst dX5_set_15 ci_0 ?_
    refine k_bipush dX5_set_16 cb_6 ?_
    refine k_cs3i wadM lkX5_86 (m_X5_isIn _ _ _ _) (by decide) (Nat.le_of_ble_eq_true rfl) dX5_set_18 (fun r4 S5 => ?_)
    refine k_if_eq (tgt := 39) dX5_set_21 (by decide) (fun _ => ?_) (fun _ => ?_)
    · refine k_iconst dX5_set_39 ci_m1 ?_
      exact k_iret dX5_set_40
    · refine k_to (pc' := 24) rfl ?_
      refine k_iload_n dX5_set_24 rfl ?_
      refine k_cs1i wadM lkX5_94 (m_X5_isTerm _ _) (by decide) (Nat.le_of_ble_eq_true rfl) dX5_set_25 (fun r6 S7 => ?_)
      refine k_if_eq (tgt := 39) dX5_set_28 (by decide) (fun _ => ?_) (fun _ => ?_)
      · refine k_iconst dX5_set_39 ci_m1 ?_
        exact k_iret dX5_set_40
      · refine k_to (pc' := 31) rfl ?_
        refine k_iload dX5_set_31 rfl ?_
        refine k_cs1i wadM lkX5_94 (m_X5_isTerm _ _) (by decide) (Nat.le_of_ble_eq_true rfl) dX5_set_33 (fun r8 S9 => ?_)
        refine k_if_ne (tgt := 41) dX5_set_36 (by decide) (fun _ => ?_) (fun _ => ?_)
        · refine k_aload_n dX5_set_41 rfl ?_
          refine k_getI gX5_73 dX5_set_42 ?_
          refine k_bipush dX5_set_45 cb_30 ?_
          refine k_icmp_ne (tgt := 55) dX5_set_47 (by decide) (fun _ => ?_) (fun _ => ?_)
          · refine k_aload_n dX5_set_55 rfl ?_
            refine k_iconst dX5_set_56 ci_1 ?_
            refine k_iload_n dX5_set_57 rfl ?_
            refine k_iload_n dX5_set_58 rfl ?_
            refine k_iload_n dX5_set_59 rfl ?_
            refine k_iload dX5_set_60 rfl ?_
            refine k_cv5i wadM lkX5_90 obX5 (m_X5_added _ _ _ _ _ _) (by decide) (Nat.le_of_ble_eq_true rfl) dX5_set_62 (fun r10 S11 => ?_)
            exact k_iret dX5_set_65
          · refine k_to (pc' := 50) rfl ?_
            refine k_bipush dX5_set_50 cb_m2 ?_
            refine k_goto (tgt := 65) dX5_set_52 (by decide) ?_
            exact k_iret dX5_set_65
        · refine k_to (pc' := 39) rfl ?_
          refine k_iconst dX5_set_39 ci_m1 ?_
          exact k_iret dX5_set_40
theorem m_X5_set {l : Launch} {D : va_G} {d : Dt} (x1 : Int32) (x2 : Int32) (x3 : Int32) (x4 : Int32) (S : St) : ∀ (r : Int32) (S' : St), f_X5_set x1 x2 x3 x4 S = some (r, S') → Mt l D d wlM yX5_set cX5_set 5 (some .int) 3 [.ref (d.1 0), .int x1, .int x2, .int x3, .int x4] S (jI r) S' := Mt_of wadM (by decide) (Nat.le_of_ble_eq_true rfl) (fun X hL hd => by subst hd; exact w_X5_set X x1 x2 x3 x4 S)
noncomputable def f_X5_observe (x1 : Int32) (x2 : Int32) (x3 : Int32) (S : St) : Option (Int32 × St) := (nxt (sI S 0 (0 : Int32)) fun S1 => (bnd (f_X5_isTerm x1 S1) fun r2 S3 => (if r2 = 0 then (some ((-1 : Int32), S3)) else (bnd (f_X5_isIn x2 (0 : Int32) (3 : Int32) S3) fun r4 S5 => (if r4 = 0 then (some ((-1 : Int32), S5)) else (bnd (f_X5_isTerm x3 S5) fun r6 S7 => (if r6 = 0 then (some ((-1 : Int32), S7)) else (if (gI S7 1) = (30 : Int32) then (some ((-2 : Int32), S7)) else (bnd (f_X5_added (2 : Int32) (0 : Int32) x2 x1 x3 S7) fun r8 S9 => (some (r8, S9)))))))))))
set_option maxRecDepth 100000 in
set_option maxHeartbeats 4000000 in
theorem w_X5_observe (X : Cx) (x1 : Int32) (x2 : Int32) (x3 : Int32) (S : St) : KJ X (cX5_observe, RX5, 4, 3, (some .int)) wlM jI 0 [some (.ref (xa X 0)), some (.int x1), some (.int x2), some (.int x3)] [] S (f_X5_observe x1 x2 x3 S) := by
  unfold f_X5_observe
  refine k_aload_n dX5_observe_0 rfl ?_
  refine k_iconst dX5_observe_1 ci_0 ?_
  refine k_putI pX5_69 dX5_observe_2 ?_
  refine k_nxt ?_
  refine k_iload_n dX5_observe_5 rfl ?_
  refine k_cs1i wadM lkX5_94 (m_X5_isTerm _ _) (by decide) (Nat.le_of_ble_eq_true rfl) dX5_observe_6 (fun r2 S3 => ?_)
  refine k_if_eq (tgt := 28) dX5_observe_9 (by decide) (fun _ => ?_) (fun _ => ?_)
  · refine k_iconst dX5_observe_28 ci_m1 ?_
    exact k_iret dX5_observe_29
  · refine k_to (pc' := 12) rfl ?_
    refine k_iload_n dX5_observe_12 rfl ?_
    refine k_iconst dX5_observe_13 ci_0 ?_
    refine k_iconst dX5_observe_14 ci_3 ?_
    refine k_cs3i wadM lkX5_86 (m_X5_isIn _ _ _ _) (by decide) (Nat.le_of_ble_eq_true rfl) dX5_observe_15 (fun r4 S5 => ?_)
    refine k_if_eq (tgt := 28) dX5_observe_18 (by decide) (fun _ => ?_) (fun _ => ?_)
    · refine k_iconst dX5_observe_28 ci_m1 ?_
      exact k_iret dX5_observe_29
    · refine k_to (pc' := 21) rfl ?_
      refine k_iload_n dX5_observe_21 rfl ?_
      refine k_cs1i wadM lkX5_94 (m_X5_isTerm _ _) (by decide) (Nat.le_of_ble_eq_true rfl) dX5_observe_22 (fun r6 S7 => ?_)
      refine k_if_ne (tgt := 30) dX5_observe_25 (by decide) (fun _ => ?_) (fun _ => ?_)
      · refine k_aload_n dX5_observe_30 rfl ?_
        refine k_getI gX5_73 dX5_observe_31 ?_
        refine k_bipush dX5_observe_34 cb_30 ?_
        refine k_icmp_ne (tgt := 44) dX5_observe_36 (by decide) (fun _ => ?_) (fun _ => ?_)
        · refine k_aload_n dX5_observe_44 rfl ?_
          refine k_iconst dX5_observe_45 ci_2 ?_
          refine k_iconst dX5_observe_46 ci_0 ?_
          refine k_iload_n dX5_observe_47 rfl ?_
          refine k_iload_n dX5_observe_48 rfl ?_
          refine k_iload_n dX5_observe_49 rfl ?_
          refine k_cv5i wadM lkX5_90 obX5 (m_X5_added _ _ _ _ _ _) (by decide) (Nat.le_of_ble_eq_true rfl) dX5_observe_50 (fun r8 S9 => ?_)
          exact k_iret dX5_observe_53
        · refine k_to (pc' := 39) rfl ?_
          refine k_bipush dX5_observe_39 cb_m2 ?_
          refine k_goto (tgt := 53) dX5_observe_41 (by decide) ?_
          exact k_iret dX5_observe_53
      · refine k_to (pc' := 28) rfl ?_
        refine k_iconst dX5_observe_28 ci_m1 ?_
        exact k_iret dX5_observe_29
theorem m_X5_observe {l : Launch} {D : va_G} {d : Dt} (x1 : Int32) (x2 : Int32) (x3 : Int32) (S : St) : ∀ (r : Int32) (S' : St), f_X5_observe x1 x2 x3 S = some (r, S') → Mt l D d wlM yX5_observe cX5_observe 4 (some .int) 3 [.ref (d.1 0), .int x1, .int x2, .int x3] S (jI r) S' := Mt_of wadM (by decide) (Nat.le_of_ble_eq_true rfl) (fun X hL hd => by subst hd; exact w_X5_observe X x1 x2 x3 S)
noncomputable def f_X5_weigh (x1 : Int32) (S : St) : Option (Int32 × St) := (nxt (sI S 0 (0 : Int32)) fun S1 => (bnd (f_X5_isTerm x1 S1) fun r2 S3 => (if r2 = 0 then (some ((-1 : Int32), S3)) else (if (gI S3 1) = (30 : Int32) then (some ((-2 : Int32), S3)) else (if (gI S3 3) = (3 : Int32) then (some ((-2 : Int32), S3)) else (nxt (sI S3 3 ((gI S3 3) + (1 : Int32))) fun S4 => (bnd (f_X5_added (3 : Int32) (0 : Int32) (0 : Int32) x1 (10 : Int32) S4) fun r5 S6 => (some (r5, S6)))))))))
set_option maxRecDepth 100000 in
set_option maxHeartbeats 4000000 in
theorem w_X5_weigh (X : Cx) (x1 : Int32) (S : St) : KJ X (cX5_weigh, RX5, 2, 3, (some .int)) wlM jI 0 [some (.ref (xa X 0)), some (.int x1)] [] S (f_X5_weigh x1 S) := by
  unfold f_X5_weigh
  refine k_aload_n dX5_weigh_0 rfl ?_
  refine k_iconst dX5_weigh_1 ci_0 ?_
  refine k_putI pX5_69 dX5_weigh_2 ?_
  refine k_nxt ?_
  refine k_iload_n dX5_weigh_5 rfl ?_
  refine k_cs1i wadM lkX5_94 (m_X5_isTerm _ _) (by decide) (Nat.le_of_ble_eq_true rfl) dX5_weigh_6 (fun r2 S3 => ?_)
  refine k_if_ne (tgt := 14) dX5_weigh_9 (by decide) (fun _ => ?_) (fun _ => ?_)
  · refine k_aload_n dX5_weigh_14 rfl ?_
    refine k_getI gX5_73 dX5_weigh_15 ?_
    refine k_bipush dX5_weigh_18 cb_30 ?_
    refine k_icmp_eq (tgt := 31) dX5_weigh_20 (by decide) (fun _ => ?_) (fun _ => ?_)
    · refine k_bipush dX5_weigh_31 cb_m2 ?_
      exact k_iret dX5_weigh_33
    · refine k_to (pc' := 23) rfl ?_
      refine k_aload_n dX5_weigh_23 rfl ?_
      refine k_getI gX5_79 dX5_weigh_24 ?_
      refine k_iconst dX5_weigh_27 ci_3 ?_
      refine k_icmp_ne (tgt := 34) dX5_weigh_28 (by decide) (fun _ => ?_) (fun _ => ?_)
      · refine k_aload_n dX5_weigh_34 rfl ?_
        refine k_dup dX5_weigh_35 rfl ?_
        refine k_getI gX5_79 dX5_weigh_36 ?_
        refine k_iconst dX5_weigh_39 ci_1 ?_
        refine k_iadd dX5_weigh_40 ?_
        refine k_putI pX5_79 dX5_weigh_41 ?_
        refine k_nxt ?_
        refine k_aload_n dX5_weigh_44 rfl ?_
        refine k_iconst dX5_weigh_45 ci_3 ?_
        refine k_iconst dX5_weigh_46 ci_0 ?_
        refine k_to (pc' := 47) rfl ?_
        refine k_iconst dX5_weigh_47 ci_0 ?_
        refine k_iload_n dX5_weigh_48 rfl ?_
        refine k_bipush dX5_weigh_49 cb_10 ?_
        refine k_cv5i wadM lkX5_90 obX5 (m_X5_added _ _ _ _ _ _) (by decide) (Nat.le_of_ble_eq_true rfl) dX5_weigh_51 (fun r5 S6 => ?_)
        exact k_iret dX5_weigh_54
      · refine k_to (pc' := 31) rfl ?_
        refine k_bipush dX5_weigh_31 cb_m2 ?_
        exact k_iret dX5_weigh_33
  · refine k_to (pc' := 12) rfl ?_
    refine k_iconst dX5_weigh_12 ci_m1 ?_
    exact k_iret dX5_weigh_13
theorem m_X5_weigh {l : Launch} {D : va_G} {d : Dt} (x1 : Int32) (S : St) : ∀ (r : Int32) (S' : St), f_X5_weigh x1 S = some (r, S') → Mt l D d wlM yX5_weigh cX5_weigh 2 (some .int) 3 [.ref (d.1 0), .int x1] S (jI r) S' := Mt_of wadM (by decide) (Nat.le_of_ble_eq_true rfl) (fun X hL hd => by subst hd; exact w_X5_weigh X x1 S)
noncomputable def f_X5_skip (x1 : Int32) (x2 : Int32) (S : St) : Option (Int32 × St) := (nxt (sI S 0 (0 : Int32)) fun S1 => (bnd (f_X5_isTerm x1 S1) fun r2 S3 => (if r2 = 0 then (some ((-1 : Int32), S3)) else (bnd (f_X5_isIn x2 (1 : Int32) (9 : Int32) S3) fun r4 S5 => (if r4 = 0 then (some ((-1 : Int32), S5)) else (if (gI S5 1) = (30 : Int32) then (some ((-2 : Int32), S5)) else (bnd (f_X5_added (4 : Int32) (0 : Int32) x2 x1 (10 : Int32) S5) fun r6 S7 => (some (r6, S7)))))))))
set_option maxRecDepth 100000 in
set_option maxHeartbeats 4000000 in
theorem w_X5_skip (X : Cx) (x1 : Int32) (x2 : Int32) (S : St) : KJ X (cX5_skip, RX5, 3, 3, (some .int)) wlM jI 0 [some (.ref (xa X 0)), some (.int x1), some (.int x2)] [] S (f_X5_skip x1 x2 S) := by
  unfold f_X5_skip
  refine k_aload_n dX5_skip_0 rfl ?_
  refine k_iconst dX5_skip_1 ci_0 ?_
  refine k_putI pX5_69 dX5_skip_2 ?_
  refine k_nxt ?_
  refine k_iload_n dX5_skip_5 rfl ?_
  refine k_cs1i wadM lkX5_94 (m_X5_isTerm _ _) (by decide) (Nat.le_of_ble_eq_true rfl) dX5_skip_6 (fun r2 S3 => ?_)
  refine k_if_eq (tgt := 22) dX5_skip_9 (by decide) (fun _ => ?_) (fun _ => ?_)
  · refine k_iconst dX5_skip_22 ci_m1 ?_
    exact k_iret dX5_skip_23
  · refine k_to (pc' := 12) rfl ?_
    refine k_iload_n dX5_skip_12 rfl ?_
    refine k_iconst dX5_skip_13 ci_1 ?_
    refine k_bipush dX5_skip_14 cb_9 ?_
    refine k_cs3i wadM lkX5_86 (m_X5_isIn _ _ _ _) (by decide) (Nat.le_of_ble_eq_true rfl) dX5_skip_16 (fun r4 S5 => ?_)
    refine k_if_ne (tgt := 24) dX5_skip_19 (by decide) (fun _ => ?_) (fun _ => ?_)
    · refine k_aload_n dX5_skip_24 rfl ?_
      refine k_getI gX5_73 dX5_skip_25 ?_
      refine k_bipush dX5_skip_28 cb_30 ?_
      refine k_icmp_ne (tgt := 38) dX5_skip_30 (by decide) (fun _ => ?_) (fun _ => ?_)
      · refine k_aload_n dX5_skip_38 rfl ?_
        refine k_iconst dX5_skip_39 ci_4 ?_
        refine k_iconst dX5_skip_40 ci_0 ?_
        refine k_iload_n dX5_skip_41 rfl ?_
        refine k_iload_n dX5_skip_42 rfl ?_
        refine k_bipush dX5_skip_43 cb_10 ?_
        refine k_cv5i wadM lkX5_90 obX5 (m_X5_added _ _ _ _ _ _) (by decide) (Nat.le_of_ble_eq_true rfl) dX5_skip_45 (fun r6 S7 => ?_)
        exact k_iret dX5_skip_48
      · refine k_to (pc' := 33) rfl ?_
        refine k_bipush dX5_skip_33 cb_m2 ?_
        refine k_goto (tgt := 48) dX5_skip_35 (by decide) ?_
        exact k_iret dX5_skip_48
    · refine k_to (pc' := 22) rfl ?_
      refine k_iconst dX5_skip_22 ci_m1 ?_
      exact k_iret dX5_skip_23
theorem m_X5_skip {l : Launch} {D : va_G} {d : Dt} (x1 : Int32) (x2 : Int32) (S : St) : ∀ (r : Int32) (S' : St), f_X5_skip x1 x2 S = some (r, S') → Mt l D d wlM yX5_skip cX5_skip 3 (some .int) 3 [.ref (d.1 0), .int x1, .int x2] S (jI r) S' := Mt_of wadM (by decide) (Nat.le_of_ble_eq_true rfl) (fun X hL hd => by subst hd; exact w_X5_skip X x1 x2 S)
noncomputable def f_X5_drop (S : St) : Option (Int32 × St) := (nxt (sI S 0 (0 : Int32)) fun S1 => (if (gI S1 1) = 0 then (some ((-3 : Int32), S1)) else (nxt (sI S1 1 ((gI S1 1) - (1 : Int32))) fun S2 => (chk (inB (gI S2 1) 30) (if (gA S2 1 ((gI S2 1)).toNatClampNeg) = 0 then (nxt (sI S2 2 ((gI S2 2) - (1 : Int32))) fun S8 => (chk (inB (gI S8 1) 30) (if (gA S8 1 ((gI S8 1)).toNatClampNeg) = (3 : Int32) then (nxt (sI S8 3 ((gI S8 3) - (1 : Int32))) fun S11 => (nxt (sI S11 11 (0 : Int32)) fun S12 => (some ((gI S12 1), S12)))) else (nxt (sI S8 3 ((gI S8 3) - (0 : Int32))) fun S9 => (nxt (sI S9 11 (0 : Int32)) fun S10 => (some ((gI S10 1), S10))))))) else (nxt (sI S2 2 ((gI S2 2) - (0 : Int32))) fun S3 => (chk (inB (gI S3 1) 30) (if (gA S3 1 ((gI S3 1)).toNatClampNeg) = (3 : Int32) then (nxt (sI S3 3 ((gI S3 3) - (1 : Int32))) fun S6 => (nxt (sI S6 11 (0 : Int32)) fun S7 => (some ((gI S7 1), S7)))) else (nxt (sI S3 3 ((gI S3 3) - (0 : Int32))) fun S4 => (nxt (sI S4 11 (0 : Int32)) fun S5 => (some ((gI S5 1), S5))))))))))))
set_option maxRecDepth 100000 in
set_option maxHeartbeats 4000000 in
theorem w_X5_drop (X : Cx) (S : St) : KJ X (cX5_drop, RX5, 1, 1, (some .int)) wlM jI 0 [some (.ref (xa X 0))] [] S (f_X5_drop S) := by
  unfold f_X5_drop
  refine k_aload_n dX5_drop_0 rfl ?_
  refine k_iconst dX5_drop_1 ci_0 ?_
  refine k_putI pX5_69 dX5_drop_2 ?_
  refine k_nxt ?_
  refine k_aload_n dX5_drop_5 rfl ?_
  refine k_getI gX5_73 dX5_drop_6 ?_
  refine k_if_ne (tgt := 15) dX5_drop_9 (by decide) (fun _ => ?_) (fun _ => ?_)
  · refine k_aload_n dX5_drop_15 rfl ?_
    refine k_dup dX5_drop_16 rfl ?_
    refine k_getI gX5_73 dX5_drop_17 ?_
    refine k_iconst dX5_drop_20 ci_1 ?_
    refine k_isub dX5_drop_21 ?_
    refine k_putI pX5_73 dX5_drop_22 ?_
    refine k_nxt ?_
    refine k_aload_n dX5_drop_25 rfl ?_
    refine k_dup dX5_drop_26 rfl ?_
    refine k_getI gX5_76 dX5_drop_27 ?_
    refine k_to (pc' := 30) rfl ?_
    refine k_aload_n dX5_drop_30 rfl ?_
    refine k_getR gX5_7 dX5_drop_31 ?_
    refine k_aload_n dX5_drop_34 rfl ?_
    refine k_getI gX5_73 dX5_drop_35 ?_
    refine k_iald aM_1 dX5_drop_38 ?_
    refine k_if_ne (tgt := 46) dX5_drop_39 (by decide) (fun _ => ?_) (fun _ => ?_)
    · refine k_iconst dX5_drop_46 ci_0 ?_
      refine k_isub dX5_drop_47 ?_
      refine k_putI pX5_76 dX5_drop_48 ?_
      refine k_nxt ?_
      refine k_aload_n dX5_drop_51 rfl ?_
      refine k_dup dX5_drop_52 rfl ?_
      refine k_getI gX5_79 dX5_drop_53 ?_
      refine k_aload_n dX5_drop_56 rfl ?_
      refine k_getR gX5_7 dX5_drop_57 ?_
      refine k_aload_n dX5_drop_60 rfl ?_
      refine k_to (pc' := 61) rfl ?_
      refine k_getI gX5_73 dX5_drop_61 ?_
      refine k_iald aM_1 dX5_drop_64 ?_
      refine k_iconst dX5_drop_65 ci_3 ?_
      refine k_icmp_ne (tgt := 73) dX5_drop_66 (by decide) (fun _ => ?_) (fun _ => ?_)
      · refine k_iconst dX5_drop_73 ci_0 ?_
        refine k_isub dX5_drop_74 ?_
        refine k_putI pX5_79 dX5_drop_75 ?_
        refine k_nxt ?_
        refine k_aload_n dX5_drop_78 rfl ?_
        refine k_iconst dX5_drop_79 ci_0 ?_
        refine k_putZ pX5_82 (Or.inl rfl) dX5_drop_80 ?_
        refine k_nxt ?_
        refine k_aload_n dX5_drop_83 rfl ?_
        refine k_getI gX5_73 dX5_drop_84 ?_
        exact k_iret dX5_drop_87
      · refine k_to (pc' := 69) rfl ?_
        refine k_iconst dX5_drop_69 ci_1 ?_
        refine k_goto (tgt := 74) dX5_drop_70 (by decide) ?_
        refine k_isub dX5_drop_74 ?_
        refine k_putI pX5_79 dX5_drop_75 ?_
        refine k_nxt ?_
        refine k_aload_n dX5_drop_78 rfl ?_
        refine k_iconst dX5_drop_79 ci_0 ?_
        refine k_putZ pX5_82 (Or.inl rfl) dX5_drop_80 ?_
        refine k_nxt ?_
        refine k_aload_n dX5_drop_83 rfl ?_
        refine k_getI gX5_73 dX5_drop_84 ?_
        refine k_to (pc' := 87) rfl ?_
        exact k_iret dX5_drop_87
    · refine k_to (pc' := 42) rfl ?_
      refine k_iconst dX5_drop_42 ci_1 ?_
      refine k_goto (tgt := 47) dX5_drop_43 (by decide) ?_
      refine k_isub dX5_drop_47 ?_
      refine k_putI pX5_76 dX5_drop_48 ?_
      refine k_nxt ?_
      refine k_aload_n dX5_drop_51 rfl ?_
      refine k_dup dX5_drop_52 rfl ?_
      refine k_getI gX5_79 dX5_drop_53 ?_
      refine k_aload_n dX5_drop_56 rfl ?_
      refine k_getR gX5_7 dX5_drop_57 ?_
      refine k_to (pc' := 60) rfl ?_
      refine k_aload_n dX5_drop_60 rfl ?_
      refine k_getI gX5_73 dX5_drop_61 ?_
      refine k_iald aM_1 dX5_drop_64 ?_
      refine k_iconst dX5_drop_65 ci_3 ?_
      refine k_icmp_ne (tgt := 73) dX5_drop_66 (by decide) (fun _ => ?_) (fun _ => ?_)
      · refine k_iconst dX5_drop_73 ci_0 ?_
        refine k_isub dX5_drop_74 ?_
        refine k_putI pX5_79 dX5_drop_75 ?_
        refine k_nxt ?_
        refine k_aload_n dX5_drop_78 rfl ?_
        refine k_iconst dX5_drop_79 ci_0 ?_
        refine k_putZ pX5_82 (Or.inl rfl) dX5_drop_80 ?_
        refine k_nxt ?_
        refine k_aload_n dX5_drop_83 rfl ?_
        refine k_getI gX5_73 dX5_drop_84 ?_
        exact k_iret dX5_drop_87
      · refine k_to (pc' := 69) rfl ?_
        refine k_iconst dX5_drop_69 ci_1 ?_
        refine k_goto (tgt := 74) dX5_drop_70 (by decide) ?_
        refine k_isub dX5_drop_74 ?_
        refine k_putI pX5_79 dX5_drop_75 ?_
        refine k_nxt ?_
        refine k_aload_n dX5_drop_78 rfl ?_
        refine k_iconst dX5_drop_79 ci_0 ?_
        refine k_putZ pX5_82 (Or.inl rfl) dX5_drop_80 ?_
        refine k_nxt ?_
        refine k_aload_n dX5_drop_83 rfl ?_
        refine k_getI gX5_73 dX5_drop_84 ?_
        refine k_to (pc' := 87) rfl ?_
        exact k_iret dX5_drop_87
  · refine k_to (pc' := 12) rfl ?_
    refine k_bipush dX5_drop_12 cb_m3 ?_
    exact k_iret dX5_drop_14
theorem m_X5_drop {l : Launch} {D : va_G} {d : Dt} (S : St) : ∀ (r : Int32) (S' : St), f_X5_drop S = some (r, S') → Mt l D d wlM yX5_drop cX5_drop 1 (some .int) 1 [.ref (d.1 0)] S (jI r) S' := Mt_of wadM (by decide) (Nat.le_of_ble_eq_true rfl) (fun X hL hd => by subst hd; exact w_X5_drop X S)
noncomputable def f_X5_ask (x1 : Int32) (x2 : Int32) (S : St) : Option (Int32 × St) := (nxt (sI S 0 (0 : Int32)) fun S1 => (bnd (f_X5_isIn x1 (0 : Int32) (5 : Int32) S1) fun r2 S3 => (if r2 = 0 then (some ((-1 : Int32), S3)) else (chk (inB x1 6) (if (gA S3 7 (x1).toNatClampNeg) = 0 then (chk (inB x1 6) (nxt (sA S3 7 (upd (gA S3 7) (x1).toNatClampNeg (vp_nar .boolean x2))) fun S4 => (nxt (sI S4 11 (0 : Int32)) fun S5 => (some ((0 : Int32), S5))))) else (chk (inB x1 6) (nxt (sA S3 7 (upd (gA S3 7) (x1).toNatClampNeg (vp_nar .boolean x2))) fun S6 => (nxt (sI S6 11 (0 : Int32)) fun S7 => (some ((1 : Int32), S7))))))))))
set_option maxRecDepth 100000 in
set_option maxHeartbeats 4000000 in
theorem w_X5_ask (X : Cx) (x1 : Int32) (x2 : Int32) (S : St) : KJ X (cX5_ask, RX5, 4, 2, (some .int)) wlM jI 0 [some (.ref (xa X 0)), some (.int x1), some (.int x2), none] [] S (f_X5_ask x1 x2 S) := by
  unfold f_X5_ask
  refine k_aload_n dX5_ask_0 rfl ?_
  refine k_iconst dX5_ask_1 ci_0 ?_
  refine k_putI pX5_69 dX5_ask_2 ?_
  refine k_nxt ?_
  refine k_iload_n dX5_ask_5 rfl ?_
  refine k_iconst dX5_ask_6 ci_0 ?_
  refine k_iconst dX5_ask_7 ci_5 ?_
  refine k_cs3i wadM lkX5_86 (m_X5_isIn _ _ _ _) (by decide) (Nat.le_of_ble_eq_true rfl) dX5_ask_8 (fun r2 S3 => ?_)
  refine k_if_ne (tgt := 16) dX5_ask_11 (by decide) (fun _ => ?_) (fun _ => ?_)
  · refine k_aload_n dX5_ask_16 rfl ?_
    refine k_getR gX5_28 dX5_ask_17 ?_
    refine k_iload_n dX5_ask_20 rfl ?_
    refine k_zald aM_7 dX5_ask_21 ?_
    refine k_if_eq (tgt := 29) dX5_ask_22 (by decide) (fun _ => ?_) (fun _ => ?_)
    · refine k_iconst dX5_ask_29 ci_0 ?_
      refine k_ist_n3 dX5_ask_30 (by decide) rfl ?_
      refine k_aload_n dX5_ask_31 rfl ?_
      refine k_getR gX5_28 dX5_ask_32 ?_
      refine k_iload_n dX5_ask_35 rfl ?_
      refine k_iload_n dX5_ask_36 rfl ?_
      refine k_zast aM_7 dX5_ask_37 ?_
      refine k_nxt ?_
      refine k_aload_n dX5_ask_38 rfl ?_
      refine k_iconst dX5_ask_39 ci_0 ?_
      refine k_to (pc' := 40) rfl ?_
      refine k_putZ pX5_82 (Or.inl rfl) dX5_ask_40 ?_
      refine k_nxt ?_
      refine k_iload_n dX5_ask_43 rfl ?_
      exact k_iret dX5_ask_44
    · refine k_to (pc' := 25) rfl ?_
      refine k_iconst dX5_ask_25 ci_1 ?_
      refine k_goto (tgt := 30) dX5_ask_26 (by decide) ?_
      refine k_ist_n3 dX5_ask_30 (by decide) rfl ?_
      refine k_aload_n dX5_ask_31 rfl ?_
      refine k_getR gX5_28 dX5_ask_32 ?_
      refine k_iload_n dX5_ask_35 rfl ?_
      refine k_iload_n dX5_ask_36 rfl ?_
      refine k_zast aM_7 dX5_ask_37 ?_
      refine k_nxt ?_
      refine k_aload_n dX5_ask_38 rfl ?_
      refine k_to (pc' := 39) rfl ?_
      refine k_iconst dX5_ask_39 ci_0 ?_
      refine k_putZ pX5_82 (Or.inl rfl) dX5_ask_40 ?_
      refine k_nxt ?_
      refine k_iload_n dX5_ask_43 rfl ?_
      exact k_iret dX5_ask_44
  · refine k_to (pc' := 14) rfl ?_
    refine k_iconst dX5_ask_14 ci_m1 ?_
    exact k_iret dX5_ask_15
theorem m_X5_ask {l : Launch} {D : va_G} {d : Dt} (x1 : Int32) (x2 : Int32) (S : St) : ∀ (r : Int32) (S' : St), f_X5_ask x1 x2 S = some (r, S') → Mt l D d wlM yX5_ask cX5_ask 4 (some .int) 2 [.ref (d.1 0), .int x1, .int x2] S (jI r) S' := Mt_of wadM (by decide) (Nat.le_of_ble_eq_true rfl) (fun X hL hd => by subst hd; exact w_X5_ask X x1 x2 S)
noncomputable def f_X5_bit (x0 : Int32) (S : St) : Option (Int32 × St) := (if (6 : Int32) ≤ x0 then (some ((0 : Int32), S)) else (some (((1 : Int32) <<< (x0 &&& 31)), S)))
set_option maxRecDepth 100000 in
set_option maxHeartbeats 4000000 in
theorem w_X5_bit (X : Cx) (x0 : Int32) (S : St) : KJ X (cX5_bit, RX5, 1, 1, (some .int)) wlM jI 0 [some (.int x0)] [] S (f_X5_bit x0 S) := by
  unfold f_X5_bit
  refine k_iload_n dX5_bit_0 rfl ?_
  refine k_bipush dX5_bit_1 cb_6 ?_
  refine k_icmp_ge (tgt := 12) dX5_bit_3 (by decide) (fun _ => ?_) (fun _ => ?_)
  · refine k_iconst dX5_bit_12 ci_0 ?_
    exact k_iret dX5_bit_13
  · refine k_to (pc' := 6) rfl ?_
    refine k_iconst dX5_bit_6 ci_1 ?_
    refine k_iload_n dX5_bit_7 rfl ?_
    refine k_ishl dX5_bit_8 ?_
    refine k_goto (tgt := 13) dX5_bit_9 (by decide) ?_
    exact k_iret dX5_bit_13
theorem m_X5_bit {l : Launch} {D : va_G} {d : Dt} (x0 : Int32) (S : St) : ∀ (r : Int32) (S' : St), f_X5_bit x0 S = some (r, S') → Mt l D d wlM yX5_bit cX5_bit 1 (some .int) 1 [.int x0] S (jI r) S' := Mt_of wadM (by decide) (Nat.le_of_ble_eq_true rfl) (fun X hL hd => by subst hd; exact w_X5_bit X x0 S)
noncomputable def f_X5_passed (x1 : Int32) (S : St) : Option (Int32 × St) := (chk (inB x1 30) (nxt ((x1 + (1 : Int32)) + (gA S 3 (x1).toNatClampNeg)) fun y1 => (if y1 ≤ (gI S 1) then (some (y1, S)) else (some ((gI S 1), S)))))
set_option maxRecDepth 100000 in
set_option maxHeartbeats 4000000 in
theorem w_X5_passed (X : Cx) (x1 : Int32) (S : St) : KJ X (cX5_passed, RX5, 3, 1, (some .int)) wlM jI 0 [some (.ref (xa X 0)), some (.int x1), none] [] S (f_X5_passed x1 S) := by
  unfold f_X5_passed
  refine k_iload_n dX5_passed_0 rfl ?_
  refine k_iconst dX5_passed_1 ci_1 ?_
  refine k_iadd dX5_passed_2 ?_
  refine k_aload_n dX5_passed_3 rfl ?_
  refine k_getR gX5_16 dX5_passed_4 ?_
  refine k_iload_n dX5_passed_7 rfl ?_
  refine k_iald aM_3 dX5_passed_8 ?_
  refine k_iadd dX5_passed_9 ?_
  refine k_ist_n2 dX5_passed_10 (by decide) rfl ?_
  refine k_nxt ?_
  refine k_to (pc' := 11) rfl ?_
  refine k_iload_n dX5_passed_11 rfl ?_
  refine k_aload_n dX5_passed_12 rfl ?_
  refine k_getI gX5_73 dX5_passed_13 ?_
  refine k_icmp_le (tgt := 26) dX5_passed_16 (by decide) (fun _ => ?_) (fun _ => ?_)
  · refine k_iload_n dX5_passed_26 rfl ?_
    exact k_iret dX5_passed_27
  · refine k_to (pc' := 19) rfl ?_
    refine k_aload_n dX5_passed_19 rfl ?_
    refine k_getI gX5_73 dX5_passed_20 ?_
    refine k_goto (tgt := 27) dX5_passed_23 (by decide) ?_
    exact k_iret dX5_passed_27
theorem m_X5_passed {l : Launch} {D : va_G} {d : Dt} (x1 : Int32) (S : St) : ∀ (r : Int32) (S' : St), f_X5_passed x1 S = some (r, S') → Mt l D d wlM yX5_passed cX5_passed 3 (some .int) 1 [.ref (d.1 0), .int x1] S (jI r) S' := Mt_of wadM (by decide) (Nat.le_of_ble_eq_true rfl) (fun X hL hd => by subst hd; exact w_X5_passed X x1 S)
noncomputable def lp_X5_liven_59 : Nat → Int32 → St → Option (Unit × St)
  | 0, _, _ => none
  | n + 1, x1, S => (if x1 < 0 then (some ((), S)) else (chk (inB (x1 + (1 : Int32)) 31) (nxt (gA S 13 ((x1 + (1 : Int32))).toNatClampNeg) fun y3 => (chk (inB x1 30) (if (gA S 1 (x1).toNatClampNeg) = 0 then (chk (inB x1 30) (chk (inB x1 31) (nxt (sA S 13 (upd (gA S 13) (x1).toNatClampNeg (y3 &&& (((1 : Int32) <<< ((gA S 2 (x1).toNatClampNeg) &&& 31)) ^^^ (-1 : Int32))))) fun S4 => (lp_X5_liven_59 n (x1 + (-1 : Int32)) S4)))) else (if (gA S 1 (x1).toNatClampNeg) = 1 then (chk (inB x1 30) (if (gA S 3 (x1).toNatClampNeg) = (6 : Int32) then (chk (inB x1 30) (chk (inB x1 30) (bnd (f_X5_bit (gA S 4 (x1).toNatClampNeg) S) fun r10 S11 => (chk (inB x1 30) (bnd (f_X5_bit (gA S11 5 (x1).toNatClampNeg) S11) fun r12 S13 => (chk (inB x1 31) (nxt (sA S13 13 (upd (gA S13 13) (x1).toNatClampNeg (((y3 ||| ((1 : Int32) <<< ((gA S 2 (x1).toNatClampNeg) &&& 31))) ||| r10) ||| r12))) fun S14 => (lp_X5_liven_59 n (x1 + (-1 : Int32)) S14)))))))) else (chk (inB x1 30) (chk (inB x1 30) (bnd (f_X5_bit (gA S 4 (x1).toNatClampNeg) S) fun r5 S6 => (chk (inB x1 30) (bnd (f_X5_bit (gA S6 5 (x1).toNatClampNeg) S6) fun r7 S8 => (chk (inB x1 31) (nxt (sA S8 13 (upd (gA S8 13) (x1).toNatClampNeg (((y3 &&& (((1 : Int32) <<< ((gA S 2 (x1).toNatClampNeg) &&& 31)) ^^^ (-1 : Int32))) ||| r5) ||| r7))) fun S9 => (lp_X5_liven_59 n (x1 + (-1 : Int32)) S9)))))))))) else (if (gA S 1 (x1).toNatClampNeg) = 2 then (chk (inB x1 30) (bnd (f_X5_bit (gA S 4 (x1).toNatClampNeg) S) fun r15 S16 => (chk (inB x1 30) (bnd (f_X5_bit (gA S16 5 (x1).toNatClampNeg) S16) fun r17 S18 => (chk (inB x1 31) (nxt (sA S18 13 (upd (gA S18 13) (x1).toNatClampNeg ((y3 ||| r15) ||| r17))) fun S19 => (lp_X5_liven_59 n (x1 + (-1 : Int32)) S19))))))) else (if (gA S 1 (x1).toNatClampNeg) = 3 then (chk (inB x1 30) (bnd (f_X5_bit (gA S 4 (x1).toNatClampNeg) S) fun r20 S21 => (chk (inB x1 30) (bnd (f_X5_bit (gA S21 5 (x1).toNatClampNeg) S21) fun r22 S23 => (chk (inB x1 31) (nxt (sA S23 13 (upd (gA S23 13) (x1).toNatClampNeg ((y3 ||| r20) ||| r22))) fun S24 => (lp_X5_liven_59 n (x1 + (-1 : Int32)) S24))))))) else (if (gA S 1 (x1).toNatClampNeg) = 4 then (bnd (f_X5_passed x1 S) fun r25 S26 => (chk (inB r25 31) (chk (inB x1 30) (bnd (f_X5_bit (gA S26 4 (x1).toNatClampNeg) S26) fun r27 S28 => (chk (inB x1 31) (nxt (sA S28 13 (upd (gA S28 13) (x1).toNatClampNeg ((y3 ||| (gA S26 13 (r25).toNatClampNeg)) ||| r27))) fun S29 => (lp_X5_liven_59 n (x1 + (-1 : Int32)) S29))))))) else (chk (inB x1 30) (bnd (f_X5_bit (gA S 4 (x1).toNatClampNeg) S) fun r30 S31 => (chk (inB x1 30) (bnd (f_X5_bit (gA S31 5 (x1).toNatClampNeg) S31) fun r32 S33 => (chk (inB x1 31) (nxt (sA S33 13 (upd (gA S33 13) (x1).toNatClampNeg ((y3 ||| r30) ||| r32))) fun S34 => (lp_X5_liven_59 n (x1 + (-1 : Int32)) S34))))))))))))))))
set_option maxRecDepth 100000 in
set_option maxHeartbeats 4000000 in
theorem wlp_X5_liven_59 (X : Cx) : ∀ (n : Nat) (x1 : Int32) (S : St), KJ X (cX5_liven, RX5, 3, 2, none) wlM jV 59 [some (.ref (xa X 0)), some (.int x1), none] [] S (lp_X5_liven_59 n x1 S) := by
  intro n
  induction n with
  | zero => intro x1 S; rw [lp_X5_liven_59]; exact k_none
  | succ n ih =>
    intro x1 S
    rw [lp_X5_liven_59]
    refine k_iload_n dX5_liven_59 rfl ?_
    refine k_if_lt (tgt := 262) dX5_liven_60 (by decide) (fun _ => ?_) (fun _ => ?_)
    · exact k_vret dX5_liven_262
    · refine k_to (pc' := 63) rfl ?_
      refine k_aload_n dX5_liven_63 rfl ?_
      refine k_getR gX5_48 dX5_liven_64 ?_
      refine k_iload_n dX5_liven_67 rfl ?_
      refine k_iconst dX5_liven_68 ci_1 ?_
      refine k_iadd dX5_liven_69 ?_
      refine k_iald aM_13 dX5_liven_70 ?_
      refine k_ist_n2 dX5_liven_71 (by decide) rfl ?_
      refine k_nxt ?_
      refine k_aload_n dX5_liven_72 rfl ?_
      refine k_getR gX5_7 dX5_liven_73 ?_
      refine k_to (pc' := 76) rfl ?_
      refine k_iload_n dX5_liven_76 rfl ?_
      refine k_iald aM_1 dX5_liven_77 ?_
      refine k_tin (tgt := 112) (v := 0) dX5_liven_78 (by decide) (by decide) rfl (by decide) (fun _ => ?_) (fun t0 => ?_)
      · refine k_aload_n dX5_liven_112 rfl ?_
        refine k_getR gX5_48 dX5_liven_113 ?_
        refine k_iload_n dX5_liven_116 rfl ?_
        refine k_iload_n dX5_liven_117 rfl ?_
        refine k_iconst dX5_liven_118 ci_1 ?_
        refine k_aload_n dX5_liven_119 rfl ?_
        refine k_getR gX5_13 dX5_liven_120 ?_
        refine k_iload_n dX5_liven_123 rfl ?_
        refine k_iald aM_2 dX5_liven_124 ?_
        refine k_to (pc' := 125) rfl ?_
        refine k_ishl dX5_liven_125 ?_
        refine k_iconst dX5_liven_126 ci_m1 ?_
        refine k_ixor dX5_liven_127 ?_
        refine k_iand dX5_liven_128 ?_
        refine k_iast aM_13 dX5_liven_129 ?_
        refine k_nxt ?_
        refine k_goto (tgt := 256) dX5_liven_130 (by decide) ?_
        refine k_inc1 dX5_liven_256 ci_m1 (by decide) rfl ?_
        refine k_goto (tgt := 59) dX5_liven_259 (by decide) ?_
        refine k_to (pc' := 59) rfl ?_
        exact k_weak (ih _ _) (And.intro rfl (And.intro rfl True.intro))
      refine k_tin (tgt := 133) (v := 1) dX5_liven_78 (by decide) (by decide) rfl (by decide) (fun _ => ?_) (fun t1 => ?_)
      · refine k_aload_n dX5_liven_133 rfl ?_
        refine k_getR gX5_48 dX5_liven_134 ?_
        refine k_iload_n dX5_liven_137 rfl ?_
        refine k_aload_n dX5_liven_138 rfl ?_
        refine k_getR gX5_16 dX5_liven_139 ?_
        refine k_iload_n dX5_liven_142 rfl ?_
        refine k_iald aM_3 dX5_liven_143 ?_
        refine k_bipush dX5_liven_144 cb_6 ?_
        refine k_icmp_ne (tgt := 162) dX5_liven_146 (by decide) (fun _ => ?_) (fun _ => ?_)
        · refine k_iload_n dX5_liven_162 rfl ?_
          refine k_iconst dX5_liven_163 ci_1 ?_
          refine k_aload_n dX5_liven_164 rfl ?_
          refine k_getR gX5_13 dX5_liven_165 ?_
          refine k_iload_n dX5_liven_168 rfl ?_
          refine k_iald aM_2 dX5_liven_169 ?_
          refine k_ishl dX5_liven_170 ?_
          refine k_iconst dX5_liven_171 ci_m1 ?_
          refine k_ixor dX5_liven_172 ?_
          refine k_to (pc' := 173) rfl ?_
          refine k_iand dX5_liven_173 ?_
          refine k_aload_n dX5_liven_174 rfl ?_
          refine k_getR gX5_19 dX5_liven_175 ?_
          refine k_iload_n dX5_liven_178 rfl ?_
          refine k_iald aM_4 dX5_liven_179 ?_
          refine k_cs1i wadM lkX5_98 (m_X5_bit _ _) (by decide) (Nat.le_of_ble_eq_true rfl) dX5_liven_180 (fun r5 S6 => ?_)
          refine k_ior dX5_liven_183 ?_
          refine k_aload_n dX5_liven_184 rfl ?_
          refine k_getR gX5_22 dX5_liven_185 ?_
          refine k_iload_n dX5_liven_188 rfl ?_
          refine k_to (pc' := 189) rfl ?_
          refine k_iald aM_5 dX5_liven_189 ?_
          refine k_cs1i wadM lkX5_98 (m_X5_bit _ _) (by decide) (Nat.le_of_ble_eq_true rfl) dX5_liven_190 (fun r7 S8 => ?_)
          refine k_ior dX5_liven_193 ?_
          refine k_iast aM_13 dX5_liven_194 ?_
          refine k_nxt ?_
          refine k_goto (tgt := 256) dX5_liven_195 (by decide) ?_
          refine k_inc1 dX5_liven_256 ci_m1 (by decide) rfl ?_
          refine k_goto (tgt := 59) dX5_liven_259 (by decide) ?_
          refine k_to (pc' := 59) rfl ?_
          exact k_weak (ih _ _) (And.intro rfl (And.intro rfl True.intro))
        · refine k_to (pc' := 149) rfl ?_
          refine k_iload_n dX5_liven_149 rfl ?_
          refine k_iconst dX5_liven_150 ci_1 ?_
          refine k_aload_n dX5_liven_151 rfl ?_
          refine k_getR gX5_13 dX5_liven_152 ?_
          refine k_iload_n dX5_liven_155 rfl ?_
          refine k_iald aM_2 dX5_liven_156 ?_
          refine k_ishl dX5_liven_157 ?_
          refine k_ior dX5_liven_158 ?_
          refine k_goto (tgt := 174) dX5_liven_159 (by decide) ?_
          refine k_to (pc' := 174) rfl ?_
          refine k_aload_n dX5_liven_174 rfl ?_
          refine k_getR gX5_19 dX5_liven_175 ?_
          refine k_iload_n dX5_liven_178 rfl ?_
          refine k_iald aM_4 dX5_liven_179 ?_
          refine k_cs1i wadM lkX5_98 (m_X5_bit _ _) (by decide) (Nat.le_of_ble_eq_true rfl) dX5_liven_180 (fun r10 S11 => ?_)
          refine k_ior dX5_liven_183 ?_
          refine k_aload_n dX5_liven_184 rfl ?_
          refine k_getR gX5_22 dX5_liven_185 ?_
          refine k_iload_n dX5_liven_188 rfl ?_
          refine k_iald aM_5 dX5_liven_189 ?_
          refine k_to (pc' := 190) rfl ?_
          refine k_cs1i wadM lkX5_98 (m_X5_bit _ _) (by decide) (Nat.le_of_ble_eq_true rfl) dX5_liven_190 (fun r12 S13 => ?_)
          refine k_ior dX5_liven_193 ?_
          refine k_iast aM_13 dX5_liven_194 ?_
          refine k_nxt ?_
          refine k_goto (tgt := 256) dX5_liven_195 (by decide) ?_
          refine k_inc1 dX5_liven_256 ci_m1 (by decide) rfl ?_
          refine k_goto (tgt := 59) dX5_liven_259 (by decide) ?_
          refine k_to (pc' := 59) rfl ?_
          exact k_weak (ih _ _) (And.intro rfl (And.intro rfl True.intro))
      refine k_tin (tgt := 229) (v := 2) dX5_liven_78 (by decide) (by decide) rfl (by decide) (fun _ => ?_) (fun t2 => ?_)
      · refine k_aload_n dX5_liven_229 rfl ?_
        refine k_getR gX5_48 dX5_liven_230 ?_
        refine k_iload_n dX5_liven_233 rfl ?_
        refine k_iload_n dX5_liven_234 rfl ?_
        refine k_aload_n dX5_liven_235 rfl ?_
        refine k_getR gX5_19 dX5_liven_236 ?_
        refine k_iload_n dX5_liven_239 rfl ?_
        refine k_iald aM_4 dX5_liven_240 ?_
        refine k_cs1i wadM lkX5_98 (m_X5_bit _ _) (by decide) (Nat.le_of_ble_eq_true rfl) dX5_liven_241 (fun r15 S16 => ?_)
        refine k_to (pc' := 244) rfl ?_
        refine k_ior dX5_liven_244 ?_
        refine k_aload_n dX5_liven_245 rfl ?_
        refine k_getR gX5_22 dX5_liven_246 ?_
        refine k_iload_n dX5_liven_249 rfl ?_
        refine k_iald aM_5 dX5_liven_250 ?_
        refine k_cs1i wadM lkX5_98 (m_X5_bit _ _) (by decide) (Nat.le_of_ble_eq_true rfl) dX5_liven_251 (fun r17 S18 => ?_)
        refine k_ior dX5_liven_254 ?_
        refine k_iast aM_13 dX5_liven_255 ?_
        refine k_nxt ?_
        refine k_inc1 dX5_liven_256 ci_m1 (by decide) rfl ?_
        refine k_goto (tgt := 59) dX5_liven_259 (by decide) ?_
        refine k_to (pc' := 59) rfl ?_
        exact k_weak (ih _ _) (And.intro rfl (And.intro rfl True.intro))
      refine k_tin (tgt := 229) (v := 3) dX5_liven_78 (by decide) (by decide) rfl (by decide) (fun _ => ?_) (fun t3 => ?_)
      · refine k_aload_n dX5_liven_229 rfl ?_
        refine k_getR gX5_48 dX5_liven_230 ?_
        refine k_iload_n dX5_liven_233 rfl ?_
        refine k_iload_n dX5_liven_234 rfl ?_
        refine k_aload_n dX5_liven_235 rfl ?_
        refine k_getR gX5_19 dX5_liven_236 ?_
        refine k_iload_n dX5_liven_239 rfl ?_
        refine k_iald aM_4 dX5_liven_240 ?_
        refine k_cs1i wadM lkX5_98 (m_X5_bit _ _) (by decide) (Nat.le_of_ble_eq_true rfl) dX5_liven_241 (fun r20 S21 => ?_)
        refine k_to (pc' := 244) rfl ?_
        refine k_ior dX5_liven_244 ?_
        refine k_aload_n dX5_liven_245 rfl ?_
        refine k_getR gX5_22 dX5_liven_246 ?_
        refine k_iload_n dX5_liven_249 rfl ?_
        refine k_iald aM_5 dX5_liven_250 ?_
        refine k_cs1i wadM lkX5_98 (m_X5_bit _ _) (by decide) (Nat.le_of_ble_eq_true rfl) dX5_liven_251 (fun r22 S23 => ?_)
        refine k_ior dX5_liven_254 ?_
        refine k_iast aM_13 dX5_liven_255 ?_
        refine k_nxt ?_
        refine k_inc1 dX5_liven_256 ci_m1 (by decide) rfl ?_
        refine k_goto (tgt := 59) dX5_liven_259 (by decide) ?_
        refine k_to (pc' := 59) rfl ?_
        exact k_weak (ih _ _) (And.intro rfl (And.intro rfl True.intro))
      refine k_tin (tgt := 198) (v := 4) dX5_liven_78 (by decide) (by decide) rfl (by decide) (fun _ => ?_) (fun t4 => ?_)
      · refine k_aload_n dX5_liven_198 rfl ?_
        refine k_getR gX5_48 dX5_liven_199 ?_
        refine k_iload_n dX5_liven_202 rfl ?_
        refine k_iload_n dX5_liven_203 rfl ?_
        refine k_aload_n dX5_liven_204 rfl ?_
        refine k_getR gX5_48 dX5_liven_205 ?_
        refine k_aload_n dX5_liven_208 rfl ?_
        refine k_iload_n dX5_liven_209 rfl ?_
        refine k_cv1i wadM lkX5_102 obX5 (m_X5_passed _ _) (by decide) (Nat.le_of_ble_eq_true rfl) dX5_liven_210 (fun r25 S26 => ?_)
        refine k_to (pc' := 213) rfl ?_
        refine k_iald aM_13 dX5_liven_213 ?_
        refine k_ior dX5_liven_214 ?_
        refine k_aload_n dX5_liven_215 rfl ?_
        refine k_getR gX5_19 dX5_liven_216 ?_
        refine k_iload_n dX5_liven_219 rfl ?_
        refine k_iald aM_4 dX5_liven_220 ?_
        refine k_cs1i wadM lkX5_98 (m_X5_bit _ _) (by decide) (Nat.le_of_ble_eq_true rfl) dX5_liven_221 (fun r27 S28 => ?_)
        refine k_ior dX5_liven_224 ?_
        refine k_iast aM_13 dX5_liven_225 ?_
        refine k_nxt ?_
        refine k_goto (tgt := 256) dX5_liven_226 (by decide) ?_
        refine k_to (pc' := 256) rfl ?_
        refine k_inc1 dX5_liven_256 ci_m1 (by decide) rfl ?_
        refine k_goto (tgt := 59) dX5_liven_259 (by decide) ?_
        refine k_to (pc' := 59) rfl ?_
        exact k_weak (ih _ _) (And.intro rfl (And.intro rfl True.intro))
      refine k_tout (tgt := 229) dX5_liven_78 (tsw_0_4 t0 t1 t2 t3 t4) (by decide) ?_
      refine k_aload_n dX5_liven_229 rfl ?_
      refine k_getR gX5_48 dX5_liven_230 ?_
      refine k_iload_n dX5_liven_233 rfl ?_
      refine k_iload_n dX5_liven_234 rfl ?_
      refine k_aload_n dX5_liven_235 rfl ?_
      refine k_getR gX5_19 dX5_liven_236 ?_
      refine k_iload_n dX5_liven_239 rfl ?_
      refine k_iald aM_4 dX5_liven_240 ?_
      refine k_cs1i wadM lkX5_98 (m_X5_bit _ _) (by decide) (Nat.le_of_ble_eq_true rfl) dX5_liven_241 (fun r30 S31 => ?_)
      refine k_to (pc' := 244) rfl ?_
      refine k_ior dX5_liven_244 ?_
      refine k_aload_n dX5_liven_245 rfl ?_
      refine k_getR gX5_22 dX5_liven_246 ?_
      refine k_iload_n dX5_liven_249 rfl ?_
      refine k_iald aM_5 dX5_liven_250 ?_
      refine k_cs1i wadM lkX5_98 (m_X5_bit _ _) (by decide) (Nat.le_of_ble_eq_true rfl) dX5_liven_251 (fun r32 S33 => ?_)
      refine k_ior dX5_liven_254 ?_
      refine k_iast aM_13 dX5_liven_255 ?_
      refine k_nxt ?_
      refine k_inc1 dX5_liven_256 ci_m1 (by decide) rfl ?_
      refine k_goto (tgt := 59) dX5_liven_259 (by decide) ?_
      refine k_to (pc' := 59) rfl ?_
      exact k_weak (ih _ _) (And.intro rfl (And.intro rfl True.intro))
noncomputable def lp_X5_liven_12 : Nat → Int32 → St → Option (Unit × St)
  | 0, _, _ => none
  | n + 1, x1, S => (if (6 : Int32) ≤ x1 then (nxt ((gI S 1) - (1 : Int32)) fun y2 => (lp_X5_liven_59 FU y2 S)) else (chk (inB (gI S 1) 31) (chk (inB x1 6) (if (gA S 7 (x1).toNatClampNeg) = 0 then (chk (inB (gI S 1) 31) (nxt (sA S 13 (upd (gA S 13) ((gI S 1)).toNatClampNeg ((gA S 13 ((gI S 1)).toNatClampNeg) ||| (0 : Int32)))) fun S35 => (lp_X5_liven_12 n (x1 + (1 : Int32)) S35))) else (chk (inB (gI S 1) 31) (nxt (sA S 13 (upd (gA S 13) ((gI S 1)).toNatClampNeg ((gA S 13 ((gI S 1)).toNatClampNeg) ||| ((1 : Int32) <<< (x1 &&& 31))))) fun S36 => (lp_X5_liven_12 n (x1 + (1 : Int32)) S36)))))))
set_option maxRecDepth 100000 in
set_option maxHeartbeats 4000000 in
theorem wlp_X5_liven_12 (X : Cx) : ∀ (n : Nat) (x1 : Int32) (S : St), KJ X (cX5_liven, RX5, 3, 2, none) wlM jV 12 [some (.ref (xa X 0)), some (.int x1), none] [] S (lp_X5_liven_12 n x1 S) := by
  intro n
  induction n with
  | zero => intro x1 S; rw [lp_X5_liven_12]; exact k_none
  | succ n ih =>
    intro x1 S
    rw [lp_X5_liven_12]
    refine k_iload_n dX5_liven_12 rfl ?_
    refine k_bipush dX5_liven_13 cb_6 ?_
    refine k_icmp_ge (tgt := 52) dX5_liven_15 (by decide) (fun _ => ?_) (fun _ => ?_)
    · refine k_aload_n dX5_liven_52 rfl ?_
      refine k_getI gX5_73 dX5_liven_53 ?_
      refine k_iconst dX5_liven_56 ci_1 ?_
      refine k_isub dX5_liven_57 ?_
      refine k_ist_n1 dX5_liven_58 (by decide) rfl ?_
      refine k_nxt ?_
      refine k_to (pc' := 59) rfl ?_
      exact k_weak (wlp_X5_liven_59 X FU _ _) (And.intro rfl (And.intro rfl True.intro))
    · refine k_to (pc' := 18) rfl ?_
      refine k_aload_n dX5_liven_18 rfl ?_
      refine k_getR gX5_48 dX5_liven_19 ?_
      refine k_aload_n dX5_liven_22 rfl ?_
      refine k_getI gX5_73 dX5_liven_23 ?_
      refine k_dup2 dX5_liven_26 rfl rfl ?_
      refine k_iald aM_13 dX5_liven_27 ?_
      refine k_aload_n dX5_liven_28 rfl ?_
      refine k_getR gX5_28 dX5_liven_29 ?_
      refine k_iload_n dX5_liven_32 rfl ?_
      refine k_to (pc' := 33) rfl ?_
      refine k_zald aM_7 dX5_liven_33 ?_
      refine k_if_eq (tgt := 43) dX5_liven_34 (by decide) (fun _ => ?_) (fun _ => ?_)
      · refine k_iconst dX5_liven_43 ci_0 ?_
        refine k_ior dX5_liven_44 ?_
        refine k_iast aM_13 dX5_liven_45 ?_
        refine k_nxt ?_
        refine k_inc1 dX5_liven_46 ci_1 (by decide) rfl ?_
        refine k_goto (tgt := 12) dX5_liven_49 (by decide) ?_
        refine k_to (pc' := 12) rfl ?_
        exact k_weak (ih _ _) (And.intro rfl (And.intro rfl True.intro))
      · refine k_to (pc' := 37) rfl ?_
        refine k_iconst dX5_liven_37 ci_1 ?_
        refine k_iload_n dX5_liven_38 rfl ?_
        refine k_ishl dX5_liven_39 ?_
        refine k_goto (tgt := 44) dX5_liven_40 (by decide) ?_
        refine k_ior dX5_liven_44 ?_
        refine k_iast aM_13 dX5_liven_45 ?_
        refine k_nxt ?_
        refine k_inc1 dX5_liven_46 ci_1 (by decide) rfl ?_
        refine k_goto (tgt := 12) dX5_liven_49 (by decide) ?_
        refine k_to (pc' := 12) rfl ?_
        exact k_weak (ih _ _) (And.intro rfl (And.intro rfl True.intro))
noncomputable def f_X5_liven (S : St) : Option (Unit × St) := (chk (inB (gI S 1) 31) (nxt (sA S 13 (upd (gA S 13) ((gI S 1)).toNatClampNeg (0 : Int32))) fun S1 => (lp_X5_liven_12 FU (0 : Int32) S1)))
set_option maxRecDepth 100000 in
set_option maxHeartbeats 4000000 in
theorem w_X5_liven (X : Cx) (S : St) : KJ X (cX5_liven, RX5, 3, 2, none) wlM jV 0 [some (.ref (xa X 0)), none, none] [] S (f_X5_liven S) := by
  unfold f_X5_liven
  refine k_aload_n dX5_liven_0 rfl ?_
  refine k_getR gX5_48 dX5_liven_1 ?_
  refine k_aload_n dX5_liven_4 rfl ?_
  refine k_getI gX5_73 dX5_liven_5 ?_
  refine k_iconst dX5_liven_8 ci_0 ?_
  refine k_iast aM_13 dX5_liven_9 ?_
  refine k_nxt ?_
  refine k_iconst dX5_liven_10 ci_0 ?_
  refine k_ist_n1 dX5_liven_11 (by decide) rfl ?_
  refine k_to (pc' := 12) rfl ?_
  exact k_weak (wlp_X5_liven_12 X FU _ _) (And.intro rfl (And.intro rfl True.intro))
theorem m_X5_liven {l : Launch} {D : va_G} {d : Dt} (S : St) : ∀ (r : Unit) (S' : St), f_X5_liven S = some (r, S') → Mt l D d wlM yX5_liven cX5_liven 3 none 2 [.ref (d.1 0)] S (jV r) S' := Mt_of wadM (by decide) (Nat.le_of_ble_eq_true rfl) (fun X hL hd => by subst hd; exact w_X5_liven X S)
noncomputable def f_X5_live (x1 : Int32) (S : St) : Option (Int32 × St) := (nxt (sI S 0 (0 : Int32)) fun S1 => (bnd (f_X5_isIn x1 (0 : Int32) (gI S1 1) S1) fun r2 S3 => (if r2 = 0 then (some ((-1 : Int32), S3)) else (bnd (f_X5_liven S3) fun r4 S5 => (chk (inB x1 31) (some ((gA S5 13 (x1).toNatClampNeg), S5)))))))
set_option maxRecDepth 100000 in
set_option maxHeartbeats 4000000 in
theorem w_X5_live (X : Cx) (x1 : Int32) (S : St) : KJ X (cX5_live, RX5, 2, 3, (some .int)) wlM jI 0 [some (.ref (xa X 0)), some (.int x1)] [] S (f_X5_live x1 S) := by
  unfold f_X5_live
  refine k_aload_n dX5_live_0 rfl ?_
  refine k_iconst dX5_live_1 ci_0 ?_
  refine k_putI pX5_69 dX5_live_2 ?_
  refine k_nxt ?_
  refine k_iload_n dX5_live_5 rfl ?_
  refine k_iconst dX5_live_6 ci_0 ?_
  refine k_aload_n dX5_live_7 rfl ?_
  refine k_getI gX5_73 dX5_live_8 ?_
  refine k_cs3i wadM lkX5_86 (m_X5_isIn _ _ _ _) (by decide) (Nat.le_of_ble_eq_true rfl) dX5_live_11 (fun r2 S3 => ?_)
  refine k_if_ne (tgt := 19) dX5_live_14 (by decide) (fun _ => ?_) (fun _ => ?_)
  · refine k_aload_n dX5_live_19 rfl ?_
    refine k_cv0v wadM lkX5_105 obX5 (m_X5_liven _) (by decide) (Nat.le_of_ble_eq_true rfl) dX5_live_20 (fun r4 S5 => ?_)
    refine k_aload_n dX5_live_23 rfl ?_
    refine k_getR gX5_48 dX5_live_24 ?_
    refine k_iload_n dX5_live_27 rfl ?_
    refine k_iald aM_13 dX5_live_28 ?_
    exact k_iret dX5_live_29
  · refine k_to (pc' := 17) rfl ?_
    refine k_iconst dX5_live_17 ci_m1 ?_
    exact k_iret dX5_live_18
theorem m_X5_live {l : Launch} {D : va_G} {d : Dt} (x1 : Int32) (S : St) : ∀ (r : Int32) (S' : St), f_X5_live x1 S = some (r, S') → Mt l D d wlM yX5_live cX5_live 2 (some .int) 3 [.ref (d.1 0), .int x1] S (jI r) S' := Mt_of wadM (by decide) (Nat.le_of_ble_eq_true rfl) (fun X hL hd => by subst hd; exact w_X5_live X x1 S)
noncomputable def lp_X5_digit_4 : Nat → Int32 → Int32 → St → Option (Int32 × St)
  | 0, _, _, _ => none
  | n + 1, x2, x3, S => (if (5 : Int32) ≤ x3 then (chk (decide (¬ (10 : Int32) = 0)) (some ((x2 - x2 / (10 : Int32) * (10 : Int32)), S))) else (chk (decide (¬ (10 : Int32) = 0)) (nxt (x2 / (10 : Int32)) fun y1 => (lp_X5_digit_4 n y1 (x3 + (1 : Int32)) S))))
set_option maxRecDepth 100000 in
set_option maxHeartbeats 4000000 in
theorem wlp_X5_digit_4 (X : Cx) : ∀ (n : Nat) (x2 : Int32) (x3 : Int32) (S : St), KJ X (cX5_digit, RX5, 4, 1, (some .int)) wlM jI 4 [none, none, some (.int x2), some (.int x3)] [] S (lp_X5_digit_4 n x2 x3 S) := by
  intro n
  induction n with
  | zero => intro x2 x3 S; rw [lp_X5_digit_4]; exact k_none
  | succ n ih =>
    intro x2 x3 S
    rw [lp_X5_digit_4]
    refine k_iload_n dX5_digit_4 rfl ?_
    refine k_iconst dX5_digit_5 ci_5 ?_
    refine k_icmp_ge (tgt := 20) dX5_digit_6 (by decide) (fun _ => ?_) (fun _ => ?_)
    · refine k_iload_n dX5_digit_20 rfl ?_
      refine k_bipush dX5_digit_21 cb_10 ?_
      refine k_irem dX5_digit_23 ?_
      exact k_iret dX5_digit_24
    · refine k_to (pc' := 9) rfl ?_
      refine k_iload_n dX5_digit_9 rfl ?_
      refine k_bipush dX5_digit_10 cb_10 ?_
      refine k_idiv dX5_digit_12 ?_
      refine k_ist_n2 dX5_digit_13 (by decide) rfl ?_
      refine k_nxt ?_
      refine k_inc3 dX5_digit_14 ci_1 (by decide) rfl ?_
      refine k_goto (tgt := 4) dX5_digit_17 (by decide) ?_
      refine k_to (pc' := 4) rfl ?_
      exact k_weak (ih _ _ _) (And.intro rfl (And.intro rfl True.intro))
noncomputable def f_X5_digit (x0 : Int32) (x1 : Int32) (S : St) : Option (Int32 × St) := (lp_X5_digit_4 FU x0 x1 S)
set_option maxRecDepth 100000 in
set_option maxHeartbeats 4000000 in
theorem w_X5_digit (X : Cx) (x0 : Int32) (x1 : Int32) (S : St) : KJ X (cX5_digit, RX5, 4, 1, (some .int)) wlM jI 0 [some (.int x0), some (.int x1), none, none] [] S (f_X5_digit x0 x1 S) := by
  unfold f_X5_digit
  refine k_iload_n dX5_digit_0 rfl ?_
  refine k_ist_n2 dX5_digit_1 (by decide) rfl ?_
  refine k_iload_n dX5_digit_2 rfl ?_
  refine k_ist_n3 dX5_digit_3 (by decide) rfl ?_
  refine k_to (pc' := 4) rfl ?_
  exact k_weak (wlp_X5_digit_4 X FU _ _ _) (And.intro rfl (And.intro rfl True.intro))
theorem m_X5_digit {l : Launch} {D : va_G} {d : Dt} (x0 : Int32) (x1 : Int32) (S : St) : ∀ (r : Int32) (S' : St), f_X5_digit x0 x1 S = some (r, S') → Mt l D d wlM yX5_digit cX5_digit 4 (some .int) 1 [.int x0, .int x1] S (jI r) S' := Mt_of wadM (by decide) (Nat.le_of_ble_eq_true rfl) (fun X hL hd => by subst hd; exact w_X5_digit X x0 x1 S)
noncomputable def lp_X5_with_5 (x0 : Int32) (x1 : Int32) (x2 : Int32) : Nat → Int32 → Int32 → St → Option (Int32 × St)
  | 0, _, _, _ => none
  | n + 1, x3, x4, S => (if (5 : Int32) ≤ x4 then (bnd (f_X5_digit x0 x1 S) fun r1 S2 => (some ((x0 + ((x2 - r1) * x3)), S2))) else (nxt (x3 * (10 : Int32)) fun y3 => (lp_X5_with_5 x0 x1 x2 n y3 (x4 + (1 : Int32)) S)))
set_option maxRecDepth 100000 in
set_option maxHeartbeats 4000000 in
theorem wlp_X5_with_5 (X : Cx) (x0 : Int32) (x1 : Int32) (x2 : Int32) : ∀ (n : Nat) (x3 : Int32) (x4 : Int32) (S : St), KJ X (cX5_with, RX5, 5, 2, (some .int)) wlM jI 5 [some (.int x0), some (.int x1), some (.int x2), some (.int x3), some (.int x4)] [] S (lp_X5_with_5 x0 x1 x2 n x3 x4 S) := by
  intro n
  induction n with
  | zero => intro x3 x4 S; rw [lp_X5_with_5]; exact k_none
  | succ n ih =>
    intro x3 x4 S
    rw [lp_X5_with_5]
    refine k_iload dX5_with_5 rfl ?_
    refine k_iconst dX5_with_7 ci_5 ?_
    refine k_icmp_ge (tgt := 22) dX5_with_8 (by decide) (fun _ => ?_) (fun _ => ?_)
    · refine k_iload_n dX5_with_22 rfl ?_
      refine k_iload_n dX5_with_23 rfl ?_
      refine k_iload_n dX5_with_24 rfl ?_
      refine k_iload_n dX5_with_25 rfl ?_
      refine k_cs2i wadM lkX5_108 (m_X5_digit _ _ _) (by decide) (Nat.le_of_ble_eq_true rfl) dX5_with_26 (fun r1 S2 => ?_)
      refine k_isub dX5_with_29 ?_
      refine k_iload_n dX5_with_30 rfl ?_
      refine k_imul dX5_with_31 ?_
      refine k_iadd dX5_with_32 ?_
      refine k_to (pc' := 33) rfl ?_
      exact k_iret dX5_with_33
    · refine k_to (pc' := 11) rfl ?_
      refine k_iload_n dX5_with_11 rfl ?_
      refine k_bipush dX5_with_12 cb_10 ?_
      refine k_imul dX5_with_14 ?_
      refine k_ist_n3 dX5_with_15 (by decide) rfl ?_
      refine k_nxt ?_
      refine k_inc4 dX5_with_16 ci_1 (by decide) rfl ?_
      refine k_goto (tgt := 5) dX5_with_19 (by decide) ?_
      refine k_to (pc' := 5) rfl ?_
      exact k_weak (ih _ _ _) (And.intro rfl (And.intro rfl (And.intro rfl (And.intro rfl (And.intro rfl True.intro)))))
noncomputable def f_X5_with (x0 : Int32) (x1 : Int32) (x2 : Int32) (S : St) : Option (Int32 × St) := (lp_X5_with_5 x0 x1 x2 FU (1 : Int32) x1 S)
set_option maxRecDepth 100000 in
set_option maxHeartbeats 4000000 in
theorem w_X5_with (X : Cx) (x0 : Int32) (x1 : Int32) (x2 : Int32) (S : St) : KJ X (cX5_with, RX5, 5, 2, (some .int)) wlM jI 0 [some (.int x0), some (.int x1), some (.int x2), none, none] [] S (f_X5_with x0 x1 x2 S) := by
  unfold f_X5_with
  refine k_iconst dX5_with_0 ci_1 ?_
  refine k_ist_n3 dX5_with_1 (by decide) rfl ?_
  refine k_iload_n dX5_with_2 rfl ?_
  refine k_ist4 dX5_with_3 (by decide) rfl ?_
  refine k_to (pc' := 5) rfl ?_
  exact k_weak (wlp_X5_with_5 X _ _ _ FU _ _ _) (And.intro rfl (And.intro rfl (And.intro rfl (And.intro rfl (And.intro rfl True.intro)))))
theorem m_X5_with {l : Launch} {D : va_G} {d : Dt} (x0 : Int32) (x1 : Int32) (x2 : Int32) (S : St) : ∀ (r : Int32) (S' : St), f_X5_with x0 x1 x2 S = some (r, S') → Mt l D d wlM yX5_with cX5_with 5 (some .int) 2 [.int x0, .int x1, .int x2] S (jI r) S' := Mt_of wadM (by decide) (Nat.le_of_ble_eq_true rfl) (fun X hL hd => by subst hd; exact w_X5_with X x0 x1 x2 S)
noncomputable def f_X5_termOf (x0 : Int32) (x1 : Int32) (S : St) : Option (Int32 × St) := (if (6 : Int32) ≤ x1 then (some ((x1 - (10 : Int32)), S)) else (bnd (f_X5_digit x0 x1 S) fun r1 S2 => (some (r1, S2))))
set_option maxRecDepth 100000 in
set_option maxHeartbeats 4000000 in
theorem w_X5_termOf (X : Cx) (x0 : Int32) (x1 : Int32) (S : St) : KJ X (cX5_termOf, RX5, 2, 2, (some .int)) wlM jI 0 [some (.int x0), some (.int x1)] [] S (f_X5_termOf x0 x1 S) := by
  unfold f_X5_termOf
  refine k_iload_n dX5_termOf_0 rfl ?_
  refine k_bipush dX5_termOf_1 cb_6 ?_
  refine k_icmp_ge (tgt := 14) dX5_termOf_3 (by decide) (fun _ => ?_) (fun _ => ?_)
  · refine k_iload_n dX5_termOf_14 rfl ?_
    refine k_bipush dX5_termOf_15 cb_10 ?_
    refine k_isub dX5_termOf_17 ?_
    exact k_iret dX5_termOf_18
  · refine k_to (pc' := 6) rfl ?_
    refine k_iload_n dX5_termOf_6 rfl ?_
    refine k_iload_n dX5_termOf_7 rfl ?_
    refine k_cs2i wadM lkX5_108 (m_X5_digit _ _ _) (by decide) (Nat.le_of_ble_eq_true rfl) dX5_termOf_8 (fun r1 S2 => ?_)
    refine k_goto (tgt := 18) dX5_termOf_11 (by decide) ?_
    exact k_iret dX5_termOf_18
theorem m_X5_termOf {l : Launch} {D : va_G} {d : Dt} (x0 : Int32) (x1 : Int32) (S : St) : ∀ (r : Int32) (S' : St), f_X5_termOf x0 x1 S = some (r, S') → Mt l D d wlM yX5_termOf cX5_termOf 2 (some .int) 2 [.int x0, .int x1] S (jI r) S' := Mt_of wadM (by decide) (Nat.le_of_ble_eq_true rfl) (fun X hL hd => by subst hd; exact w_X5_termOf X x0 x1 S)
noncomputable def f_X5_worth (x0 : Int32) (x1 : Int32) (x2 : Int32) (x3 : Int32) (S : St) : Option (Int32 × St) := (if x0 = 0 then (chk (decide (¬ (10 : Int32) = 0)) (some (((x1 + x2) - (x1 + x2) / (10 : Int32) * (10 : Int32)), S))) else (if x0 = 1 then (chk (decide (¬ (10 : Int32) = 0)) (some ((((x1 - x2) + (10 : Int32)) - ((x1 - x2) + (10 : Int32)) / (10 : Int32) * (10 : Int32)), S))) else (if x0 = 2 then (chk (decide (¬ (10 : Int32) = 0)) (some (((x1 * x2) - (x1 * x2) / (10 : Int32) * (10 : Int32)), S))) else (if x0 = 3 then (if x2 ≤ x1 then (some (x2, S)) else (some (x1, S))) else (if x0 = 4 then (if x1 ≤ x2 then (some (x2, S)) else (some (x1, S))) else (if x0 = 5 then (if x1 = x2 then (some ((1 : Int32), S)) else (some ((0 : Int32), S))) else (if x2 = 0 then (some (x1, S)) else (some (x3, S)))))))))
set_option maxRecDepth 100000 in
set_option maxHeartbeats 4000000 in
theorem w_X5_worth (X : Cx) (x0 : Int32) (x1 : Int32) (x2 : Int32) (x3 : Int32) (S : St) : KJ X (cX5_worth, RX5, 4, 1, (some .int)) wlM jI 0 [some (.int x0), some (.int x1), some (.int x2), some (.int x3)] [] S (f_X5_worth x0 x1 x2 x3 S) := by
  unfold f_X5_worth
  refine k_iload_n dX5_worth_0 rfl ?_
  refine k_tin (tgt := 40) (v := 0) dX5_worth_1 (by decide) (by decide) rfl (by decide) (fun _ => ?_) (fun t0 => ?_)
  · refine k_iload_n dX5_worth_40 rfl ?_
    refine k_iload_n dX5_worth_41 rfl ?_
    refine k_iadd dX5_worth_42 ?_
    refine k_bipush dX5_worth_43 cb_10 ?_
    refine k_irem dX5_worth_45 ?_
    exact k_iret dX5_worth_46
  refine k_tin (tgt := 47) (v := 1) dX5_worth_1 (by decide) (by decide) rfl (by decide) (fun _ => ?_) (fun t1 => ?_)
  · refine k_iload_n dX5_worth_47 rfl ?_
    refine k_iload_n dX5_worth_48 rfl ?_
    refine k_isub dX5_worth_49 ?_
    refine k_bipush dX5_worth_50 cb_10 ?_
    refine k_iadd dX5_worth_52 ?_
    refine k_bipush dX5_worth_53 cb_10 ?_
    refine k_irem dX5_worth_55 ?_
    exact k_iret dX5_worth_56
  refine k_tin (tgt := 57) (v := 2) dX5_worth_1 (by decide) (by decide) rfl (by decide) (fun _ => ?_) (fun t2 => ?_)
  · refine k_iload_n dX5_worth_57 rfl ?_
    refine k_iload_n dX5_worth_58 rfl ?_
    refine k_imul dX5_worth_59 ?_
    refine k_bipush dX5_worth_60 cb_10 ?_
    refine k_irem dX5_worth_62 ?_
    exact k_iret dX5_worth_63
  refine k_tin (tgt := 64) (v := 3) dX5_worth_1 (by decide) (by decide) rfl (by decide) (fun _ => ?_) (fun t3 => ?_)
  · refine k_iload_n dX5_worth_64 rfl ?_
    refine k_iload_n dX5_worth_65 rfl ?_
    refine k_icmp_ge (tgt := 73) dX5_worth_66 (by decide) (fun _ => ?_) (fun _ => ?_)
    · refine k_iload_n dX5_worth_73 rfl ?_
      exact k_iret dX5_worth_74
    · refine k_to (pc' := 69) rfl ?_
      refine k_iload_n dX5_worth_69 rfl ?_
      refine k_goto (tgt := 74) dX5_worth_70 (by decide) ?_
      exact k_iret dX5_worth_74
  refine k_tin (tgt := 75) (v := 4) dX5_worth_1 (by decide) (by decide) rfl (by decide) (fun _ => ?_) (fun t4 => ?_)
  · refine k_iload_n dX5_worth_75 rfl ?_
    refine k_iload_n dX5_worth_76 rfl ?_
    refine k_icmp_le (tgt := 84) dX5_worth_77 (by decide) (fun _ => ?_) (fun _ => ?_)
    · refine k_iload_n dX5_worth_84 rfl ?_
      exact k_iret dX5_worth_85
    · refine k_to (pc' := 80) rfl ?_
      refine k_iload_n dX5_worth_80 rfl ?_
      refine k_goto (tgt := 85) dX5_worth_81 (by decide) ?_
      exact k_iret dX5_worth_85
  refine k_tin (tgt := 86) (v := 5) dX5_worth_1 (by decide) (by decide) rfl (by decide) (fun _ => ?_) (fun t5 => ?_)
  · refine k_iload_n dX5_worth_86 rfl ?_
    refine k_iload_n dX5_worth_87 rfl ?_
    refine k_icmp_ne (tgt := 95) dX5_worth_88 (by decide) (fun _ => ?_) (fun _ => ?_)
    · refine k_iconst dX5_worth_95 ci_0 ?_
      exact k_iret dX5_worth_96
    · refine k_to (pc' := 91) rfl ?_
      refine k_iconst dX5_worth_91 ci_1 ?_
      refine k_goto (tgt := 96) dX5_worth_92 (by decide) ?_
      exact k_iret dX5_worth_96
  refine k_tout (tgt := 97) dX5_worth_1 (tsw_0_5 t0 t1 t2 t3 t4 t5) (by decide) ?_
  refine k_iload_n dX5_worth_97 rfl ?_
  refine k_if_ne (tgt := 105) dX5_worth_98 (by decide) (fun _ => ?_) (fun _ => ?_)
  · refine k_iload_n dX5_worth_105 rfl ?_
    exact k_iret dX5_worth_106
  · refine k_to (pc' := 101) rfl ?_
    refine k_iload_n dX5_worth_101 rfl ?_
    refine k_goto (tgt := 106) dX5_worth_102 (by decide) ?_
    exact k_iret dX5_worth_106
theorem m_X5_worth {l : Launch} {D : va_G} {d : Dt} (x0 : Int32) (x1 : Int32) (x2 : Int32) (x3 : Int32) (S : St) : ∀ (r : Int32) (S' : St), f_X5_worth x0 x1 x2 x3 S = some (r, S') → Mt l D d wlM yX5_worth cX5_worth 4 (some .int) 1 [.int x0, .int x1, .int x2, .int x3] S (jI r) S' := Mt_of wadM (by decide) (Nat.le_of_ble_eq_true rfl) (fun X hL hd => by subst hd; exact w_X5_worth X x0 x1 x2 x3 S)
noncomputable def f_X5_holds (x0 : Int32) (x1 : Int32) (x2 : Int32) (S : St) : Option (Int32 × St) := (if x0 = 0 then (if x1 = x2 then (some ((1 : Int32), S)) else (some ((0 : Int32), S))) else (if x0 = (1 : Int32) then (if x1 = x2 then (some ((0 : Int32), S)) else (some ((1 : Int32), S))) else (if x0 = (2 : Int32) then (if x2 ≤ x1 then (some ((0 : Int32), S)) else (some ((1 : Int32), S))) else (if x1 ≤ x2 then (some ((0 : Int32), S)) else (some ((1 : Int32), S))))))
set_option maxRecDepth 100000 in
set_option maxHeartbeats 4000000 in
theorem w_X5_holds (X : Cx) (x0 : Int32) (x1 : Int32) (x2 : Int32) (S : St) : KJ X (cX5_holds, RX5, 3, 1, (some .boolean)) wlM jI 0 [some (.int x0), some (.int x1), some (.int x2)] [] S (f_X5_holds x0 x1 x2 S) := by
  unfold f_X5_holds
  refine k_iload_n dX5_holds_0 rfl ?_
  refine k_if_ne (tgt := 17) dX5_holds_1 (by decide) (fun _ => ?_) (fun _ => ?_)
  · refine k_iload_n dX5_holds_17 rfl ?_
    refine k_iconst dX5_holds_18 ci_1 ?_
    refine k_icmp_ne (tgt := 35) dX5_holds_19 (by decide) (fun _ => ?_) (fun _ => ?_)
    · refine k_iload_n dX5_holds_35 rfl ?_
      refine k_iconst dX5_holds_36 ci_2 ?_
      refine k_icmp_ne (tgt := 53) dX5_holds_37 (by decide) (fun _ => ?_) (fun _ => ?_)
      · refine k_iload_n dX5_holds_53 rfl ?_
        refine k_iload_n dX5_holds_54 rfl ?_
        refine k_icmp_le (tgt := 62) dX5_holds_55 (by decide) (fun _ => ?_) (fun _ => ?_)
        · refine k_iconst dX5_holds_62 ci_0 ?_
          exact k_zret (Or.inl rfl) dX5_holds_63
        · refine k_to (pc' := 58) rfl ?_
          refine k_iconst dX5_holds_58 ci_1 ?_
          refine k_goto (tgt := 63) dX5_holds_59 (by decide) ?_
          exact k_zret (Or.inr rfl) dX5_holds_63
      · refine k_to (pc' := 40) rfl ?_
        refine k_iload_n dX5_holds_40 rfl ?_
        refine k_iload_n dX5_holds_41 rfl ?_
        refine k_icmp_ge (tgt := 49) dX5_holds_42 (by decide) (fun _ => ?_) (fun _ => ?_)
        · refine k_iconst dX5_holds_49 ci_0 ?_
          refine k_goto (tgt := 63) dX5_holds_50 (by decide) ?_
          exact k_zret (Or.inl rfl) dX5_holds_63
        · refine k_to (pc' := 45) rfl ?_
          refine k_iconst dX5_holds_45 ci_1 ?_
          refine k_goto (tgt := 63) dX5_holds_46 (by decide) ?_
          exact k_zret (Or.inr rfl) dX5_holds_63
    · refine k_to (pc' := 22) rfl ?_
      refine k_iload_n dX5_holds_22 rfl ?_
      refine k_iload_n dX5_holds_23 rfl ?_
      refine k_icmp_eq (tgt := 31) dX5_holds_24 (by decide) (fun _ => ?_) (fun _ => ?_)
      · refine k_iconst dX5_holds_31 ci_0 ?_
        refine k_goto (tgt := 63) dX5_holds_32 (by decide) ?_
        exact k_zret (Or.inl rfl) dX5_holds_63
      · refine k_to (pc' := 27) rfl ?_
        refine k_iconst dX5_holds_27 ci_1 ?_
        refine k_goto (tgt := 63) dX5_holds_28 (by decide) ?_
        exact k_zret (Or.inr rfl) dX5_holds_63
  · refine k_to (pc' := 4) rfl ?_
    refine k_iload_n dX5_holds_4 rfl ?_
    refine k_iload_n dX5_holds_5 rfl ?_
    refine k_icmp_ne (tgt := 13) dX5_holds_6 (by decide) (fun _ => ?_) (fun _ => ?_)
    · refine k_iconst dX5_holds_13 ci_0 ?_
      refine k_goto (tgt := 63) dX5_holds_14 (by decide) ?_
      exact k_zret (Or.inl rfl) dX5_holds_63
    · refine k_to (pc' := 9) rfl ?_
      refine k_iconst dX5_holds_9 ci_1 ?_
      refine k_goto (tgt := 63) dX5_holds_10 (by decide) ?_
      exact k_zret (Or.inr rfl) dX5_holds_63
theorem m_X5_holds {l : Launch} {D : va_G} {d : Dt} (x0 : Int32) (x1 : Int32) (x2 : Int32) (S : St) : ∀ (r : Int32) (S' : St), f_X5_holds x0 x1 x2 S = some (r, S') → Mt l D d wlM yX5_holds cX5_holds 3 (some .boolean) 1 [.int x0, .int x1, .int x2] S (jI r) S' := Mt_of wadM (by decide) (Nat.le_of_ble_eq_true rfl) (fun X hL hd => by subst hd; exact w_X5_holds X x0 x1 x2 S)
noncomputable def f_X5_make (x1 : Int32) (x2 : Int64) (S : St) : Option (Unit × St) := (chk (inB (gI S 20) 10) (nxt (sA S 14 (upd (gA S 14) ((gI S 20)).toNatClampNeg x1)) fun S1 => (chk (inB (gI S1 20) 10) (nxt (sB S1 15 (vp_updL (gB S1 15) ((gI S1 20)).toNatClampNeg x2)) fun S2 => (nxt (sI S2 20 ((gI S2 20) + (1 : Int32))) fun S3 => (some ((), S3)))))))
set_option maxRecDepth 100000 in
set_option maxHeartbeats 4000000 in
theorem w_X5_make (X : Cx) (x1 : Int32) (x2 : Int64) (S : St) : KJ X (cX5_make, RX5, 4, 1, none) wlM jV 0 [some (.ref (xa X 0)), some (.int x1), some (.long x2), none] [] S (f_X5_make x1 x2 S) := by
  unfold f_X5_make
  refine k_aload_n dX5_make_0 rfl ?_
  refine k_getR gX5_51 dX5_make_1 ?_
  refine k_aload_n dX5_make_4 rfl ?_
  refine k_getI gX5_112 dX5_make_5 ?_
  refine k_iload_n dX5_make_8 rfl ?_
  refine k_iast aM_14 dX5_make_9 ?_
  refine k_nxt ?_
  refine k_aload_n dX5_make_10 rfl ?_
  refine k_getR gX5_54 dX5_make_11 ?_
  refine k_aload_n dX5_make_14 rfl ?_
  refine k_to (pc' := 15) rfl ?_
  refine k_getI gX5_112 dX5_make_15 ?_
  refine k_lload_n dX5_make_18 rfl ?_
  refine k_last aM_15 dX5_make_19 ?_
  refine k_nxt ?_
  refine k_aload_n dX5_make_20 rfl ?_
  refine k_dup dX5_make_21 rfl ?_
  refine k_getI gX5_112 dX5_make_22 ?_
  refine k_iconst dX5_make_25 ci_1 ?_
  refine k_iadd dX5_make_26 ?_
  refine k_putI pX5_112 dX5_make_27 ?_
  refine k_nxt ?_
  exact k_vret dX5_make_30
theorem m_X5_make {l : Launch} {D : va_G} {d : Dt} (x1 : Int32) (x2 : Int64) (S : St) : ∀ (r : Unit) (S' : St), f_X5_make x1 x2 S = some (r, S') → Mt l D d wlM yX5_make cX5_make 4 none 1 [.ref (d.1 0), .int x1, .long x2] S (jV r) S' := Mt_of wadM (by decide) (Nat.le_of_ble_eq_true rfl) (fun X hL hd => by subst hd; exact w_X5_make X x1 x2 S)
noncomputable def lp_X5_go_79 (x1 : Int32) (x2 : Int32) (x3 : Int64) : Nat → Int32 → St → Option (Unit × St)
  | 0, _, _ => none
  | n + 1, x7, S => (if (10 : Int32) ≤ x7 then (some ((), S)) else (chk (inB x1 30) (chk (inB (((10 : Int32) * (gA S 3 (x1).toNatClampNeg)) + x7) 40) (nxt (gA S 6 ((((10 : Int32) * (gA S 3 (x1).toNatClampNeg)) + x7)).toNatClampNeg) fun y8 => (if y8 ≤ 0 then (lp_X5_go_79 x1 x2 x3 n (x7 + (1 : Int32)) S) else (chk (inB x1 30) (bnd (f_X5_with x2 (gA S 2 (x1).toNatClampNeg) x7 S) fun r9 S10 => (chk (decide (¬ (60 : Int64) = 0)) (bnd (f_X5_make r9 ((x3 / (60 : Int64)) * (y8).toInt64) S10) fun r11 S12 => (lp_X5_go_79 x1 x2 x3 n (x7 + (1 : Int32)) S12))))))))))
set_option maxRecDepth 100000 in
set_option maxHeartbeats 4000000 in
theorem wlp_X5_go_79 (X : Cx) (x1 : Int32) (x2 : Int32) (x3 : Int64) : ∀ (n : Nat) (x7 : Int32) (S : St), KJ X (cX5_go, RX5, 9, 3, none) wlM jV 79 [some (.ref (xa X 0)), some (.int x1), some (.int x2), some (.long x3), none, none, none, some (.int x7), none] [] S (lp_X5_go_79 x1 x2 x3 n x7 S) := by
  intro n
  induction n with
  | zero => intro x7 S; rw [lp_X5_go_79]; exact k_none
  | succ n ih =>
    intro x7 S
    rw [lp_X5_go_79]
    refine k_iload dX5_go_79 rfl ?_
    refine k_bipush dX5_go_81 cb_10 ?_
    refine k_icmp_ge (tgt := 141) dX5_go_83 (by decide) (fun _ => ?_) (fun _ => ?_)
    · refine k_goto (tgt := 270) dX5_go_141 (by decide) ?_
      exact k_vret dX5_go_270
    · refine k_to (pc' := 86) rfl ?_
      refine k_aload_n dX5_go_86 rfl ?_
      refine k_getR gX5_25 dX5_go_87 ?_
      refine k_bipush dX5_go_90 cb_10 ?_
      refine k_aload_n dX5_go_92 rfl ?_
      refine k_getR gX5_16 dX5_go_93 ?_
      refine k_iload_n dX5_go_96 rfl ?_
      refine k_iald aM_3 dX5_go_97 ?_
      refine k_imul dX5_go_98 ?_
      refine k_iload dX5_go_99 rfl ?_
      refine k_to (pc' := 101) rfl ?_
      refine k_iadd dX5_go_101 ?_
      refine k_iald aM_6 dX5_go_102 ?_
      refine k_ist8 dX5_go_103 (by decide) rfl ?_
      refine k_nxt ?_
      refine k_iload dX5_go_105 rfl ?_
      refine k_if_le (tgt := 135) dX5_go_107 (by decide) (fun _ => ?_) (fun _ => ?_)
      · refine k_inc7 dX5_go_135 ci_1 (by decide) rfl ?_
        refine k_goto (tgt := 79) dX5_go_138 (by decide) ?_
        refine k_to (pc' := 79) rfl ?_
        exact k_weak (ih _ _) (And.intro rfl (And.intro rfl (And.intro rfl (And.intro rfl (And.intro rfl True.intro)))))
      · refine k_to (pc' := 110) rfl ?_
        refine k_aload_n dX5_go_110 rfl ?_
        refine k_iload_n dX5_go_111 rfl ?_
        refine k_aload_n dX5_go_112 rfl ?_
        refine k_getR gX5_13 dX5_go_113 ?_
        refine k_iload_n dX5_go_116 rfl ?_
        refine k_iald aM_2 dX5_go_117 ?_
        refine k_iload dX5_go_118 rfl ?_
        refine k_cs3i wadM lkX5_125 (m_X5_with _ _ _ _) (by decide) (Nat.le_of_ble_eq_true rfl) dX5_go_120 (fun r9 S10 => ?_)
        refine k_lload_n dX5_go_123 rfl ?_
        refine k_to (pc' := 124) rfl ?_
        refine k_ldc2 dX5_go_124 klX5_129 ?_
        refine k_ldiv dX5_go_127 ?_
        refine k_iload dX5_go_128 rfl ?_
        refine k_i2l dX5_go_130 ?_
        refine k_lmul dX5_go_131 ?_
        refine k_cv2v wadM lkX5_131 obX5 (m_X5_make _ _ _) (by decide) (Nat.le_of_ble_eq_true rfl) dX5_go_132 (fun r11 S12 => ?_)
        refine k_inc7 dX5_go_135 ci_1 (by decide) rfl ?_
        refine k_goto (tgt := 79) dX5_go_138 (by decide) ?_
        refine k_to (pc' := 79) rfl ?_
        exact k_weak (ih _ _) (And.intro rfl (And.intro rfl (And.intro rfl (And.intro rfl (And.intro rfl True.intro)))))
noncomputable def f_X5_go (x1 : Int32) (x2 : Int32) (x3 : Int64) (S : St) : Option (Unit × St) := (nxt (sI S 20 (0 : Int32)) fun S1 => (nxt (sI S1 21 (x1 + (1 : Int32))) fun S2 => (nxt (sL S2 22 (0 : Int64)) fun S3 => (chk (inB x1 30) (bnd (f_X5_termOf x2 (gA S3 4 (x1).toNatClampNeg) S3) fun r4 S5 => (chk (inB x1 30) (bnd (f_X5_termOf x2 (gA S5 5 (x1).toNatClampNeg) S5) fun r6 S7 => (chk (inB x1 30) (if (gA S7 1 (x1).toNatClampNeg) = 0 then (lp_X5_go_79 x1 x2 x3 FU (0 : Int32) S7) else (if (gA S7 1 (x1).toNatClampNeg) = 1 then (chk (inB x1 30) (chk (inB x1 30) (chk (inB x1 30) (bnd (f_X5_digit x2 (gA S7 2 (x1).toNatClampNeg) S7) fun r13 S14 => (bnd (f_X5_worth (gA S7 3 (x1).toNatClampNeg) r4 r6 r13 S14) fun r15 S16 => (bnd (f_X5_with x2 (gA S7 2 (x1).toNatClampNeg) r15 S16) fun r17 S18 => (bnd (f_X5_make r17 x3 S18) fun r19 S20 => (some ((), S20))))))))) else (if (gA S7 1 (x1).toNatClampNeg) = 2 then (chk (inB x1 30) (bnd (f_X5_holds (gA S7 3 (x1).toNatClampNeg) r4 r6 S7) fun r21 S22 => (if r21 = 0 then (nxt (sL S22 22 x3) fun S23 => (some ((), S23))) else (bnd (f_X5_make x2 x3 S22) fun r24 S25 => (some ((), S25)))))) else (if (gA S7 1 (x1).toNatClampNeg) = 3 then (if r4 ≤ 0 then (nxt (sL S7 22 x3) fun S26 => (some ((), S26))) else (bnd (f_X5_make x2 (x3 * (r4).toInt64) S7) fun r27 S28 => (some ((), S28)))) else (if r4 = 0 then (bnd (f_X5_passed x1 S7) fun r32 S33 => (nxt (sI S33 21 r32) fun S34 => (bnd (f_X5_make x2 x3 S34) fun r35 S36 => (some ((), S36))))) else (nxt (sI S7 21 (x1 + (1 : Int32))) fun S29 => (bnd (f_X5_make x2 x3 S29) fun r30 S31 => (some ((), S31)))))))))))))))))
set_option maxRecDepth 100000 in
set_option maxHeartbeats 4000000 in
theorem w_X5_go (X : Cx) (x1 : Int32) (x2 : Int32) (x3 : Int64) (S : St) : KJ X (cX5_go, RX5, 9, 3, none) wlM jV 0 [some (.ref (xa X 0)), some (.int x1), some (.int x2), some (.long x3), none, none, none, none, none] [] S (f_X5_go x1 x2 x3 S) := by
  unfold f_X5_go
  refine k_aload_n dX5_go_0 rfl ?_
  refine k_iconst dX5_go_1 ci_0 ?_
  refine k_putI pX5_112 dX5_go_2 ?_
  refine k_nxt ?_
  refine k_aload_n dX5_go_5 rfl ?_
  refine k_iload_n dX5_go_6 rfl ?_
  refine k_iconst dX5_go_7 ci_1 ?_
  refine k_iadd dX5_go_8 ?_
  refine k_putI pX5_115 dX5_go_9 ?_
  refine k_nxt ?_
  refine k_aload_n dX5_go_12 rfl ?_
  refine k_to (pc' := 13) rfl ?_
  refine k_lconst dX5_go_13 cl_0 ?_
  refine k_putL pX5_118 dX5_go_14 ?_
  refine k_nxt ?_
  refine k_iload_n dX5_go_17 rfl ?_
  refine k_aload_n dX5_go_18 rfl ?_
  refine k_getR gX5_19 dX5_go_19 ?_
  refine k_iload_n dX5_go_22 rfl ?_
  refine k_iald aM_4 dX5_go_23 ?_
  refine k_cs2i wadM lkX5_122 (m_X5_termOf _ _ _) (by decide) (Nat.le_of_ble_eq_true rfl) dX5_go_24 (fun r4 S5 => ?_)
  refine k_ist5 dX5_go_27 (by decide) rfl ?_
  refine k_iload_n dX5_go_29 rfl ?_
  refine k_to (pc' := 30) rfl ?_
  refine k_aload_n dX5_go_30 rfl ?_
  refine k_getR gX5_22 dX5_go_31 ?_
  refine k_iload_n dX5_go_34 rfl ?_
  refine k_iald aM_5 dX5_go_35 ?_
  refine k_cs2i wadM lkX5_122 (m_X5_termOf _ _ _) (by decide) (Nat.le_of_ble_eq_true rfl) dX5_go_36 (fun r6 S7 => ?_)
  refine k_ist6 dX5_go_39 (by decide) rfl ?_
  refine k_aload_n dX5_go_41 rfl ?_
  refine k_getR gX5_7 dX5_go_42 ?_
  refine k_iload_n dX5_go_45 rfl ?_
  refine k_iald aM_1 dX5_go_46 ?_
  refine k_to (pc' := 47) rfl ?_
  refine k_tin (tgt := 76) (v := 0) dX5_go_47 (by decide) (by decide) rfl (by decide) (fun _ => ?_) (fun t0 => ?_)
  · refine k_iconst dX5_go_76 ci_0 ?_
    refine k_ist7 dX5_go_77 (by decide) rfl ?_
    refine k_to (pc' := 79) rfl ?_
    exact k_weak (wlp_X5_go_79 X _ _ _ FU _ _) (And.intro rfl (And.intro rfl (And.intro rfl (And.intro rfl (And.intro rfl True.intro)))))
  refine k_tin (tgt := 144) (v := 1) dX5_go_47 (by decide) (by decide) rfl (by decide) (fun _ => ?_) (fun t1 => ?_)
  · refine k_aload_n dX5_go_144 rfl ?_
    refine k_iload_n dX5_go_145 rfl ?_
    refine k_aload_n dX5_go_146 rfl ?_
    refine k_getR gX5_13 dX5_go_147 ?_
    refine k_iload_n dX5_go_150 rfl ?_
    refine k_iald aM_2 dX5_go_151 ?_
    refine k_aload_n dX5_go_152 rfl ?_
    refine k_getR gX5_16 dX5_go_153 ?_
    refine k_iload_n dX5_go_156 rfl ?_
    refine k_to (pc' := 157) rfl ?_
    refine k_iald aM_3 dX5_go_157 ?_
    refine k_iload dX5_go_158 rfl ?_
    refine k_iload dX5_go_160 rfl ?_
    refine k_iload_n dX5_go_162 rfl ?_
    refine k_aload_n dX5_go_163 rfl ?_
    refine k_getR gX5_13 dX5_go_164 ?_
    refine k_iload_n dX5_go_167 rfl ?_
    refine k_iald aM_2 dX5_go_168 ?_
    refine k_cs2i wadM lkX5_108 (m_X5_digit _ _ _) (by decide) (Nat.le_of_ble_eq_true rfl) dX5_go_169 (fun r13 S14 => ?_)
    refine k_cs4i wadM lkX5_135 (m_X5_worth _ _ _ _ _) (by decide) (Nat.le_of_ble_eq_true rfl) dX5_go_172 (fun r15 S16 => ?_)
    refine k_to (pc' := 175) rfl ?_
    refine k_cs3i wadM lkX5_125 (m_X5_with _ _ _ _) (by decide) (Nat.le_of_ble_eq_true rfl) dX5_go_175 (fun r17 S18 => ?_)
    refine k_lload_n dX5_go_178 rfl ?_
    refine k_cv2v wadM lkX5_131 obX5 (m_X5_make _ _ _) (by decide) (Nat.le_of_ble_eq_true rfl) dX5_go_179 (fun r19 S20 => ?_)
    refine k_goto (tgt := 270) dX5_go_182 (by decide) ?_
    exact k_vret dX5_go_270
  refine k_tin (tgt := 185) (v := 2) dX5_go_47 (by decide) (by decide) rfl (by decide) (fun _ => ?_) (fun t2 => ?_)
  · refine k_aload_n dX5_go_185 rfl ?_
    refine k_getR gX5_16 dX5_go_186 ?_
    refine k_iload_n dX5_go_189 rfl ?_
    refine k_iald aM_3 dX5_go_190 ?_
    refine k_iload dX5_go_191 rfl ?_
    refine k_iload dX5_go_193 rfl ?_
    refine k_cs3i wadM lkX5_139 (m_X5_holds _ _ _ _) (by decide) (Nat.le_of_ble_eq_true rfl) dX5_go_195 (fun r21 S22 => ?_)
    refine k_if_eq (tgt := 210) dX5_go_198 (by decide) (fun _ => ?_) (fun _ => ?_)
    · refine k_aload_n dX5_go_210 rfl ?_
      refine k_lload_n dX5_go_211 rfl ?_
      refine k_putL pX5_118 dX5_go_212 ?_
      refine k_nxt ?_
      refine k_goto (tgt := 270) dX5_go_215 (by decide) ?_
      exact k_vret dX5_go_270
    · refine k_to (pc' := 201) rfl ?_
      refine k_aload_n dX5_go_201 rfl ?_
      refine k_iload_n dX5_go_202 rfl ?_
      refine k_lload_n dX5_go_203 rfl ?_
      refine k_cv2v wadM lkX5_131 obX5 (m_X5_make _ _ _) (by decide) (Nat.le_of_ble_eq_true rfl) dX5_go_204 (fun r24 S25 => ?_)
      refine k_goto (tgt := 270) dX5_go_207 (by decide) ?_
      exact k_vret dX5_go_270
  refine k_tin (tgt := 218) (v := 3) dX5_go_47 (by decide) (by decide) rfl (by decide) (fun _ => ?_) (fun t3 => ?_)
  · refine k_iload dX5_go_218 rfl ?_
    refine k_if_le (tgt := 236) dX5_go_220 (by decide) (fun _ => ?_) (fun _ => ?_)
    · refine k_aload_n dX5_go_236 rfl ?_
      refine k_lload_n dX5_go_237 rfl ?_
      refine k_putL pX5_118 dX5_go_238 ?_
      refine k_nxt ?_
      refine k_goto (tgt := 270) dX5_go_241 (by decide) ?_
      exact k_vret dX5_go_270
    · refine k_to (pc' := 223) rfl ?_
      refine k_aload_n dX5_go_223 rfl ?_
      refine k_iload_n dX5_go_224 rfl ?_
      refine k_lload_n dX5_go_225 rfl ?_
      refine k_iload dX5_go_226 rfl ?_
      refine k_i2l dX5_go_228 ?_
      refine k_lmul dX5_go_229 ?_
      refine k_cv2v wadM lkX5_131 obX5 (m_X5_make _ _ _) (by decide) (Nat.le_of_ble_eq_true rfl) dX5_go_230 (fun r27 S28 => ?_)
      refine k_goto (tgt := 270) dX5_go_233 (by decide) ?_
      exact k_vret dX5_go_270
  refine k_tout (tgt := 244) dX5_go_47 (tsw_0_3 t0 t1 t2 t3) (by decide) ?_
  refine k_aload_n dX5_go_244 rfl ?_
  refine k_iload dX5_go_245 rfl ?_
  refine k_if_ne (tgt := 258) dX5_go_247 (by decide) (fun _ => ?_) (fun _ => ?_)
  · refine k_iload_n dX5_go_258 rfl ?_
    refine k_iconst dX5_go_259 ci_1 ?_
    refine k_iadd dX5_go_260 ?_
    refine k_putI pX5_115 dX5_go_261 ?_
    refine k_nxt ?_
    refine k_aload_n dX5_go_264 rfl ?_
    refine k_iload_n dX5_go_265 rfl ?_
    refine k_lload_n dX5_go_266 rfl ?_
    refine k_cv2v wadM lkX5_131 obX5 (m_X5_make _ _ _) (by decide) (Nat.le_of_ble_eq_true rfl) dX5_go_267 (fun r30 S31 => ?_)
    exact k_vret dX5_go_270
  · refine k_to (pc' := 250) rfl ?_
    refine k_aload_n dX5_go_250 rfl ?_
    refine k_iload_n dX5_go_251 rfl ?_
    refine k_cv1i wadM lkX5_102 obX5 (m_X5_passed _ _) (by decide) (Nat.le_of_ble_eq_true rfl) dX5_go_252 (fun r32 S33 => ?_)
    refine k_goto (tgt := 261) dX5_go_255 (by decide) ?_
    refine k_putI pX5_115 dX5_go_261 ?_
    refine k_nxt ?_
    refine k_aload_n dX5_go_264 rfl ?_
    refine k_iload_n dX5_go_265 rfl ?_
    refine k_lload_n dX5_go_266 rfl ?_
    refine k_cv2v wadM lkX5_131 obX5 (m_X5_make _ _ _) (by decide) (Nat.le_of_ble_eq_true rfl) dX5_go_267 (fun r35 S36 => ?_)
    refine k_to (pc' := 270) rfl ?_
    exact k_vret dX5_go_270
theorem m_X5_go {l : Launch} {D : va_G} {d : Dt} (x1 : Int32) (x2 : Int32) (x3 : Int64) (S : St) : ∀ (r : Unit) (S' : St), f_X5_go x1 x2 x3 S = some (r, S') → Mt l D d wlM yX5_go cX5_go 9 none 3 [.ref (d.1 0), .int x1, .int x2, .long x3] S (jV r) S' := Mt_of wadM (by decide) (Nat.le_of_ble_eq_true rfl) (fun X hL hd => by subst hd; exact w_X5_go X x1 x2 x3 S)
noncomputable def lp_X5_isUneven_23 (x1 : Int32) (k2 : Int32 → St → Option (Int32 × St)) : Nat → Int32 → Int32 → St → Option (Int32 × St)
  | 0, _, _, _ => none
  | n + 1, x2, x3, S => (if (10 : Int32) ≤ x3 then (if x2 = (60 : Int32) then (k2 (x1 + (1 : Int32)) S) else (some ((1 : Int32), S))) else (chk (inB x1 30) (chk (inB (((10 : Int32) * (gA S 3 (x1).toNatClampNeg)) + x3) 40) (nxt (x2 + (gA S 6 ((((10 : Int32) * (gA S 3 (x1).toNatClampNeg)) + x3)).toNatClampNeg)) fun y1 => (lp_X5_isUneven_23 x1 k2 n y1 (x3 + (1 : Int32)) S)))))
set_option maxRecDepth 100000 in
set_option maxHeartbeats 4000000 in
theorem wlp_X5_isUneven_23 (X : Cx) (x1 : Int32) (k2 : Int32 → St → Option (Int32 × St)) (hk2 : ∀ (x1 : Int32) (S : St), KJ X (cX5_isUneven, RX5, 4, 1, (some .boolean)) wlM jI 2 [some (.ref (xa X 0)), some (.int x1), none, none] [] S (k2 x1 S)) : ∀ (n : Nat) (x2 : Int32) (x3 : Int32) (S : St), KJ X (cX5_isUneven, RX5, 4, 1, (some .boolean)) wlM jI 23 [some (.ref (xa X 0)), some (.int x1), some (.int x2), some (.int x3)] [] S (lp_X5_isUneven_23 x1 k2 n x2 x3 S) := by
  intro n
  induction n with
  | zero => intro x2 x3 S; rw [lp_X5_isUneven_23]; exact k_none
  | succ n ih =>
    intro x2 x3 S
    rw [lp_X5_isUneven_23]
    refine k_iload_n dX5_isUneven_23 rfl ?_
    refine k_bipush dX5_isUneven_24 cb_10 ?_
    refine k_icmp_ge (tgt := 54) dX5_isUneven_26 (by decide) (fun _ => ?_) (fun _ => ?_)
    · refine k_iload_n dX5_isUneven_54 rfl ?_
      refine k_bipush dX5_isUneven_55 cb_60 ?_
      refine k_icmp_eq (tgt := 62) dX5_isUneven_57 (by decide) (fun _ => ?_) (fun _ => ?_)
      · refine k_inc1 dX5_isUneven_62 ci_1 (by decide) rfl ?_
        refine k_goto (tgt := 2) dX5_isUneven_65 (by decide) ?_
        refine k_to (pc' := 2) rfl ?_
        exact k_weak (hk2 _ _) (And.intro rfl (And.intro rfl True.intro))
      · refine k_to (pc' := 60) rfl ?_
        refine k_iconst dX5_isUneven_60 ci_1 ?_
        exact k_zret (Or.inr rfl) dX5_isUneven_61
    · refine k_to (pc' := 29) rfl ?_
      refine k_iload_n dX5_isUneven_29 rfl ?_
      refine k_aload_n dX5_isUneven_30 rfl ?_
      refine k_getR gX5_25 dX5_isUneven_31 ?_
      refine k_bipush dX5_isUneven_34 cb_10 ?_
      refine k_aload_n dX5_isUneven_36 rfl ?_
      refine k_getR gX5_16 dX5_isUneven_37 ?_
      refine k_iload_n dX5_isUneven_40 rfl ?_
      refine k_iald aM_3 dX5_isUneven_41 ?_
      refine k_imul dX5_isUneven_42 ?_
      refine k_to (pc' := 43) rfl ?_
      refine k_iload_n dX5_isUneven_43 rfl ?_
      refine k_iadd dX5_isUneven_44 ?_
      refine k_iald aM_6 dX5_isUneven_45 ?_
      refine k_iadd dX5_isUneven_46 ?_
      refine k_ist_n2 dX5_isUneven_47 (by decide) rfl ?_
      refine k_nxt ?_
      refine k_inc3 dX5_isUneven_48 ci_1 (by decide) rfl ?_
      refine k_goto (tgt := 23) dX5_isUneven_51 (by decide) ?_
      refine k_to (pc' := 23) rfl ?_
      exact k_weak (ih _ _ _) (And.intro rfl (And.intro rfl (And.intro rfl (And.intro rfl True.intro))))
noncomputable def lp_X5_isUneven_2 : Nat → Int32 → St → Option (Int32 × St)
  | 0, _, _ => none
  | n + 1, x1, S => (if (gI S 1) ≤ x1 then (some ((0 : Int32), S)) else (chk (inB x1 30) (if (gA S 1 (x1).toNatClampNeg) = 0 then (lp_X5_isUneven_23 x1 (lp_X5_isUneven_2 n) FU (0 : Int32) (0 : Int32) S) else (lp_X5_isUneven_2 n (x1 + (1 : Int32)) S))))
set_option maxRecDepth 100000 in
set_option maxHeartbeats 4000000 in
theorem wlp_X5_isUneven_2 (X : Cx) : ∀ (n : Nat) (x1 : Int32) (S : St), KJ X (cX5_isUneven, RX5, 4, 1, (some .boolean)) wlM jI 2 [some (.ref (xa X 0)), some (.int x1), none, none] [] S (lp_X5_isUneven_2 n x1 S) := by
  intro n
  induction n with
  | zero => intro x1 S; rw [lp_X5_isUneven_2]; exact k_none
  | succ n ih =>
    intro x1 S
    rw [lp_X5_isUneven_2]
    refine k_iload_n dX5_isUneven_2 rfl ?_
    refine k_aload_n dX5_isUneven_3 rfl ?_
    refine k_getI gX5_73 dX5_isUneven_4 ?_
    refine k_icmp_ge (tgt := 68) dX5_isUneven_7 (by decide) (fun _ => ?_) (fun _ => ?_)
    · refine k_iconst dX5_isUneven_68 ci_0 ?_
      exact k_zret (Or.inl rfl) dX5_isUneven_69
    · refine k_to (pc' := 10) rfl ?_
      refine k_aload_n dX5_isUneven_10 rfl ?_
      refine k_getR gX5_7 dX5_isUneven_11 ?_
      refine k_iload_n dX5_isUneven_14 rfl ?_
      refine k_iald aM_1 dX5_isUneven_15 ?_
      refine k_if_ne (tgt := 62) dX5_isUneven_16 (by decide) (fun _ => ?_) (fun _ => ?_)
      · refine k_inc1 dX5_isUneven_62 ci_1 (by decide) rfl ?_
        refine k_goto (tgt := 2) dX5_isUneven_65 (by decide) ?_
        refine k_to (pc' := 2) rfl ?_
        exact k_weak (ih _ _) (And.intro rfl (And.intro rfl True.intro))
      · refine k_to (pc' := 19) rfl ?_
        refine k_iconst dX5_isUneven_19 ci_0 ?_
        refine k_ist_n2 dX5_isUneven_20 (by decide) rfl ?_
        refine k_iconst dX5_isUneven_21 ci_0 ?_
        refine k_ist_n3 dX5_isUneven_22 (by decide) rfl ?_
        refine k_to (pc' := 23) rfl ?_
        exact k_weak (wlp_X5_isUneven_23 X _ _ ih FU _ _ _) (And.intro rfl (And.intro rfl (And.intro rfl (And.intro rfl True.intro))))
noncomputable def f_X5_isUneven (S : St) : Option (Int32 × St) := (lp_X5_isUneven_2 FU (0 : Int32) S)
set_option maxRecDepth 100000 in
set_option maxHeartbeats 4000000 in
theorem w_X5_isUneven (X : Cx) (S : St) : KJ X (cX5_isUneven, RX5, 4, 1, (some .boolean)) wlM jI 0 [some (.ref (xa X 0)), none, none, none] [] S (f_X5_isUneven S) := by
  unfold f_X5_isUneven
  refine k_iconst dX5_isUneven_0 ci_0 ?_
  refine k_ist_n1 dX5_isUneven_1 (by decide) rfl ?_
  refine k_to (pc' := 2) rfl ?_
  exact k_weak (wlp_X5_isUneven_2 X FU _ _) (And.intro rfl (And.intro rfl True.intro))
theorem m_X5_isUneven {l : Launch} {D : va_G} {d : Dt} (S : St) : ∀ (r : Int32) (S' : St), f_X5_isUneven S = some (r, S') → Mt l D d wlM yX5_isUneven cX5_isUneven 4 (some .boolean) 1 [.ref (d.1 0)] S (jI r) S' := Mt_of wadM (by decide) (Nat.le_of_ble_eq_true rfl) (fun X hL hd => by subst hd; exact w_X5_isUneven X S)
noncomputable def lp_X5_found_2 (x1 : Int32) (x2 : Int32) : Nat → Int32 → St → Option (Int32 × St)
  | 0, _, _ => none
  | n + 1, x3, S => (chk (inB x1 31) (if (gA S 8 (x1).toNatClampNeg) ≤ x3 then (some (x3, S)) else (chk (inB (((200 : Int32) * x1) + x3) 6200) (if x2 ≤ (gA S 11 ((((200 : Int32) * x1) + x3)).toNatClampNeg) then (some (x3, S)) else (lp_X5_found_2 x1 x2 n (x3 + (1 : Int32)) S)))))
set_option maxRecDepth 100000 in
set_option maxHeartbeats 4000000 in
theorem wlp_X5_found_2 (X : Cx) (x1 : Int32) (x2 : Int32) : ∀ (n : Nat) (x3 : Int32) (S : St), KJ X (cX5_found, RX5, 4, 1, (some .int)) wlM jI 2 [some (.ref (xa X 0)), some (.int x1), some (.int x2), some (.int x3)] [] S (lp_X5_found_2 x1 x2 n x3 S) := by
  intro n
  induction n with
  | zero => intro x3 S; rw [lp_X5_found_2]; exact k_none
  | succ n ih =>
    intro x3 S
    rw [lp_X5_found_2]
    refine k_iload_n dX5_found_2 rfl ?_
    refine k_aload_n dX5_found_3 rfl ?_
    refine k_getR gX5_32 dX5_found_4 ?_
    refine k_iload_n dX5_found_7 rfl ?_
    refine k_iald aM_8 dX5_found_8 ?_
    refine k_icmp_ge (tgt := 34) dX5_found_9 (by decide) (fun _ => ?_) (fun _ => ?_)
    · refine k_iload_n dX5_found_34 rfl ?_
      exact k_iret dX5_found_35
    · refine k_to (pc' := 12) rfl ?_
      refine k_aload_n dX5_found_12 rfl ?_
      refine k_getR gX5_41 dX5_found_13 ?_
      refine k_sipush dX5_found_16 cs_200 ?_
      refine k_iload_n dX5_found_19 rfl ?_
      refine k_imul dX5_found_20 ?_
      refine k_iload_n dX5_found_21 rfl ?_
      refine k_iadd dX5_found_22 ?_
      refine k_iald aM_11 dX5_found_23 ?_
      refine k_iload_n dX5_found_24 rfl ?_
      refine k_to (pc' := 25) rfl ?_
      refine k_icmp_ge (tgt := 34) dX5_found_25 (by decide) (fun _ => ?_) (fun _ => ?_)
      · refine k_iload_n dX5_found_34 rfl ?_
        exact k_iret dX5_found_35
      · refine k_to (pc' := 28) rfl ?_
        refine k_inc3 dX5_found_28 ci_1 (by decide) rfl ?_
        refine k_goto (tgt := 2) dX5_found_31 (by decide) ?_
        refine k_to (pc' := 2) rfl ?_
        exact k_weak (ih _ _) (And.intro rfl (And.intro rfl (And.intro rfl (And.intro rfl True.intro))))
noncomputable def f_X5_found (x1 : Int32) (x2 : Int32) (S : St) : Option (Int32 × St) := (lp_X5_found_2 x1 x2 FU (0 : Int32) S)
set_option maxRecDepth 100000 in
set_option maxHeartbeats 4000000 in
theorem w_X5_found (X : Cx) (x1 : Int32) (x2 : Int32) (S : St) : KJ X (cX5_found, RX5, 4, 1, (some .int)) wlM jI 0 [some (.ref (xa X 0)), some (.int x1), some (.int x2), none] [] S (f_X5_found x1 x2 S) := by
  unfold f_X5_found
  refine k_iconst dX5_found_0 ci_0 ?_
  refine k_ist_n3 dX5_found_1 (by decide) rfl ?_
  refine k_to (pc' := 2) rfl ?_
  exact k_weak (wlp_X5_found_2 X _ _ FU _ _) (And.intro rfl (And.intro rfl (And.intro rfl (And.intro rfl True.intro))))
theorem m_X5_found {l : Launch} {D : va_G} {d : Dt} (x1 : Int32) (x2 : Int32) (S : St) : ∀ (r : Int32) (S' : St), f_X5_found x1 x2 S = some (r, S') → Mt l D d wlM yX5_found cX5_found 4 (some .int) 1 [.ref (d.1 0), .int x1, .int x2] S (jI r) S' := Mt_of wadM (by decide) (Nat.le_of_ble_eq_true rfl) (fun X hL hd => by subst hd; exact w_X5_found X x1 x2 S)
noncomputable def f_X5_isThere (x1 : Int32) (x2 : Int32) (S : St) : Option (Int32 × St) := (bnd (f_X5_found x1 x2 S) fun r1 S2 => (chk (inB x1 31) (if (gA S2 8 (x1).toNatClampNeg) ≤ r1 then (some ((0 : Int32), S2)) else (chk (inB (((200 : Int32) * x1) + r1) 6200) (if (gA S2 11 ((((200 : Int32) * x1) + r1)).toNatClampNeg) = x2 then (some ((1 : Int32), S2)) else (some ((0 : Int32), S2)))))))
set_option maxRecDepth 100000 in
set_option maxHeartbeats 4000000 in
theorem w_X5_isThere (X : Cx) (x1 : Int32) (x2 : Int32) (S : St) : KJ X (cX5_isThere, RX5, 4, 2, (some .boolean)) wlM jI 0 [some (.ref (xa X 0)), some (.int x1), some (.int x2), none] [] S (f_X5_isThere x1 x2 S) := by
  unfold f_X5_isThere
  refine k_aload_n dX5_isThere_0 rfl ?_
  refine k_iload_n dX5_isThere_1 rfl ?_
  refine k_iload_n dX5_isThere_2 rfl ?_
  refine k_cv2i wadM lkX5_158 obX5 (m_X5_found _ _ _) (by decide) (Nat.le_of_ble_eq_true rfl) dX5_isThere_3 (fun r1 S2 => ?_)
  refine k_ist_n3 dX5_isThere_6 (by decide) rfl ?_
  refine k_iload_n dX5_isThere_7 rfl ?_
  refine k_aload_n dX5_isThere_8 rfl ?_
  refine k_getR gX5_32 dX5_isThere_9 ?_
  refine k_iload_n dX5_isThere_12 rfl ?_
  refine k_to (pc' := 13) rfl ?_
  refine k_iald aM_8 dX5_isThere_13 ?_
  refine k_icmp_ge (tgt := 37) dX5_isThere_14 (by decide) (fun _ => ?_) (fun _ => ?_)
  · refine k_iconst dX5_isThere_37 ci_0 ?_
    exact k_zret (Or.inl rfl) dX5_isThere_38
  · refine k_to (pc' := 17) rfl ?_
    refine k_aload_n dX5_isThere_17 rfl ?_
    refine k_getR gX5_41 dX5_isThere_18 ?_
    refine k_sipush dX5_isThere_21 cs_200 ?_
    refine k_iload_n dX5_isThere_24 rfl ?_
    refine k_imul dX5_isThere_25 ?_
    refine k_iload_n dX5_isThere_26 rfl ?_
    refine k_iadd dX5_isThere_27 ?_
    refine k_iald aM_11 dX5_isThere_28 ?_
    refine k_iload_n dX5_isThere_29 rfl ?_
    refine k_to (pc' := 30) rfl ?_
    refine k_icmp_ne (tgt := 37) dX5_isThere_30 (by decide) (fun _ => ?_) (fun _ => ?_)
    · refine k_iconst dX5_isThere_37 ci_0 ?_
      exact k_zret (Or.inl rfl) dX5_isThere_38
    · refine k_to (pc' := 33) rfl ?_
      refine k_iconst dX5_isThere_33 ci_1 ?_
      refine k_goto (tgt := 38) dX5_isThere_34 (by decide) ?_
      exact k_zret (Or.inr rfl) dX5_isThere_38
theorem m_X5_isThere {l : Launch} {D : va_G} {d : Dt} (x1 : Int32) (x2 : Int32) (S : St) : ∀ (r : Int32) (S' : St), f_X5_isThere x1 x2 S = some (r, S') → Mt l D d wlM yX5_isThere cX5_isThere 4 (some .boolean) 2 [.ref (d.1 0), .int x1, .int x2] S (jI r) S' := Mt_of wadM (by decide) (Nat.le_of_ble_eq_true rfl) (fun X hL hd => by subst hd; exact w_X5_isThere X x1 x2 S)
noncomputable def lp_X5_come_63 (x1 : Int32) (x2 : Int32) (x3 : Int64) (x5 : Int32) : Nat → Int32 → St → Option (Unit × St)
  | 0, _, _ => none
  | n + 1, x6, S => (if x6 ≤ x5 then (chk (inB (((200 : Int32) * x1) + x5) 6200) (nxt (sA S 11 (upd (gA S 11) ((((200 : Int32) * x1) + x5)).toNatClampNeg x2)) fun S7 => (chk (inB (((200 : Int32) * x1) + x5) 6200) (nxt (sB S7 12 (vp_updL (gB S7 12) ((((200 : Int32) * x1) + x5)).toNatClampNeg x3)) fun S8 => (chk (inB x1 31) (chk (inB x1 31) (nxt (sA S8 8 (upd (gA S8 8) (x1).toNatClampNeg ((gA S8 8 (x1).toNatClampNeg) + (1 : Int32)))) fun S9 => (some ((), S9))))))))) else (chk (inB ((((200 : Int32) * x1) + x6) - (1 : Int32)) 6200) (chk (inB (((200 : Int32) * x1) + x6) 6200) (nxt (sA S 11 (upd (gA S 11) ((((200 : Int32) * x1) + x6)).toNatClampNeg (gA S 11 (((((200 : Int32) * x1) + x6) - (1 : Int32))).toNatClampNeg))) fun S10 => (chk (inB ((((200 : Int32) * x1) + x6) - (1 : Int32)) 6200) (chk (inB (((200 : Int32) * x1) + x6) 6200) (nxt (sB S10 12 (vp_updL (gB S10 12) ((((200 : Int32) * x1) + x6)).toNatClampNeg (gB S10 12 (((((200 : Int32) * x1) + x6) - (1 : Int32))).toNatClampNeg))) fun S11 => (lp_X5_come_63 x1 x2 x3 x5 n (x6 + (-1 : Int32)) S11))))))))
set_option maxRecDepth 100000 in
set_option maxHeartbeats 4000000 in
theorem wlp_X5_come_63 (X : Cx) (x1 : Int32) (x2 : Int32) (x3 : Int64) (x5 : Int32) : ∀ (n : Nat) (x6 : Int32) (S : St), KJ X (cX5_come, RX5, 7, 3, none) wlM jV 63 [some (.ref (xa X 0)), some (.int x1), some (.int x2), some (.long x3), none, some (.int x5), some (.int x6)] [] S (lp_X5_come_63 x1 x2 x3 x5 n x6 S) := by
  intro n
  induction n with
  | zero => intro x6 S; rw [lp_X5_come_63]; exact k_none
  | succ n ih =>
    intro x6 S
    rw [lp_X5_come_63]
    refine k_iload dX5_come_63 rfl ?_
    refine k_iload dX5_come_65 rfl ?_
    refine k_icmp_le (tgt := 132) dX5_come_67 (by decide) (fun _ => ?_) (fun _ => ?_)
    · refine k_aload_n dX5_come_132 rfl ?_
      refine k_getR gX5_41 dX5_come_133 ?_
      refine k_sipush dX5_come_136 cs_200 ?_
      refine k_iload_n dX5_come_139 rfl ?_
      refine k_imul dX5_come_140 ?_
      refine k_iload dX5_come_141 rfl ?_
      refine k_iadd dX5_come_143 ?_
      refine k_iload_n dX5_come_144 rfl ?_
      refine k_iast aM_11 dX5_come_145 ?_
      refine k_nxt ?_
      refine k_to (pc' := 146) rfl ?_
      refine k_aload_n dX5_come_146 rfl ?_
      refine k_getR gX5_44 dX5_come_147 ?_
      refine k_sipush dX5_come_150 cs_200 ?_
      refine k_iload_n dX5_come_153 rfl ?_
      refine k_imul dX5_come_154 ?_
      refine k_iload dX5_come_155 rfl ?_
      refine k_iadd dX5_come_157 ?_
      refine k_lload_n dX5_come_158 rfl ?_
      refine k_last aM_12 dX5_come_159 ?_
      refine k_nxt ?_
      refine k_aload_n dX5_come_160 rfl ?_
      refine k_to (pc' := 161) rfl ?_
      refine k_getR gX5_32 dX5_come_161 ?_
      refine k_iload_n dX5_come_164 rfl ?_
      refine k_dup2 dX5_come_165 rfl rfl ?_
      refine k_iald aM_8 dX5_come_166 ?_
      refine k_iconst dX5_come_167 ci_1 ?_
      refine k_iadd dX5_come_168 ?_
      refine k_iast aM_8 dX5_come_169 ?_
      refine k_nxt ?_
      exact k_vret dX5_come_170
    · refine k_to (pc' := 70) rfl ?_
      refine k_aload_n dX5_come_70 rfl ?_
      refine k_getR gX5_41 dX5_come_71 ?_
      refine k_sipush dX5_come_74 cs_200 ?_
      refine k_iload_n dX5_come_77 rfl ?_
      refine k_imul dX5_come_78 ?_
      refine k_iload dX5_come_79 rfl ?_
      refine k_iadd dX5_come_81 ?_
      refine k_aload_n dX5_come_82 rfl ?_
      refine k_getR gX5_41 dX5_come_83 ?_
      refine k_to (pc' := 86) rfl ?_
      refine k_sipush dX5_come_86 cs_200 ?_
      refine k_iload_n dX5_come_89 rfl ?_
      refine k_imul dX5_come_90 ?_
      refine k_iload dX5_come_91 rfl ?_
      refine k_iadd dX5_come_93 ?_
      refine k_iconst dX5_come_94 ci_1 ?_
      refine k_isub dX5_come_95 ?_
      refine k_iald aM_11 dX5_come_96 ?_
      refine k_iast aM_11 dX5_come_97 ?_
      refine k_nxt ?_
      refine k_aload_n dX5_come_98 rfl ?_
      refine k_to (pc' := 99) rfl ?_
      refine k_getR gX5_44 dX5_come_99 ?_
      refine k_sipush dX5_come_102 cs_200 ?_
      refine k_iload_n dX5_come_105 rfl ?_
      refine k_imul dX5_come_106 ?_
      refine k_iload dX5_come_107 rfl ?_
      refine k_iadd dX5_come_109 ?_
      refine k_aload_n dX5_come_110 rfl ?_
      refine k_getR gX5_44 dX5_come_111 ?_
      refine k_sipush dX5_come_114 cs_200 ?_
      refine k_iload_n dX5_come_117 rfl ?_
      refine k_to (pc' := 118) rfl ?_
      refine k_imul dX5_come_118 ?_
      refine k_iload dX5_come_119 rfl ?_
      refine k_iadd dX5_come_121 ?_
      refine k_iconst dX5_come_122 ci_1 ?_
      refine k_isub dX5_come_123 ?_
      refine k_lald aM_12 dX5_come_124 ?_
      refine k_last aM_12 dX5_come_125 ?_
      refine k_nxt ?_
      refine k_inc6 dX5_come_126 ci_m1 (by decide) rfl ?_
      refine k_goto (tgt := 63) dX5_come_129 (by decide) ?_
      refine k_to (pc' := 63) rfl ?_
      exact k_weak (ih _ _) (And.intro rfl (And.intro rfl (And.intro rfl (And.intro rfl (And.intro rfl (And.intro rfl True.intro))))))
noncomputable def f_X5_come (x1 : Int32) (x2 : Int32) (x3 : Int64) (S : St) : Option (Unit × St) := (chk (inB x1 31) (chk (inB x1 31) (nxt (sA S 9 (upd (gA S 9) (x1).toNatClampNeg ((gA S 9 (x1).toNatClampNeg) + (1 : Int32)))) fun S1 => (bnd (f_X5_found x1 x2 S1) fun r2 S3 => (bnd (f_X5_isThere x1 x2 S3) fun r4 S5 => (if r4 = 0 then (chk (inB x1 31) (nxt (gA S5 8 (x1).toNatClampNeg) fun y6 => (lp_X5_come_63 x1 x2 x3 r2 FU y6 S5))) else (chk (inB x1 31) (chk (inB x1 31) (nxt (sA S5 10 (upd (gA S5 10) (x1).toNatClampNeg ((gA S5 10 (x1).toNatClampNeg) + (1 : Int32)))) fun S12 => (chk (inB (((200 : Int32) * x1) + r2) 6200) (chk (inB (((200 : Int32) * x1) + r2) 6200) (nxt (sB S12 12 (vp_updL (gB S12 12) ((((200 : Int32) * x1) + r2)).toNatClampNeg ((gB S12 12 ((((200 : Int32) * x1) + r2)).toNatClampNeg) + x3))) fun S13 => (some ((), S13))))))))))))))
set_option maxRecDepth 100000 in
set_option maxHeartbeats 4000000 in
theorem w_X5_come (X : Cx) (x1 : Int32) (x2 : Int32) (x3 : Int64) (S : St) : KJ X (cX5_come, RX5, 7, 3, none) wlM jV 0 [some (.ref (xa X 0)), some (.int x1), some (.int x2), some (.long x3), none, none, none] [] S (f_X5_come x1 x2 x3 S) := by
  unfold f_X5_come
  refine k_aload_n dX5_come_0 rfl ?_
  refine k_getR gX5_35 dX5_come_1 ?_
  refine k_iload_n dX5_come_4 rfl ?_
  refine k_dup2 dX5_come_5 rfl rfl ?_
  refine k_iald aM_9 dX5_come_6 ?_
  refine k_iconst dX5_come_7 ci_1 ?_
  refine k_iadd dX5_come_8 ?_
  refine k_iast aM_9 dX5_come_9 ?_
  refine k_nxt ?_
  refine k_aload_n dX5_come_10 rfl ?_
  refine k_to (pc' := 11) rfl ?_
  refine k_iload_n dX5_come_11 rfl ?_
  refine k_iload_n dX5_come_12 rfl ?_
  refine k_cv2i wadM lkX5_158 obX5 (m_X5_found _ _ _) (by decide) (Nat.le_of_ble_eq_true rfl) dX5_come_13 (fun r2 S3 => ?_)
  refine k_ist5 dX5_come_16 (by decide) rfl ?_
  refine k_aload_n dX5_come_18 rfl ?_
  refine k_iload_n dX5_come_19 rfl ?_
  refine k_iload_n dX5_come_20 rfl ?_
  refine k_cv2i wadM lkX5_161 obX5 (m_X5_isThere _ _ _) (by decide) (Nat.le_of_ble_eq_true rfl) dX5_come_21 (fun r4 S5 => ?_)
  refine k_if_eq (tgt := 55) dX5_come_24 (by decide) (fun _ => ?_) (fun _ => ?_)
  · refine k_aload_n dX5_come_55 rfl ?_
    refine k_getR gX5_32 dX5_come_56 ?_
    refine k_iload_n dX5_come_59 rfl ?_
    refine k_iald aM_8 dX5_come_60 ?_
    refine k_ist6 dX5_come_61 (by decide) rfl ?_
    refine k_nxt ?_
    refine k_to (pc' := 63) rfl ?_
    exact k_weak (wlp_X5_come_63 X _ _ _ _ FU _ _) (And.intro rfl (And.intro rfl (And.intro rfl (And.intro rfl (And.intro rfl (And.intro rfl True.intro))))))
  · refine k_to (pc' := 27) rfl ?_
    refine k_aload_n dX5_come_27 rfl ?_
    refine k_getR gX5_38 dX5_come_28 ?_
    refine k_iload_n dX5_come_31 rfl ?_
    refine k_dup2 dX5_come_32 rfl rfl ?_
    refine k_iald aM_10 dX5_come_33 ?_
    refine k_iconst dX5_come_34 ci_1 ?_
    refine k_iadd dX5_come_35 ?_
    refine k_iast aM_10 dX5_come_36 ?_
    refine k_nxt ?_
    refine k_aload_n dX5_come_37 rfl ?_
    refine k_to (pc' := 38) rfl ?_
    refine k_getR gX5_44 dX5_come_38 ?_
    refine k_sipush dX5_come_41 cs_200 ?_
    refine k_iload_n dX5_come_44 rfl ?_
    refine k_imul dX5_come_45 ?_
    refine k_iload dX5_come_46 rfl ?_
    refine k_iadd dX5_come_48 ?_
    refine k_dup2 dX5_come_49 rfl rfl ?_
    refine k_lald aM_12 dX5_come_50 ?_
    refine k_lload_n dX5_come_51 rfl ?_
    refine k_ladd dX5_come_52 ?_
    refine k_to (pc' := 53) rfl ?_
    refine k_last aM_12 dX5_come_53 ?_
    refine k_nxt ?_
    exact k_vret dX5_come_54
theorem m_X5_come {l : Launch} {D : va_G} {d : Dt} (x1 : Int32) (x2 : Int32) (x3 : Int64) (S : St) : ∀ (r : Unit) (S' : St), f_X5_come x1 x2 x3 S = some (r, S') → Mt l D d wlM yX5_come cX5_come 7 none 3 [.ref (d.1 0), .int x1, .int x2, .long x3] S (jV r) S' := Mt_of wadM (by decide) (Nat.le_of_ble_eq_true rfl) (fun X hL hd => by subst hd; exact w_X5_come X x1 x2 x3 S)
noncomputable def lp_X5_begin_17 : Nat → Int32 → St → Option (Int32 × St)
  | 0, _, _ => none
  | n + 1, x1, S => (if (30 : Int32) < x1 then (bnd (f_X5_liven S) fun r4 S5 => (nxt (sI S5 11 (1 : Int32)) fun S6 => (nxt (sI S6 12 (0 : Int32)) fun S7 => (nxt (sL S7 13 (0 : Int64)) fun S8 => (bnd (f_X5_come (0 : Int32) (0 : Int32) (167961600000000 : Int64) S8) fun r9 S10 => (some ((1 : Int32), S10))))))) else (chk (inB x1 31) (nxt (sA S 8 (upd (gA S 8) (x1).toNatClampNeg (0 : Int32))) fun S11 => (chk (inB x1 31) (nxt (sA S11 9 (upd (gA S11 9) (x1).toNatClampNeg (0 : Int32))) fun S12 => (chk (inB x1 31) (nxt (sA S12 10 (upd (gA S12 10) (x1).toNatClampNeg (0 : Int32))) fun S13 => (lp_X5_begin_17 n (x1 + (1 : Int32)) S13))))))))
set_option maxRecDepth 100000 in
set_option maxHeartbeats 4000000 in
theorem wlp_X5_begin_17 (X : Cx) : ∀ (n : Nat) (x1 : Int32) (S : St), KJ X (cX5_begin, RX5, 2, 4, (some .int)) wlM jI 17 [some (.ref (xa X 0)), some (.int x1)] [] S (lp_X5_begin_17 n x1 S) := by
  intro n
  induction n with
  | zero => intro x1 S; rw [lp_X5_begin_17]; exact k_none
  | succ n ih =>
    intro x1 S
    rw [lp_X5_begin_17]
    refine k_iload_n dX5_begin_17 rfl ?_
    refine k_bipush dX5_begin_18 cb_30 ?_
    refine k_icmp_gt (tgt := 50) dX5_begin_20 (by decide) (fun _ => ?_) (fun _ => ?_)
    · refine k_aload_n dX5_begin_50 rfl ?_
      refine k_cv0v wadM lkX5_105 obX5 (m_X5_liven _) (by decide) (Nat.le_of_ble_eq_true rfl) dX5_begin_51 (fun r4 S5 => ?_)
      refine k_aload_n dX5_begin_54 rfl ?_
      refine k_iconst dX5_begin_55 ci_1 ?_
      refine k_putZ pX5_82 (Or.inr rfl) dX5_begin_56 ?_
      refine k_nxt ?_
      refine k_aload_n dX5_begin_59 rfl ?_
      refine k_iconst dX5_begin_60 ci_0 ?_
      refine k_putI pX5_146 dX5_begin_61 ?_
      refine k_nxt ?_
      refine k_aload_n dX5_begin_64 rfl ?_
      refine k_to (pc' := 65) rfl ?_
      refine k_lconst dX5_begin_65 cl_0 ?_
      refine k_putL pX5_149 dX5_begin_66 ?_
      refine k_nxt ?_
      refine k_aload_n dX5_begin_69 rfl ?_
      refine k_iconst dX5_begin_70 ci_0 ?_
      refine k_iconst dX5_begin_71 ci_0 ?_
      refine k_ldc2 dX5_begin_72 klX5_152 ?_
      refine k_cv3v wadM lkX5_154 obX5 (m_X5_come _ _ _ _) (by decide) (Nat.le_of_ble_eq_true rfl) dX5_begin_75 (fun r9 S10 => ?_)
      refine k_iconst dX5_begin_78 ci_1 ?_
      exact k_iret dX5_begin_79
    · refine k_to (pc' := 23) rfl ?_
      refine k_aload_n dX5_begin_23 rfl ?_
      refine k_getR gX5_32 dX5_begin_24 ?_
      refine k_iload_n dX5_begin_27 rfl ?_
      refine k_iconst dX5_begin_28 ci_0 ?_
      refine k_iast aM_8 dX5_begin_29 ?_
      refine k_nxt ?_
      refine k_aload_n dX5_begin_30 rfl ?_
      refine k_getR gX5_35 dX5_begin_31 ?_
      refine k_iload_n dX5_begin_34 rfl ?_
      refine k_iconst dX5_begin_35 ci_0 ?_
      refine k_to (pc' := 36) rfl ?_
      refine k_iast aM_9 dX5_begin_36 ?_
      refine k_nxt ?_
      refine k_aload_n dX5_begin_37 rfl ?_
      refine k_getR gX5_38 dX5_begin_38 ?_
      refine k_iload_n dX5_begin_41 rfl ?_
      refine k_iconst dX5_begin_42 ci_0 ?_
      refine k_iast aM_10 dX5_begin_43 ?_
      refine k_nxt ?_
      refine k_inc1 dX5_begin_44 ci_1 (by decide) rfl ?_
      refine k_goto (tgt := 17) dX5_begin_47 (by decide) ?_
      refine k_to (pc' := 17) rfl ?_
      exact k_weak (ih _ _) (And.intro rfl (And.intro rfl True.intro))
noncomputable def f_X5_begin (S : St) : Option (Int32 × St) := (nxt (sI S 0 (0 : Int32)) fun S1 => (bnd (f_X5_isUneven S1) fun r2 S3 => (if r2 = 0 then (lp_X5_begin_17 FU (0 : Int32) S3) else (some ((-4 : Int32), S3)))))
set_option maxRecDepth 100000 in
set_option maxHeartbeats 4000000 in
theorem w_X5_begin (X : Cx) (S : St) : KJ X (cX5_begin, RX5, 2, 4, (some .int)) wlM jI 0 [some (.ref (xa X 0)), none] [] S (f_X5_begin S) := by
  unfold f_X5_begin
  refine k_aload_n dX5_begin_0 rfl ?_
  refine k_iconst dX5_begin_1 ci_0 ?_
  refine k_putI pX5_69 dX5_begin_2 ?_
  refine k_nxt ?_
  refine k_aload_n dX5_begin_5 rfl ?_
  refine k_cv0i wadM lkX5_142 obX5 (m_X5_isUneven _) (by decide) (Nat.le_of_ble_eq_true rfl) dX5_begin_6 (fun r2 S3 => ?_)
  refine k_if_eq (tgt := 15) dX5_begin_9 (by decide) (fun _ => ?_) (fun _ => ?_)
  · refine k_iconst dX5_begin_15 ci_0 ?_
    refine k_ist_n1 dX5_begin_16 (by decide) rfl ?_
    refine k_to (pc' := 17) rfl ?_
    exact k_weak (wlp_X5_begin_17 X FU _ _) (And.intro rfl (And.intro rfl True.intro))
  · refine k_to (pc' := 12) rfl ?_
    refine k_bipush dX5_begin_12 cb_m4 ?_
    exact k_iret dX5_begin_14
theorem m_X5_begin {l : Launch} {D : va_G} {d : Dt} (S : St) : ∀ (r : Int32) (S' : St), f_X5_begin S = some (r, S') → Mt l D d wlM yX5_begin cX5_begin 2 (some .int) 4 [.ref (d.1 0)] S (jI r) S' := Mt_of wadM (by decide) (Nat.le_of_ble_eq_true rfl) (fun X hL hd => by subst hd; exact w_X5_begin X S)
noncomputable def lp_X5_cut_5 (x2 : Int32) : Nat → Int32 → Int32 → St → Option (Int32 × St)
  | 0, _, _, _ => none
  | n + 1, x3, x4, S => (if (6 : Int32) ≤ x4 then (some (x3, S)) else (chk (inB x2 31) (if (((gA S 13 (x2).toNatClampNeg) >>> (x4 &&& 31)) &&& (1 : Int32)) = (1 : Int32) then (lp_X5_cut_5 x2 n x3 (x4 + (1 : Int32)) S) else (bnd (f_X5_with x3 x4 (0 : Int32) S) fun r1 S2 => (lp_X5_cut_5 x2 n r1 (x4 + (1 : Int32)) S2)))))
set_option maxRecDepth 100000 in
set_option maxHeartbeats 4000000 in
theorem wlp_X5_cut_5 (X : Cx) (x2 : Int32) : ∀ (n : Nat) (x3 : Int32) (x4 : Int32) (S : St), KJ X (cX5_cut, RX5, 5, 3, (some .int)) wlM jI 5 [some (.ref (xa X 0)), none, some (.int x2), some (.int x3), some (.int x4)] [] S (lp_X5_cut_5 x2 n x3 x4 S) := by
  intro n
  induction n with
  | zero => intro x3 x4 S; rw [lp_X5_cut_5]; exact k_none
  | succ n ih =>
    intro x3 x4 S
    rw [lp_X5_cut_5]
    refine k_iload dX5_cut_5 rfl ?_
    refine k_bipush dX5_cut_7 cb_6 ?_
    refine k_icmp_ge (tgt := 45) dX5_cut_9 (by decide) (fun _ => ?_) (fun _ => ?_)
    · refine k_iload_n dX5_cut_45 rfl ?_
      exact k_iret dX5_cut_46
    · refine k_to (pc' := 12) rfl ?_
      refine k_aload_n dX5_cut_12 rfl ?_
      refine k_getR gX5_48 dX5_cut_13 ?_
      refine k_iload_n dX5_cut_16 rfl ?_
      refine k_iald aM_13 dX5_cut_17 ?_
      refine k_iload dX5_cut_18 rfl ?_
      refine k_ishr dX5_cut_20 ?_
      refine k_iconst dX5_cut_21 ci_1 ?_
      refine k_iand dX5_cut_22 ?_
      refine k_iconst dX5_cut_23 ci_1 ?_
      refine k_to (pc' := 24) rfl ?_
      refine k_icmp_ne (tgt := 31) dX5_cut_24 (by decide) (fun _ => ?_) (fun _ => ?_)
      · refine k_iload_n dX5_cut_31 rfl ?_
        refine k_iload dX5_cut_32 rfl ?_
        refine k_iconst dX5_cut_34 ci_0 ?_
        refine k_cs3i wadM lkX5_125 (m_X5_with _ _ _ _) (by decide) (Nat.le_of_ble_eq_true rfl) dX5_cut_35 (fun r1 S2 => ?_)
        refine k_ist_n3 dX5_cut_38 (by decide) rfl ?_
        refine k_inc4 dX5_cut_39 ci_1 (by decide) rfl ?_
        refine k_goto (tgt := 5) dX5_cut_42 (by decide) ?_
        refine k_to (pc' := 5) rfl ?_
        exact k_weak (ih _ _ _) (And.intro rfl (And.intro rfl (And.intro rfl (And.intro rfl True.intro))))
      · refine k_to (pc' := 27) rfl ?_
        refine k_iload_n dX5_cut_27 rfl ?_
        refine k_goto (tgt := 38) dX5_cut_28 (by decide) ?_
        refine k_ist_n3 dX5_cut_38 (by decide) rfl ?_
        refine k_inc4 dX5_cut_39 ci_1 (by decide) rfl ?_
        refine k_goto (tgt := 5) dX5_cut_42 (by decide) ?_
        refine k_to (pc' := 5) rfl ?_
        exact k_weak (ih _ _ _) (And.intro rfl (And.intro rfl (And.intro rfl (And.intro rfl True.intro))))
noncomputable def f_X5_cut (x1 : Int32) (x2 : Int32) (S : St) : Option (Int32 × St) := (lp_X5_cut_5 x2 FU x1 (0 : Int32) S)
set_option maxRecDepth 100000 in
set_option maxHeartbeats 4000000 in
theorem w_X5_cut (X : Cx) (x1 : Int32) (x2 : Int32) (S : St) : KJ X (cX5_cut, RX5, 5, 3, (some .int)) wlM jI 0 [some (.ref (xa X 0)), some (.int x1), some (.int x2), none, none] [] S (f_X5_cut x1 x2 S) := by
  unfold f_X5_cut
  refine k_iload_n dX5_cut_0 rfl ?_
  refine k_ist_n3 dX5_cut_1 (by decide) rfl ?_
  refine k_iconst dX5_cut_2 ci_0 ?_
  refine k_ist4 dX5_cut_3 (by decide) rfl ?_
  refine k_to (pc' := 5) rfl ?_
  exact k_weak (wlp_X5_cut_5 X _ FU _ _ _) (And.intro rfl (And.intro rfl (And.intro rfl (And.intro rfl True.intro))))
theorem m_X5_cut {l : Launch} {D : va_G} {d : Dt} (x1 : Int32) (x2 : Int32) (S : St) : ∀ (r : Int32) (S' : St), f_X5_cut x1 x2 S = some (r, S') → Mt l D d wlM yX5_cut cX5_cut 5 (some .int) 3 [.ref (d.1 0), .int x1, .int x2] S (jI r) S' := Mt_of wadM (by decide) (Nat.le_of_ble_eq_true rfl) (fun X hL hd => by subst hd; exact w_X5_cut X x1 x2 S)
noncomputable def lp_X5_least_2 : Nat → Int32 → St → Option (Int32 × St)
  | 0, _, _ => none
  | n + 1, x1, S => (if (gI S 1) ≤ x1 then (some ((-5 : Int32), S)) else (chk (inB x1 31) (if (gA S 8 (x1).toNatClampNeg) ≤ 0 then (lp_X5_least_2 n (x1 + (1 : Int32)) S) else (some (x1, S)))))
set_option maxRecDepth 100000 in
set_option maxHeartbeats 4000000 in
theorem wlp_X5_least_2 (X : Cx) : ∀ (n : Nat) (x1 : Int32) (S : St), KJ X (cX5_least, RX5, 2, 1, (some .int)) wlM jI 2 [some (.ref (xa X 0)), some (.int x1)] [] S (lp_X5_least_2 n x1 S) := by
  intro n
  induction n with
  | zero => intro x1 S; rw [lp_X5_least_2]; exact k_none
  | succ n ih =>
    intro x1 S
    rw [lp_X5_least_2]
    refine k_iload_n dX5_least_2 rfl ?_
    refine k_aload_n dX5_least_3 rfl ?_
    refine k_getI gX5_73 dX5_least_4 ?_
    refine k_icmp_ge (tgt := 27) dX5_least_7 (by decide) (fun _ => ?_) (fun _ => ?_)
    · refine k_bipush dX5_least_27 cb_m5 ?_
      exact k_iret dX5_least_29
    · refine k_to (pc' := 10) rfl ?_
      refine k_aload_n dX5_least_10 rfl ?_
      refine k_getR gX5_32 dX5_least_11 ?_
      refine k_iload_n dX5_least_14 rfl ?_
      refine k_iald aM_8 dX5_least_15 ?_
      refine k_if_le (tgt := 21) dX5_least_16 (by decide) (fun _ => ?_) (fun _ => ?_)
      · refine k_inc1 dX5_least_21 ci_1 (by decide) rfl ?_
        refine k_goto (tgt := 2) dX5_least_24 (by decide) ?_
        refine k_to (pc' := 2) rfl ?_
        exact k_weak (ih _ _) (And.intro rfl (And.intro rfl True.intro))
      · refine k_to (pc' := 19) rfl ?_
        refine k_iload_n dX5_least_19 rfl ?_
        exact k_iret dX5_least_20
noncomputable def f_X5_least (S : St) : Option (Int32 × St) := (lp_X5_least_2 FU (0 : Int32) S)
set_option maxRecDepth 100000 in
set_option maxHeartbeats 4000000 in
theorem w_X5_least (X : Cx) (S : St) : KJ X (cX5_least, RX5, 2, 1, (some .int)) wlM jI 0 [some (.ref (xa X 0)), none] [] S (f_X5_least S) := by
  unfold f_X5_least
  refine k_iconst dX5_least_0 ci_0 ?_
  refine k_ist_n1 dX5_least_1 (by decide) rfl ?_
  refine k_to (pc' := 2) rfl ?_
  exact k_weak (wlp_X5_least_2 X FU _ _) (And.intro rfl (And.intro rfl True.intro))
theorem m_X5_least {l : Launch} {D : va_G} {d : Dt} (S : St) : ∀ (r : Int32) (S' : St), f_X5_least S = some (r, S') → Mt l D d wlM yX5_least cX5_least 2 (some .int) 1 [.ref (d.1 0)] S (jI r) S' := Mt_of wadM (by decide) (Nat.le_of_ble_eq_true rfl) (fun X hL hd => by subst hd; exact w_X5_least X S)
noncomputable def lp_X5_isRoom_84 (x2 : Int32) (x3 : Int32) (k29 : Int32 → Int32 → St → Option (Int32 × St)) : Nat → Int32 → Int32 → St → Option (Int32 × St)
  | 0, _, _, _ => none
  | n + 1, x4, x5, S => (if x3 ≤ x5 then (if x4 = 0 then (nxt (x2 + (0 : Int32)) fun y8 => (k29 y8 (x3 + (1 : Int32)) S)) else (nxt (x2 + (1 : Int32)) fun y9 => (k29 y9 (x3 + (1 : Int32)) S))) else (if x4 = 0 then (lp_X5_isRoom_84 x2 x3 k29 n (0 : Int32) (x5 + (1 : Int32)) S) else (chk (inB x5 10) (chk (inB x3 10) (if (gA S 14 (x5).toNatClampNeg) = (gA S 14 (x3).toNatClampNeg) then (lp_X5_isRoom_84 x2 x3 k29 n (0 : Int32) (x5 + (1 : Int32)) S) else (lp_X5_isRoom_84 x2 x3 k29 n (1 : Int32) (x5 + (1 : Int32)) S))))))
set_option maxRecDepth 100000 in
set_option maxHeartbeats 4000000 in
theorem wlp_X5_isRoom_84 (X : Cx) (x2 : Int32) (x3 : Int32) (k29 : Int32 → Int32 → St → Option (Int32 × St)) (hk29 : ∀ (x2 : Int32) (x3 : Int32) (S : St), KJ X (cX5_isRoom, RX5, 6, 4, (some .boolean)) wlM jI 29 [some (.ref (xa X 0)), none, some (.int x2), some (.int x3), none, none] [] S (k29 x2 x3 S)) : ∀ (n : Nat) (x4 : Int32) (x5 : Int32) (S : St), KJ X (cX5_isRoom, RX5, 6, 4, (some .boolean)) wlM jI 84 [some (.ref (xa X 0)), none, some (.int x2), some (.int x3), some (.int x4), some (.int x5)] [] S (lp_X5_isRoom_84 x2 x3 k29 n x4 x5 S) := by
  intro n
  induction n with
  | zero => intro x4 x5 S; rw [lp_X5_isRoom_84]; exact k_none
  | succ n ih =>
    intro x4 x5 S
    rw [lp_X5_isRoom_84]
    refine k_iload dX5_isRoom_84 rfl ?_
    refine k_iload_n dX5_isRoom_86 rfl ?_
    refine k_icmp_ge (tgt := 124) dX5_isRoom_87 (by decide) (fun _ => ?_) (fun _ => ?_)
    · refine k_iload_n dX5_isRoom_124 rfl ?_
      refine k_iload dX5_isRoom_125 rfl ?_
      refine k_if_eq (tgt := 134) dX5_isRoom_127 (by decide) (fun _ => ?_) (fun _ => ?_)
      · refine k_iconst dX5_isRoom_134 ci_0 ?_
        refine k_iadd dX5_isRoom_135 ?_
        refine k_ist_n2 dX5_isRoom_136 (by decide) rfl ?_
        refine k_nxt ?_
        refine k_inc3 dX5_isRoom_137 ci_1 (by decide) rfl ?_
        refine k_goto (tgt := 29) dX5_isRoom_140 (by decide) ?_
        refine k_to (pc' := 29) rfl ?_
        exact k_weak (hk29 _ _ _) (And.intro rfl (And.intro rfl (And.intro rfl True.intro)))
      · refine k_to (pc' := 130) rfl ?_
        refine k_iconst dX5_isRoom_130 ci_1 ?_
        refine k_goto (tgt := 135) dX5_isRoom_131 (by decide) ?_
        refine k_iadd dX5_isRoom_135 ?_
        refine k_ist_n2 dX5_isRoom_136 (by decide) rfl ?_
        refine k_nxt ?_
        refine k_inc3 dX5_isRoom_137 ci_1 (by decide) rfl ?_
        refine k_goto (tgt := 29) dX5_isRoom_140 (by decide) ?_
        refine k_to (pc' := 29) rfl ?_
        exact k_weak (hk29 _ _ _) (And.intro rfl (And.intro rfl (And.intro rfl True.intro)))
    · refine k_to (pc' := 90) rfl ?_
      refine k_iload dX5_isRoom_90 rfl ?_
      refine k_if_eq (tgt := 115) dX5_isRoom_92 (by decide) (fun _ => ?_) (fun _ => ?_)
      · refine k_iconst dX5_isRoom_115 ci_0 ?_
        refine k_ist4 dX5_isRoom_116 (by decide) rfl ?_
        refine k_inc5 dX5_isRoom_118 ci_1 (by decide) rfl ?_
        refine k_goto (tgt := 84) dX5_isRoom_121 (by decide) ?_
        refine k_to (pc' := 84) rfl ?_
        exact k_weak (ih _ _ _) (And.intro rfl (And.intro rfl (And.intro rfl (And.intro rfl (And.intro rfl True.intro)))))
      · refine k_to (pc' := 95) rfl ?_
        refine k_aload_n dX5_isRoom_95 rfl ?_
        refine k_getR gX5_51 dX5_isRoom_96 ?_
        refine k_iload dX5_isRoom_99 rfl ?_
        refine k_iald aM_14 dX5_isRoom_101 ?_
        refine k_aload_n dX5_isRoom_102 rfl ?_
        refine k_getR gX5_51 dX5_isRoom_103 ?_
        refine k_iload_n dX5_isRoom_106 rfl ?_
        refine k_iald aM_14 dX5_isRoom_107 ?_
        refine k_icmp_eq (tgt := 115) dX5_isRoom_108 (by decide) (fun _ => ?_) (fun _ => ?_)
        · refine k_iconst dX5_isRoom_115 ci_0 ?_
          refine k_ist4 dX5_isRoom_116 (by decide) rfl ?_
          refine k_inc5 dX5_isRoom_118 ci_1 (by decide) rfl ?_
          refine k_goto (tgt := 84) dX5_isRoom_121 (by decide) ?_
          refine k_to (pc' := 84) rfl ?_
          exact k_weak (ih _ _ _) (And.intro rfl (And.intro rfl (And.intro rfl (And.intro rfl (And.intro rfl True.intro)))))
        · refine k_to (pc' := 111) rfl ?_
          refine k_iconst dX5_isRoom_111 ci_1 ?_
          refine k_goto (tgt := 116) dX5_isRoom_112 (by decide) ?_
          refine k_ist4 dX5_isRoom_116 (by decide) rfl ?_
          refine k_inc5 dX5_isRoom_118 ci_1 (by decide) rfl ?_
          refine k_goto (tgt := 84) dX5_isRoom_121 (by decide) ?_
          refine k_to (pc' := 84) rfl ?_
          exact k_weak (ih _ _ _) (And.intro rfl (And.intro rfl (And.intro rfl (And.intro rfl (And.intro rfl True.intro)))))
noncomputable def lp_X5_isRoom_29 : Nat → Int32 → Int32 → St → Option (Int32 × St)
  | 0, _, _, _ => none
  | n + 1, x2, x3, S => (if (gI S 20) ≤ x3 then (chk (inB (gI S 21) 31) (if (200 : Int32) < ((gA S 8 ((gI S 21)).toNatClampNeg) + x2) then (some ((0 : Int32), S)) else (some ((1 : Int32), S)))) else (chk (inB x3 10) (bnd (f_X5_cut (gA S 14 (x3).toNatClampNeg) (gI S 21) S) fun r3 S4 => (chk (inB x3 10) (nxt (sA S4 14 (upd (gA S4 14) (x3).toNatClampNeg r3)) fun S5 => (chk (inB x3 10) (bnd (f_X5_isThere (gI S5 21) (gA S5 14 (x3).toNatClampNeg) S5) fun r6 S7 => (if r6 = 0 then (lp_X5_isRoom_84 x2 x3 (lp_X5_isRoom_29 n) FU (1 : Int32) (0 : Int32) S7) else (lp_X5_isRoom_84 x2 x3 (lp_X5_isRoom_29 n) FU (0 : Int32) (0 : Int32) S7)))))))))
set_option maxRecDepth 100000 in
set_option maxHeartbeats 4000000 in
theorem wlp_X5_isRoom_29 (X : Cx) : ∀ (n : Nat) (x2 : Int32) (x3 : Int32) (S : St), KJ X (cX5_isRoom, RX5, 6, 4, (some .boolean)) wlM jI 29 [some (.ref (xa X 0)), none, some (.int x2), some (.int x3), none, none] [] S (lp_X5_isRoom_29 n x2 x3 S) := by
  intro n
  induction n with
  | zero => intro x2 x3 S; rw [lp_X5_isRoom_29]; exact k_none
  | succ n ih =>
    intro x2 x3 S
    rw [lp_X5_isRoom_29]
    refine k_iload_n dX5_isRoom_29 rfl ?_
    refine k_aload_n dX5_isRoom_30 rfl ?_
    refine k_getI gX5_112 dX5_isRoom_31 ?_
    refine k_icmp_ge (tgt := 143) dX5_isRoom_34 (by decide) (fun _ => ?_) (fun _ => ?_)
    · refine k_aload_n dX5_isRoom_143 rfl ?_
      refine k_getR gX5_32 dX5_isRoom_144 ?_
      refine k_aload_n dX5_isRoom_147 rfl ?_
      refine k_getI gX5_115 dX5_isRoom_148 ?_
      refine k_iald aM_8 dX5_isRoom_151 ?_
      refine k_iload_n dX5_isRoom_152 rfl ?_
      refine k_iadd dX5_isRoom_153 ?_
      refine k_sipush dX5_isRoom_154 cs_200 ?_
      refine k_icmp_gt (tgt := 164) dX5_isRoom_157 (by decide) (fun _ => ?_) (fun _ => ?_)
      · refine k_iconst dX5_isRoom_164 ci_0 ?_
        exact k_zret (Or.inl rfl) dX5_isRoom_165
      · refine k_to (pc' := 160) rfl ?_
        refine k_iconst dX5_isRoom_160 ci_1 ?_
        refine k_goto (tgt := 165) dX5_isRoom_161 (by decide) ?_
        exact k_zret (Or.inr rfl) dX5_isRoom_165
    · refine k_to (pc' := 37) rfl ?_
      refine k_aload_n dX5_isRoom_37 rfl ?_
      refine k_getR gX5_51 dX5_isRoom_38 ?_
      refine k_iload_n dX5_isRoom_41 rfl ?_
      refine k_aload_n dX5_isRoom_42 rfl ?_
      refine k_aload_n dX5_isRoom_43 rfl ?_
      refine k_getR gX5_51 dX5_isRoom_44 ?_
      refine k_iload_n dX5_isRoom_47 rfl ?_
      refine k_iald aM_14 dX5_isRoom_48 ?_
      refine k_aload_n dX5_isRoom_49 rfl ?_
      refine k_to (pc' := 50) rfl ?_
      refine k_getI gX5_115 dX5_isRoom_50 ?_
      refine k_cv2i wadM lkX5_168 obX5 (m_X5_cut _ _ _) (by decide) (Nat.le_of_ble_eq_true rfl) dX5_isRoom_53 (fun r3 S4 => ?_)
      refine k_iast aM_14 dX5_isRoom_56 ?_
      refine k_nxt ?_
      refine k_aload_n dX5_isRoom_57 rfl ?_
      refine k_aload_n dX5_isRoom_58 rfl ?_
      refine k_getI gX5_115 dX5_isRoom_59 ?_
      refine k_aload_n dX5_isRoom_62 rfl ?_
      refine k_getR gX5_51 dX5_isRoom_63 ?_
      refine k_iload_n dX5_isRoom_66 rfl ?_
      refine k_iald aM_14 dX5_isRoom_67 ?_
      refine k_to (pc' := 68) rfl ?_
      refine k_cv2i wadM lkX5_161 obX5 (m_X5_isThere _ _ _) (by decide) (Nat.le_of_ble_eq_true rfl) dX5_isRoom_68 (fun r6 S7 => ?_)
      refine k_if_ne (tgt := 78) dX5_isRoom_71 (by decide) (fun _ => ?_) (fun _ => ?_)
      · refine k_iconst dX5_isRoom_78 ci_0 ?_
        refine k_ist4 dX5_isRoom_79 (by decide) rfl ?_
        refine k_iconst dX5_isRoom_81 ci_0 ?_
        refine k_ist5 dX5_isRoom_82 (by decide) rfl ?_
        refine k_to (pc' := 84) rfl ?_
        exact k_weak (wlp_X5_isRoom_84 X _ _ _ ih FU _ _ _) (And.intro rfl (And.intro rfl (And.intro rfl (And.intro rfl (And.intro rfl True.intro)))))
      · refine k_to (pc' := 74) rfl ?_
        refine k_iconst dX5_isRoom_74 ci_1 ?_
        refine k_goto (tgt := 79) dX5_isRoom_75 (by decide) ?_
        refine k_ist4 dX5_isRoom_79 (by decide) rfl ?_
        refine k_iconst dX5_isRoom_81 ci_0 ?_
        refine k_ist5 dX5_isRoom_82 (by decide) rfl ?_
        refine k_to (pc' := 84) rfl ?_
        exact k_weak (wlp_X5_isRoom_84 X _ _ _ ih FU _ _ _) (And.intro rfl (And.intro rfl (And.intro rfl (And.intro rfl (And.intro rfl True.intro)))))
noncomputable def f_X5_isRoom (x1 : Int32) (S : St) : Option (Int32 × St) := (chk (inB ((200 : Int32) * x1) 6200) (chk (inB ((200 : Int32) * x1) 6200) (bnd (f_X5_go x1 (gA S 11 (((200 : Int32) * x1)).toNatClampNeg) (gB S 12 (((200 : Int32) * x1)).toNatClampNeg) S) fun r1 S2 => (lp_X5_isRoom_29 FU (0 : Int32) (0 : Int32) S2))))
set_option maxRecDepth 100000 in
set_option maxHeartbeats 4000000 in
theorem w_X5_isRoom (X : Cx) (x1 : Int32) (S : St) : KJ X (cX5_isRoom, RX5, 6, 4, (some .boolean)) wlM jI 0 [some (.ref (xa X 0)), some (.int x1), none, none, none, none] [] S (f_X5_isRoom x1 S) := by
  unfold f_X5_isRoom
  refine k_aload_n dX5_isRoom_0 rfl ?_
  refine k_iload_n dX5_isRoom_1 rfl ?_
  refine k_aload_n dX5_isRoom_2 rfl ?_
  refine k_getR gX5_41 dX5_isRoom_3 ?_
  refine k_sipush dX5_isRoom_6 cs_200 ?_
  refine k_iload_n dX5_isRoom_9 rfl ?_
  refine k_imul dX5_isRoom_10 ?_
  refine k_iald aM_11 dX5_isRoom_11 ?_
  refine k_aload_n dX5_isRoom_12 rfl ?_
  refine k_to (pc' := 13) rfl ?_
  refine k_getR gX5_44 dX5_isRoom_13 ?_
  refine k_sipush dX5_isRoom_16 cs_200 ?_
  refine k_iload_n dX5_isRoom_19 rfl ?_
  refine k_imul dX5_isRoom_20 ?_
  refine k_lald aM_12 dX5_isRoom_21 ?_
  refine k_cv3v wadM lkX5_165 obX5 (m_X5_go _ _ _ _) (by decide) (Nat.le_of_ble_eq_true rfl) dX5_isRoom_22 (fun r1 S2 => ?_)
  refine k_iconst dX5_isRoom_25 ci_0 ?_
  refine k_ist_n2 dX5_isRoom_26 (by decide) rfl ?_
  refine k_iconst dX5_isRoom_27 ci_0 ?_
  refine k_ist_n3 dX5_isRoom_28 (by decide) rfl ?_
  refine k_to (pc' := 29) rfl ?_
  exact k_weak (wlp_X5_isRoom_29 X FU _ _ _) (And.intro rfl (And.intro rfl (And.intro rfl True.intro)))
theorem m_X5_isRoom {l : Launch} {D : va_G} {d : Dt} (x1 : Int32) (S : St) : ∀ (r : Int32) (S' : St), f_X5_isRoom x1 S = some (r, S') → Mt l D d wlM yX5_isRoom cX5_isRoom 6 (some .boolean) 4 [.ref (d.1 0), .int x1] S (jI r) S' := Mt_of wadM (by decide) (Nat.le_of_ble_eq_true rfl) (fun X hL hd => by subst hd; exact w_X5_isRoom X x1 S)
noncomputable def lp_X5_list_156 (x1 : Int32) (x2 : Int32) (k35 : Int32 → Int32 → St → Option (Int32 × St)) : Nat → Int32 → St → Option (Int32 × St)
  | 0, _, _ => none
  | n + 1, x4, S => (if (gI S 20) ≤ x4 then (bnd (f_X5_least S) fun r13 S14 => (k35 (x2 + (1 : Int32)) r13 S14)) else (chk (inB x4 10) (chk (inB x4 10) (bnd (f_X5_come (gI S 21) (gA S 14 (x4).toNatClampNeg) (gB S 15 (x4).toNatClampNeg) S) fun r15 S16 => (lp_X5_list_156 x1 x2 k35 n (x4 + (1 : Int32)) S16)))))
set_option maxRecDepth 100000 in
set_option maxHeartbeats 4000000 in
theorem wlp_X5_list_156 (X : Cx) (x1 : Int32) (x2 : Int32) (k35 : Int32 → Int32 → St → Option (Int32 × St)) (hk35 : ∀ (x2 : Int32) (x3 : Int32) (S : St), KJ X (cX5_list, RX5, 5, 5, (some .int)) wlM jI 35 [some (.ref (xa X 0)), some (.int x1), some (.int x2), some (.int x3), none] [] S (k35 x2 x3 S)) : ∀ (n : Nat) (x4 : Int32) (S : St), KJ X (cX5_list, RX5, 5, 5, (some .int)) wlM jI 156 [some (.ref (xa X 0)), some (.int x1), some (.int x2), none, some (.int x4)] [] S (lp_X5_list_156 x1 x2 k35 n x4 S) := by
  intro n
  induction n with
  | zero => intro x4 S; rw [lp_X5_list_156]; exact k_none
  | succ n ih =>
    intro x4 S
    rw [lp_X5_list_156]
    refine k_iload dX5_list_156 rfl ?_
    refine k_aload_n dX5_list_158 rfl ?_
    refine k_getI gX5_112 dX5_list_159 ?_
    refine k_icmp_ge (tgt := 193) dX5_list_162 (by decide) (fun _ => ?_) (fun _ => ?_)
    · refine k_inc2 dX5_list_193 ci_1 (by decide) rfl ?_
      refine k_aload_n dX5_list_196 rfl ?_
      refine k_cv0i wadM lkX5_171 obX5 (m_X5_least _) (by decide) (Nat.le_of_ble_eq_true rfl) dX5_list_197 (fun r13 S14 => ?_)
      refine k_ist_n3 dX5_list_200 (by decide) rfl ?_
      refine k_goto (tgt := 35) dX5_list_201 (by decide) ?_
      refine k_to (pc' := 35) rfl ?_
      exact k_weak (hk35 _ _ _) (And.intro rfl (And.intro rfl (And.intro rfl (And.intro rfl True.intro))))
    · refine k_to (pc' := 165) rfl ?_
      refine k_aload_n dX5_list_165 rfl ?_
      refine k_aload_n dX5_list_166 rfl ?_
      refine k_getI gX5_115 dX5_list_167 ?_
      refine k_aload_n dX5_list_170 rfl ?_
      refine k_getR gX5_51 dX5_list_171 ?_
      refine k_iload dX5_list_174 rfl ?_
      refine k_iald aM_14 dX5_list_176 ?_
      refine k_aload_n dX5_list_177 rfl ?_
      refine k_getR gX5_54 dX5_list_178 ?_
      refine k_to (pc' := 181) rfl ?_
      refine k_iload dX5_list_181 rfl ?_
      refine k_lald aM_15 dX5_list_183 ?_
      refine k_cv3v wadM lkX5_154 obX5 (m_X5_come _ _ _ _) (by decide) (Nat.le_of_ble_eq_true rfl) dX5_list_184 (fun r15 S16 => ?_)
      refine k_inc4 dX5_list_187 ci_1 (by decide) rfl ?_
      refine k_goto (tgt := 156) dX5_list_190 (by decide) ?_
      refine k_to (pc' := 156) rfl ?_
      exact k_weak (ih _ _) (And.intro rfl (And.intro rfl (And.intro rfl (And.intro rfl True.intro))))
noncomputable def lp_X5_list_67 (x1 : Int32) (x2 : Int32) (x3 : Int32) (k35 : Int32 → Int32 → St → Option (Int32 × St)) : Nat → Int32 → St → Option (Int32 × St)
  | 0, _, _ => none
  | n + 1, x4, S => (chk (inB x3 31) (if (gA S 8 (x3).toNatClampNeg) ≤ x4 then (nxt (sL S 13 ((gL S 13) + (gL S 22))) fun S12 => (lp_X5_list_156 x1 x2 k35 FU (0 : Int32) S12)) else (chk (inB ((((200 : Int32) * x3) + x4) + (1 : Int32)) 6200) (chk (inB (((200 : Int32) * x3) + x4) 6200) (nxt (sA S 11 (upd (gA S 11) ((((200 : Int32) * x3) + x4)).toNatClampNeg (gA S 11 (((((200 : Int32) * x3) + x4) + (1 : Int32))).toNatClampNeg))) fun S17 => (chk (inB ((((200 : Int32) * x3) + x4) + (1 : Int32)) 6200) (chk (inB (((200 : Int32) * x3) + x4) 6200) (nxt (sB S17 12 (vp_updL (gB S17 12) ((((200 : Int32) * x3) + x4)).toNatClampNeg (gB S17 12 (((((200 : Int32) * x3) + x4) + (1 : Int32))).toNatClampNeg))) fun S18 => (lp_X5_list_67 x1 x2 x3 k35 n (x4 + (1 : Int32)) S18)))))))))
set_option maxRecDepth 100000 in
set_option maxHeartbeats 4000000 in
theorem wlp_X5_list_67 (X : Cx) (x1 : Int32) (x2 : Int32) (x3 : Int32) (k35 : Int32 → Int32 → St → Option (Int32 × St)) (hk35 : ∀ (x2 : Int32) (x3 : Int32) (S : St), KJ X (cX5_list, RX5, 5, 5, (some .int)) wlM jI 35 [some (.ref (xa X 0)), some (.int x1), some (.int x2), some (.int x3), none] [] S (k35 x2 x3 S)) : ∀ (n : Nat) (x4 : Int32) (S : St), KJ X (cX5_list, RX5, 5, 5, (some .int)) wlM jI 67 [some (.ref (xa X 0)), some (.int x1), some (.int x2), some (.int x3), some (.int x4)] [] S (lp_X5_list_67 x1 x2 x3 k35 n x4 S) := by
  intro n
  induction n with
  | zero => intro x4 S; rw [lp_X5_list_67]; exact k_none
  | succ n ih =>
    intro x4 S
    rw [lp_X5_list_67]
    refine k_iload dX5_list_67 rfl ?_
    refine k_aload_n dX5_list_69 rfl ?_
    refine k_getR gX5_32 dX5_list_70 ?_
    refine k_iload_n dX5_list_73 rfl ?_
    refine k_iald aM_8 dX5_list_74 ?_
    refine k_icmp_ge (tgt := 140) dX5_list_75 (by decide) (fun _ => ?_) (fun _ => ?_)
    · refine k_aload_n dX5_list_140 rfl ?_
      refine k_dup dX5_list_141 rfl ?_
      refine k_getL gX5_149 dX5_list_142 ?_
      refine k_aload_n dX5_list_145 rfl ?_
      refine k_getL gX5_118 dX5_list_146 ?_
      refine k_ladd dX5_list_149 ?_
      refine k_putL pX5_149 dX5_list_150 ?_
      refine k_nxt ?_
      refine k_iconst dX5_list_153 ci_0 ?_
      refine k_ist4 dX5_list_154 (by decide) rfl ?_
      refine k_to (pc' := 156) rfl ?_
      exact k_weak (wlp_X5_list_156 X _ _ _ hk35 FU _ _) (And.intro rfl (And.intro rfl (And.intro rfl (And.intro rfl True.intro))))
    · refine k_to (pc' := 78) rfl ?_
      refine k_aload_n dX5_list_78 rfl ?_
      refine k_getR gX5_41 dX5_list_79 ?_
      refine k_sipush dX5_list_82 cs_200 ?_
      refine k_iload_n dX5_list_85 rfl ?_
      refine k_imul dX5_list_86 ?_
      refine k_iload dX5_list_87 rfl ?_
      refine k_iadd dX5_list_89 ?_
      refine k_aload_n dX5_list_90 rfl ?_
      refine k_getR gX5_41 dX5_list_91 ?_
      refine k_to (pc' := 94) rfl ?_
      refine k_sipush dX5_list_94 cs_200 ?_
      refine k_iload_n dX5_list_97 rfl ?_
      refine k_imul dX5_list_98 ?_
      refine k_iload dX5_list_99 rfl ?_
      refine k_iadd dX5_list_101 ?_
      refine k_iconst dX5_list_102 ci_1 ?_
      refine k_iadd dX5_list_103 ?_
      refine k_iald aM_11 dX5_list_104 ?_
      refine k_iast aM_11 dX5_list_105 ?_
      refine k_nxt ?_
      refine k_aload_n dX5_list_106 rfl ?_
      refine k_to (pc' := 107) rfl ?_
      refine k_getR gX5_44 dX5_list_107 ?_
      refine k_sipush dX5_list_110 cs_200 ?_
      refine k_iload_n dX5_list_113 rfl ?_
      refine k_imul dX5_list_114 ?_
      refine k_iload dX5_list_115 rfl ?_
      refine k_iadd dX5_list_117 ?_
      refine k_aload_n dX5_list_118 rfl ?_
      refine k_getR gX5_44 dX5_list_119 ?_
      refine k_sipush dX5_list_122 cs_200 ?_
      refine k_iload_n dX5_list_125 rfl ?_
      refine k_to (pc' := 126) rfl ?_
      refine k_imul dX5_list_126 ?_
      refine k_iload dX5_list_127 rfl ?_
      refine k_iadd dX5_list_129 ?_
      refine k_iconst dX5_list_130 ci_1 ?_
      refine k_iadd dX5_list_131 ?_
      refine k_lald aM_12 dX5_list_132 ?_
      refine k_last aM_12 dX5_list_133 ?_
      refine k_nxt ?_
      refine k_inc4 dX5_list_134 ci_1 (by decide) rfl ?_
      refine k_goto (tgt := 67) dX5_list_137 (by decide) ?_
      refine k_to (pc' := 67) rfl ?_
      exact k_weak (ih _ _) (And.intro rfl (And.intro rfl (And.intro rfl (And.intro rfl (And.intro rfl True.intro)))))
noncomputable def lp_X5_list_35 (x1 : Int32) : Nat → Int32 → Int32 → St → Option (Int32 × St)
  | 0, _, _, _ => none
  | n + 1, x2, x3, S => (if x1 ≤ x2 then (nxt (sI S 12 ((gI S 12) + x2)) fun S6 => (some (x2, S6))) else (if x3 = (-5 : Int32) then (nxt (sI S 12 ((gI S 12) + x2)) fun S7 => (some (x2, S7))) else (bnd (f_X5_isRoom x3 S) fun r8 S9 => (if r8 = 0 then (nxt (sI S9 12 ((gI S9 12) + x2)) fun S10 => (some (x2, S10))) else (chk (inB x3 31) (chk (inB x3 31) (nxt (sA S9 8 (upd (gA S9 8) (x3).toNatClampNeg ((gA S9 8 (x3).toNatClampNeg) - (1 : Int32)))) fun S11 => (lp_X5_list_67 x1 x2 x3 (lp_X5_list_35 x1 n) FU (0 : Int32) S11))))))))
set_option maxRecDepth 100000 in
set_option maxHeartbeats 4000000 in
theorem wlp_X5_list_35 (X : Cx) (x1 : Int32) : ∀ (n : Nat) (x2 : Int32) (x3 : Int32) (S : St), KJ X (cX5_list, RX5, 5, 5, (some .int)) wlM jI 35 [some (.ref (xa X 0)), some (.int x1), some (.int x2), some (.int x3), none] [] S (lp_X5_list_35 x1 n x2 x3 S) := by
  intro n
  induction n with
  | zero => intro x2 x3 S; rw [lp_X5_list_35]; exact k_none
  | succ n ih =>
    intro x2 x3 S
    rw [lp_X5_list_35]
    refine k_iload_n dX5_list_35 rfl ?_
    refine k_iload_n dX5_list_36 rfl ?_
    refine k_icmp_ge (tgt := 204) dX5_list_37 (by decide) (fun _ => ?_) (fun _ => ?_)
    · refine k_aload_n dX5_list_204 rfl ?_
      refine k_dup dX5_list_205 rfl ?_
      refine k_getI gX5_146 dX5_list_206 ?_
      refine k_iload_n dX5_list_209 rfl ?_
      refine k_iadd dX5_list_210 ?_
      refine k_putI pX5_146 dX5_list_211 ?_
      refine k_nxt ?_
      refine k_iload_n dX5_list_214 rfl ?_
      exact k_iret dX5_list_215
    · refine k_to (pc' := 40) rfl ?_
      refine k_iload_n dX5_list_40 rfl ?_
      refine k_bipush dX5_list_41 cb_m5 ?_
      refine k_icmp_eq (tgt := 204) dX5_list_43 (by decide) (fun _ => ?_) (fun _ => ?_)
      · refine k_aload_n dX5_list_204 rfl ?_
        refine k_dup dX5_list_205 rfl ?_
        refine k_getI gX5_146 dX5_list_206 ?_
        refine k_iload_n dX5_list_209 rfl ?_
        refine k_iadd dX5_list_210 ?_
        refine k_putI pX5_146 dX5_list_211 ?_
        refine k_nxt ?_
        refine k_iload_n dX5_list_214 rfl ?_
        exact k_iret dX5_list_215
      · refine k_to (pc' := 46) rfl ?_
        refine k_aload_n dX5_list_46 rfl ?_
        refine k_iload_n dX5_list_47 rfl ?_
        refine k_cv1i wadM lkX5_175 obX5 (m_X5_isRoom _ _) (by decide) (Nat.le_of_ble_eq_true rfl) dX5_list_48 (fun r8 S9 => ?_)
        refine k_if_eq (tgt := 204) dX5_list_51 (by decide) (fun _ => ?_) (fun _ => ?_)
        · refine k_aload_n dX5_list_204 rfl ?_
          refine k_dup dX5_list_205 rfl ?_
          refine k_getI gX5_146 dX5_list_206 ?_
          refine k_iload_n dX5_list_209 rfl ?_
          refine k_iadd dX5_list_210 ?_
          refine k_putI pX5_146 dX5_list_211 ?_
          refine k_nxt ?_
          refine k_iload_n dX5_list_214 rfl ?_
          exact k_iret dX5_list_215
        · refine k_to (pc' := 54) rfl ?_
          refine k_aload_n dX5_list_54 rfl ?_
          refine k_getR gX5_32 dX5_list_55 ?_
          refine k_iload_n dX5_list_58 rfl ?_
          refine k_dup2 dX5_list_59 rfl rfl ?_
          refine k_iald aM_8 dX5_list_60 ?_
          refine k_iconst dX5_list_61 ci_1 ?_
          refine k_isub dX5_list_62 ?_
          refine k_iast aM_8 dX5_list_63 ?_
          refine k_nxt ?_
          refine k_iconst dX5_list_64 ci_0 ?_
          refine k_to (pc' := 65) rfl ?_
          refine k_ist4 dX5_list_65 (by decide) rfl ?_
          refine k_to (pc' := 67) rfl ?_
          exact k_weak (wlp_X5_list_67 X _ _ _ _ ih FU _ _) (And.intro rfl (And.intro rfl (And.intro rfl (And.intro rfl (And.intro rfl True.intro)))))
noncomputable def f_X5_list (x1 : Int32) (S : St) : Option (Int32 × St) := (nxt (sI S 0 (0 : Int32)) fun S1 => (bnd (f_X5_isIn x1 (1 : Int32) (1000 : Int32) S1) fun r2 S3 => (if r2 = 0 then (some ((-1 : Int32), S3)) else (if (gI S3 11) = 0 then (some ((-3 : Int32), S3)) else (bnd (f_X5_least S3) fun r4 S5 => (lp_X5_list_35 x1 FU (0 : Int32) r4 S5))))))
set_option maxRecDepth 100000 in
set_option maxHeartbeats 4000000 in
theorem w_X5_list (X : Cx) (x1 : Int32) (S : St) : KJ X (cX5_list, RX5, 5, 5, (some .int)) wlM jI 0 [some (.ref (xa X 0)), some (.int x1), none, none, none] [] S (f_X5_list x1 S) := by
  unfold f_X5_list
  refine k_aload_n dX5_list_0 rfl ?_
  refine k_iconst dX5_list_1 ci_0 ?_
  refine k_putI pX5_69 dX5_list_2 ?_
  refine k_nxt ?_
  refine k_iload_n dX5_list_5 rfl ?_
  refine k_iconst dX5_list_6 ci_1 ?_
  refine k_sipush dX5_list_7 cs_1000 ?_
  refine k_cs3i wadM lkX5_86 (m_X5_isIn _ _ _ _) (by decide) (Nat.le_of_ble_eq_true rfl) dX5_list_10 (fun r2 S3 => ?_)
  refine k_if_ne (tgt := 18) dX5_list_13 (by decide) (fun _ => ?_) (fun _ => ?_)
  · refine k_aload_n dX5_list_18 rfl ?_
    refine k_getI gX5_82 dX5_list_19 ?_
    refine k_if_ne (tgt := 28) dX5_list_22 (by decide) (fun _ => ?_) (fun _ => ?_)
    · refine k_iconst dX5_list_28 ci_0 ?_
      refine k_ist_n2 dX5_list_29 (by decide) rfl ?_
      refine k_aload_n dX5_list_30 rfl ?_
      refine k_cv0i wadM lkX5_171 obX5 (m_X5_least _) (by decide) (Nat.le_of_ble_eq_true rfl) dX5_list_31 (fun r4 S5 => ?_)
      refine k_ist_n3 dX5_list_34 (by decide) rfl ?_
      refine k_to (pc' := 35) rfl ?_
      exact k_weak (wlp_X5_list_35 X _ FU _ _ _) (And.intro rfl (And.intro rfl (And.intro rfl (And.intro rfl True.intro))))
    · refine k_to (pc' := 25) rfl ?_
      refine k_bipush dX5_list_25 cb_m3 ?_
      exact k_iret dX5_list_27
  · refine k_to (pc' := 16) rfl ?_
    refine k_iconst dX5_list_16 ci_m1 ?_
    exact k_iret dX5_list_17
theorem m_X5_list {l : Launch} {D : va_G} {d : Dt} (x1 : Int32) (S : St) : ∀ (r : Int32) (S' : St), f_X5_list x1 S = some (r, S') → Mt l D d wlM yX5_list cX5_list 5 (some .int) 5 [.ref (d.1 0), .int x1] S (jI r) S' := Mt_of wadM (by decide) (Nat.le_of_ble_eq_true rfl) (fun X hL hd => by subst hd; exact w_X5_list X x1 S)
noncomputable def f_X5_done (S : St) : Option (Int32 × St) := (nxt (sI S 0 (0 : Int32)) fun S1 => (if (gI S1 11) = 0 then (some ((-3 : Int32), S1)) else (bnd (f_X5_least S1) fun r2 S3 => (if r2 = (-5 : Int32) then (some ((1 : Int32), S3)) else (bnd (f_X5_isRoom r2 S3) fun r4 S5 => (if r4 = 0 then (some ((2 : Int32), S5)) else (some ((0 : Int32), S5))))))))
set_option maxRecDepth 100000 in
set_option maxHeartbeats 4000000 in
theorem w_X5_done (X : Cx) (S : St) : KJ X (cX5_done, RX5, 2, 5, (some .int)) wlM jI 0 [some (.ref (xa X 0)), none] [] S (f_X5_done S) := by
  unfold f_X5_done
  refine k_aload_n dX5_done_0 rfl ?_
  refine k_iconst dX5_done_1 ci_0 ?_
  refine k_putI pX5_69 dX5_done_2 ?_
  refine k_nxt ?_
  refine k_aload_n dX5_done_5 rfl ?_
  refine k_getI gX5_82 dX5_done_6 ?_
  refine k_if_ne (tgt := 15) dX5_done_9 (by decide) (fun _ => ?_) (fun _ => ?_)
  · refine k_aload_n dX5_done_15 rfl ?_
    refine k_cv0i wadM lkX5_171 obX5 (m_X5_least _) (by decide) (Nat.le_of_ble_eq_true rfl) dX5_done_16 (fun r2 S3 => ?_)
    refine k_ist_n1 dX5_done_19 (by decide) rfl ?_
    refine k_iload_n dX5_done_20 rfl ?_
    refine k_bipush dX5_done_21 cb_m5 ?_
    refine k_icmp_ne (tgt := 30) dX5_done_23 (by decide) (fun _ => ?_) (fun _ => ?_)
    · refine k_aload_n dX5_done_30 rfl ?_
      refine k_iload_n dX5_done_31 rfl ?_
      refine k_cv1i wadM lkX5_175 obX5 (m_X5_isRoom _ _) (by decide) (Nat.le_of_ble_eq_true rfl) dX5_done_32 (fun r4 S5 => ?_)
      refine k_if_eq (tgt := 42) dX5_done_35 (by decide) (fun _ => ?_) (fun _ => ?_)
      · refine k_iconst dX5_done_42 ci_2 ?_
        exact k_iret dX5_done_43
      · refine k_to (pc' := 38) rfl ?_
        refine k_iconst dX5_done_38 ci_0 ?_
        refine k_goto (tgt := 43) dX5_done_39 (by decide) ?_
        exact k_iret dX5_done_43
    · refine k_to (pc' := 26) rfl ?_
      refine k_iconst dX5_done_26 ci_1 ?_
      refine k_goto (tgt := 43) dX5_done_27 (by decide) ?_
      exact k_iret dX5_done_43
  · refine k_to (pc' := 12) rfl ?_
    refine k_bipush dX5_done_12 cb_m3 ?_
    exact k_iret dX5_done_14
theorem m_X5_done {l : Launch} {D : va_G} {d : Dt} (S : St) : ∀ (r : Int32) (S' : St), f_X5_done S = some (r, S') → Mt l D d wlM yX5_done cX5_done 2 (some .int) 5 [.ref (d.1 0)] S (jI r) S' := Mt_of wadM (by decide) (Nat.le_of_ble_eq_true rfl) (fun X hL hd => by subst hd; exact w_X5_done X S)
noncomputable def f_X5_states (x1 : Int32) (x2 : Int32) (S : St) : Option (Int32 × St) := (nxt (sI S 0 (0 : Int32)) fun S1 => (bnd (f_X5_isIn x1 (0 : Int32) (gI S1 1) S1) fun r2 S3 => (if r2 = 0 then (some ((-1 : Int32), S3)) else (bnd (f_X5_isIn x2 (0 : Int32) (2 : Int32) S3) fun r4 S5 => (if r4 = 0 then (some ((-1 : Int32), S5)) else (if (gI S5 11) = 0 then (some ((-3 : Int32), S5)) else (if x2 = 0 then (chk (inB x1 31) (some ((gA S5 8 (x1).toNatClampNeg), S5))) else (if x2 = (1 : Int32) then (chk (inB x1 31) (some ((gA S5 9 (x1).toNatClampNeg), S5))) else (chk (inB x1 31) (some ((gA S5 10 (x1).toNatClampNeg), S5)))))))))))
set_option maxRecDepth 100000 in
set_option maxHeartbeats 4000000 in
theorem w_X5_states (X : Cx) (x1 : Int32) (x2 : Int32) (S : St) : KJ X (cX5_states, RX5, 3, 2, (some .int)) wlM jI 0 [some (.ref (xa X 0)), some (.int x1), some (.int x2)] [] S (f_X5_states x1 x2 S) := by
  unfold f_X5_states
  refine k_aload_n dX5_states_0 rfl ?_
  refine k_iconst dX5_states_1 ci_0 ?_
  refine k_putI pX5_69 dX5_states_2 ?_
  refine k_nxt ?_
  refine k_iload_n dX5_states_5 rfl ?_
  refine k_iconst dX5_states_6 ci_0 ?_
  refine k_aload_n dX5_states_7 rfl ?_
  refine k_getI gX5_73 dX5_states_8 ?_
  refine k_cs3i wadM lkX5_86 (m_X5_isIn _ _ _ _) (by decide) (Nat.le_of_ble_eq_true rfl) dX5_states_11 (fun r2 S3 => ?_)
  refine k_if_eq (tgt := 26) dX5_states_14 (by decide) (fun _ => ?_) (fun _ => ?_)
  · refine k_iconst dX5_states_26 ci_m1 ?_
    exact k_iret dX5_states_27
  · refine k_to (pc' := 17) rfl ?_
    refine k_iload_n dX5_states_17 rfl ?_
    refine k_iconst dX5_states_18 ci_0 ?_
    refine k_iconst dX5_states_19 ci_2 ?_
    refine k_cs3i wadM lkX5_86 (m_X5_isIn _ _ _ _) (by decide) (Nat.le_of_ble_eq_true rfl) dX5_states_20 (fun r4 S5 => ?_)
    refine k_if_ne (tgt := 28) dX5_states_23 (by decide) (fun _ => ?_) (fun _ => ?_)
    · refine k_aload_n dX5_states_28 rfl ?_
      refine k_getI gX5_82 dX5_states_29 ?_
      refine k_if_ne (tgt := 40) dX5_states_32 (by decide) (fun _ => ?_) (fun _ => ?_)
      · refine k_iload_n dX5_states_40 rfl ?_
        refine k_if_ne (tgt := 53) dX5_states_41 (by decide) (fun _ => ?_) (fun _ => ?_)
        · refine k_iload_n dX5_states_53 rfl ?_
          refine k_iconst dX5_states_54 ci_1 ?_
          refine k_icmp_ne (tgt := 67) dX5_states_55 (by decide) (fun _ => ?_) (fun _ => ?_)
          · refine k_aload_n dX5_states_67 rfl ?_
            refine k_getR gX5_38 dX5_states_68 ?_
            refine k_iload_n dX5_states_71 rfl ?_
            refine k_iald aM_10 dX5_states_72 ?_
            exact k_iret dX5_states_73
          · refine k_to (pc' := 58) rfl ?_
            refine k_aload_n dX5_states_58 rfl ?_
            refine k_getR gX5_35 dX5_states_59 ?_
            refine k_iload_n dX5_states_62 rfl ?_
            refine k_iald aM_9 dX5_states_63 ?_
            refine k_goto (tgt := 73) dX5_states_64 (by decide) ?_
            exact k_iret dX5_states_73
        · refine k_to (pc' := 44) rfl ?_
          refine k_aload_n dX5_states_44 rfl ?_
          refine k_getR gX5_32 dX5_states_45 ?_
          refine k_iload_n dX5_states_48 rfl ?_
          refine k_iald aM_8 dX5_states_49 ?_
          refine k_goto (tgt := 73) dX5_states_50 (by decide) ?_
          exact k_iret dX5_states_73
      · refine k_to (pc' := 35) rfl ?_
        refine k_bipush dX5_states_35 cb_m3 ?_
        refine k_goto (tgt := 73) dX5_states_37 (by decide) ?_
        exact k_iret dX5_states_73
    · refine k_to (pc' := 26) rfl ?_
      refine k_iconst dX5_states_26 ci_m1 ?_
      exact k_iret dX5_states_27
theorem m_X5_states {l : Launch} {D : va_G} {d : Dt} (x1 : Int32) (x2 : Int32) (S : St) : ∀ (r : Int32) (S' : St), f_X5_states x1 x2 S = some (r, S') → Mt l D d wlM yX5_states cX5_states 3 (some .int) 2 [.ref (d.1 0), .int x1, .int x2] S (jI r) S' := Mt_of wadM (by decide) (Nat.le_of_ble_eq_true rfl) (fun X hL hd => by subst hd; exact w_X5_states X x1 x2 S)
noncomputable def f_X5_code (x1 : Int32) (x2 : Int32) (S : St) : Option (Int32 × St) := (nxt (sI S 0 (0 : Int32)) fun S1 => (bnd (f_X5_isIn x1 (0 : Int32) (gI S1 1) S1) fun r2 S3 => (if r2 = 0 then (some ((-1 : Int32), S3)) else (if (gI S3 11) = 0 then (some ((-3 : Int32), S3)) else (chk (inB x1 31) (bnd (f_X5_isIn x2 (0 : Int32) ((gA S3 8 (x1).toNatClampNeg) - (1 : Int32)) S3) fun r4 S5 => (if r4 = 0 then (some ((-5 : Int32), S5)) else (chk (inB (((200 : Int32) * x1) + x2) 6200) (some ((gA S5 11 ((((200 : Int32) * x1) + x2)).toNatClampNeg), S5))))))))))
set_option maxRecDepth 100000 in
set_option maxHeartbeats 4000000 in
theorem w_X5_code (X : Cx) (x1 : Int32) (x2 : Int32) (S : St) : KJ X (cX5_code, RX5, 3, 2, (some .int)) wlM jI 0 [some (.ref (xa X 0)), some (.int x1), some (.int x2)] [] S (f_X5_code x1 x2 S) := by
  unfold f_X5_code
  refine k_aload_n dX5_code_0 rfl ?_
  refine k_iconst dX5_code_1 ci_0 ?_
  refine k_putI pX5_69 dX5_code_2 ?_
  refine k_nxt ?_
  refine k_iload_n dX5_code_5 rfl ?_
  refine k_iconst dX5_code_6 ci_0 ?_
  refine k_aload_n dX5_code_7 rfl ?_
  refine k_getI gX5_73 dX5_code_8 ?_
  refine k_cs3i wadM lkX5_86 (m_X5_isIn _ _ _ _) (by decide) (Nat.le_of_ble_eq_true rfl) dX5_code_11 (fun r2 S3 => ?_)
  refine k_if_ne (tgt := 19) dX5_code_14 (by decide) (fun _ => ?_) (fun _ => ?_)
  · refine k_aload_n dX5_code_19 rfl ?_
    refine k_getI gX5_82 dX5_code_20 ?_
    refine k_if_ne (tgt := 31) dX5_code_23 (by decide) (fun _ => ?_) (fun _ => ?_)
    · refine k_iload_n dX5_code_31 rfl ?_
      refine k_iconst dX5_code_32 ci_0 ?_
      refine k_aload_n dX5_code_33 rfl ?_
      refine k_getR gX5_32 dX5_code_34 ?_
      refine k_iload_n dX5_code_37 rfl ?_
      refine k_iald aM_8 dX5_code_38 ?_
      refine k_iconst dX5_code_39 ci_1 ?_
      refine k_isub dX5_code_40 ?_
      refine k_cs3i wadM lkX5_86 (m_X5_isIn _ _ _ _) (by decide) (Nat.le_of_ble_eq_true rfl) dX5_code_41 (fun r4 S5 => ?_)
      refine k_to (pc' := 44) rfl ?_
      refine k_if_eq (tgt := 62) dX5_code_44 (by decide) (fun _ => ?_) (fun _ => ?_)
      · refine k_bipush dX5_code_62 cb_m5 ?_
        exact k_iret dX5_code_64
      · refine k_to (pc' := 47) rfl ?_
        refine k_aload_n dX5_code_47 rfl ?_
        refine k_getR gX5_41 dX5_code_48 ?_
        refine k_sipush dX5_code_51 cs_200 ?_
        refine k_iload_n dX5_code_54 rfl ?_
        refine k_imul dX5_code_55 ?_
        refine k_iload_n dX5_code_56 rfl ?_
        refine k_iadd dX5_code_57 ?_
        refine k_iald aM_11 dX5_code_58 ?_
        refine k_goto (tgt := 64) dX5_code_59 (by decide) ?_
        refine k_to (pc' := 64) rfl ?_
        exact k_iret dX5_code_64
    · refine k_to (pc' := 26) rfl ?_
      refine k_bipush dX5_code_26 cb_m3 ?_
      refine k_goto (tgt := 64) dX5_code_28 (by decide) ?_
      exact k_iret dX5_code_64
  · refine k_to (pc' := 17) rfl ?_
    refine k_iconst dX5_code_17 ci_m1 ?_
    exact k_iret dX5_code_18
theorem m_X5_code {l : Launch} {D : va_G} {d : Dt} (x1 : Int32) (x2 : Int32) (S : St) : ∀ (r : Int32) (S' : St), f_X5_code x1 x2 S = some (r, S') → Mt l D d wlM yX5_code cX5_code 3 (some .int) 2 [.ref (d.1 0), .int x1, .int x2] S (jI r) S' := Mt_of wadM (by decide) (Nat.le_of_ble_eq_true rfl) (fun X hL hd => by subst hd; exact w_X5_code X x1 x2 S)
noncomputable def f_X5_mass (x1 : Int32) (x2 : Int32) (S : St) : Option (Int64 × St) := (nxt (sI S 0 (0 : Int32)) fun S1 => (if (gI S1 11) = 0 then (some ((0 : Int64), S1)) else (bnd (f_X5_isIn x1 (0 : Int32) (gI S1 1) S1) fun r2 S3 => (if r2 = 0 then (some ((0 : Int64), S3)) else (chk (inB x1 31) (bnd (f_X5_isIn x2 (0 : Int32) ((gA S3 8 (x1).toNatClampNeg) - (1 : Int32)) S3) fun r4 S5 => (if r4 = 0 then (some ((0 : Int64), S5)) else (chk (inB (((200 : Int32) * x1) + x2) 6200) (some ((gB S5 12 ((((200 : Int32) * x1) + x2)).toNatClampNeg), S5))))))))))
set_option maxRecDepth 100000 in
set_option maxHeartbeats 4000000 in
theorem w_X5_mass (X : Cx) (x1 : Int32) (x2 : Int32) (S : St) : KJ X (cX5_mass, RX5, 3, 2, (some .long)) wlM jL 0 [some (.ref (xa X 0)), some (.int x1), some (.int x2)] [] S (f_X5_mass x1 x2 S) := by
  unfold f_X5_mass
  refine k_aload_n dX5_mass_0 rfl ?_
  refine k_iconst dX5_mass_1 ci_0 ?_
  refine k_putI pX5_69 dX5_mass_2 ?_
  refine k_nxt ?_
  refine k_aload_n dX5_mass_5 rfl ?_
  refine k_getI gX5_82 dX5_mass_6 ?_
  refine k_if_eq (tgt := 55) dX5_mass_9 (by decide) (fun _ => ?_) (fun _ => ?_)
  · refine k_lconst dX5_mass_55 cl_0 ?_
    exact k_lret dX5_mass_56
  · refine k_to (pc' := 12) rfl ?_
    refine k_iload_n dX5_mass_12 rfl ?_
    refine k_iconst dX5_mass_13 ci_0 ?_
    refine k_aload_n dX5_mass_14 rfl ?_
    refine k_getI gX5_73 dX5_mass_15 ?_
    refine k_cs3i wadM lkX5_86 (m_X5_isIn _ _ _ _) (by decide) (Nat.le_of_ble_eq_true rfl) dX5_mass_18 (fun r2 S3 => ?_)
    refine k_if_eq (tgt := 55) dX5_mass_21 (by decide) (fun _ => ?_) (fun _ => ?_)
    · refine k_lconst dX5_mass_55 cl_0 ?_
      exact k_lret dX5_mass_56
    · refine k_to (pc' := 24) rfl ?_
      refine k_iload_n dX5_mass_24 rfl ?_
      refine k_iconst dX5_mass_25 ci_0 ?_
      refine k_aload_n dX5_mass_26 rfl ?_
      refine k_getR gX5_32 dX5_mass_27 ?_
      refine k_iload_n dX5_mass_30 rfl ?_
      refine k_iald aM_8 dX5_mass_31 ?_
      refine k_iconst dX5_mass_32 ci_1 ?_
      refine k_isub dX5_mass_33 ?_
      refine k_cs3i wadM lkX5_86 (m_X5_isIn _ _ _ _) (by decide) (Nat.le_of_ble_eq_true rfl) dX5_mass_34 (fun r4 S5 => ?_)
      refine k_to (pc' := 37) rfl ?_
      refine k_if_eq (tgt := 55) dX5_mass_37 (by decide) (fun _ => ?_) (fun _ => ?_)
      · refine k_lconst dX5_mass_55 cl_0 ?_
        exact k_lret dX5_mass_56
      · refine k_to (pc' := 40) rfl ?_
        refine k_aload_n dX5_mass_40 rfl ?_
        refine k_getR gX5_44 dX5_mass_41 ?_
        refine k_sipush dX5_mass_44 cs_200 ?_
        refine k_iload_n dX5_mass_47 rfl ?_
        refine k_imul dX5_mass_48 ?_
        refine k_iload_n dX5_mass_49 rfl ?_
        refine k_iadd dX5_mass_50 ?_
        refine k_lald aM_12 dX5_mass_51 ?_
        refine k_goto (tgt := 56) dX5_mass_52 (by decide) ?_
        refine k_to (pc' := 56) rfl ?_
        exact k_lret dX5_mass_56
theorem m_X5_mass {l : Launch} {D : va_G} {d : Dt} (x1 : Int32) (x2 : Int32) (S : St) : ∀ (r : Int64) (S' : St), f_X5_mass x1 x2 S = some (r, S') → Mt l D d wlM yX5_mass cX5_mass 3 (some .long) 2 [.ref (d.1 0), .int x1, .int x2] S (jL r) S' := Mt_of wadM (by decide) (Nat.le_of_ble_eq_true rfl) (fun X hL hd => by subst hd; exact w_X5_mass X x1 x2 S)
noncomputable def lp_X5_sumAt_6 (x1 : Int32) (x2 : Int32) (x3 : Int32) : Nat → Int64 → Int32 → St → Option (Int64 × St)
  | 0, _, _, _ => none
  | n + 1, x4, x6, S => (chk (inB x1 31) (if (gA S 8 (x1).toNatClampNeg) ≤ x6 then (some (x4, S)) else (if x2 < 0 then (chk (inB (((200 : Int32) * x1) + x6) 6200) (nxt (x4 + (gB S 12 ((((200 : Int32) * x1) + x6)).toNatClampNeg)) fun y1 => (lp_X5_sumAt_6 x1 x2 x3 n y1 (x6 + (1 : Int32)) S))) else (chk (inB (((200 : Int32) * x1) + x6) 6200) (bnd (f_X5_digit (gA S 11 ((((200 : Int32) * x1) + x6)).toNatClampNeg) x2 S) fun r2 S3 => (if r2 = x3 then (chk (inB (((200 : Int32) * x1) + x6) 6200) (nxt (x4 + (gB S3 12 ((((200 : Int32) * x1) + x6)).toNatClampNeg)) fun y5 => (lp_X5_sumAt_6 x1 x2 x3 n y5 (x6 + (1 : Int32)) S3))) else (nxt (x4 + (0 : Int64)) fun y4 => (lp_X5_sumAt_6 x1 x2 x3 n y4 (x6 + (1 : Int32)) S3))))))))
set_option maxRecDepth 100000 in
set_option maxHeartbeats 4000000 in
theorem wlp_X5_sumAt_6 (X : Cx) (x1 : Int32) (x2 : Int32) (x3 : Int32) : ∀ (n : Nat) (x4 : Int64) (x6 : Int32) (S : St), KJ X (cX5_sumAt, RX5, 7, 2, (some .long)) wlM jL 6 [some (.ref (xa X 0)), some (.int x1), some (.int x2), some (.int x3), some (.long x4), none, some (.int x6)] [] S (lp_X5_sumAt_6 x1 x2 x3 n x4 x6 S) := by
  intro n
  induction n with
  | zero => intro x4 x6 S; rw [lp_X5_sumAt_6]; exact k_none
  | succ n ih =>
    intro x4 x6 S
    rw [lp_X5_sumAt_6]
    refine k_iload dX5_sumAt_6 rfl ?_
    refine k_aload_n dX5_sumAt_8 rfl ?_
    refine k_getR gX5_32 dX5_sumAt_9 ?_
    refine k_iload_n dX5_sumAt_12 rfl ?_
    refine k_iald aM_8 dX5_sumAt_13 ?_
    refine k_icmp_ge (tgt := 70) dX5_sumAt_14 (by decide) (fun _ => ?_) (fun _ => ?_)
    · refine k_lload dX5_sumAt_70 rfl ?_
      exact k_lret dX5_sumAt_72
    · refine k_to (pc' := 17) rfl ?_
      refine k_lload dX5_sumAt_17 rfl ?_
      refine k_iload_n dX5_sumAt_19 rfl ?_
      refine k_if_lt (tgt := 44) dX5_sumAt_20 (by decide) (fun _ => ?_) (fun _ => ?_)
      · refine k_aload_n dX5_sumAt_44 rfl ?_
        refine k_getR gX5_44 dX5_sumAt_45 ?_
        refine k_sipush dX5_sumAt_48 cs_200 ?_
        refine k_iload_n dX5_sumAt_51 rfl ?_
        refine k_imul dX5_sumAt_52 ?_
        refine k_iload dX5_sumAt_53 rfl ?_
        refine k_iadd dX5_sumAt_55 ?_
        refine k_lald aM_12 dX5_sumAt_56 ?_
        refine k_goto (tgt := 61) dX5_sumAt_57 (by decide) ?_
        refine k_to (pc' := 61) rfl ?_
        refine k_ladd dX5_sumAt_61 ?_
        refine k_lst4 dX5_sumAt_62 (by decide) rfl ?_
        refine k_nxt ?_
        refine k_inc6 dX5_sumAt_64 ci_1 (by decide) rfl ?_
        refine k_goto (tgt := 6) dX5_sumAt_67 (by decide) ?_
        refine k_to (pc' := 6) rfl ?_
        exact k_weak (ih _ _ _) (And.intro rfl (And.intro rfl (And.intro rfl (And.intro rfl (And.intro rfl (And.intro rfl True.intro))))))
      · refine k_to (pc' := 23) rfl ?_
        refine k_aload_n dX5_sumAt_23 rfl ?_
        refine k_getR gX5_41 dX5_sumAt_24 ?_
        refine k_sipush dX5_sumAt_27 cs_200 ?_
        refine k_iload_n dX5_sumAt_30 rfl ?_
        refine k_imul dX5_sumAt_31 ?_
        refine k_iload dX5_sumAt_32 rfl ?_
        refine k_iadd dX5_sumAt_34 ?_
        refine k_iald aM_11 dX5_sumAt_35 ?_
        refine k_iload_n dX5_sumAt_36 rfl ?_
        refine k_to (pc' := 37) rfl ?_
        refine k_cs2i wadM lkX5_108 (m_X5_digit _ _ _) (by decide) (Nat.le_of_ble_eq_true rfl) dX5_sumAt_37 (fun r2 S3 => ?_)
        refine k_iload_n dX5_sumAt_40 rfl ?_
        refine k_icmp_ne (tgt := 60) dX5_sumAt_41 (by decide) (fun _ => ?_) (fun _ => ?_)
        · refine k_lconst dX5_sumAt_60 cl_0 ?_
          refine k_ladd dX5_sumAt_61 ?_
          refine k_lst4 dX5_sumAt_62 (by decide) rfl ?_
          refine k_nxt ?_
          refine k_inc6 dX5_sumAt_64 ci_1 (by decide) rfl ?_
          refine k_goto (tgt := 6) dX5_sumAt_67 (by decide) ?_
          refine k_to (pc' := 6) rfl ?_
          exact k_weak (ih _ _ _) (And.intro rfl (And.intro rfl (And.intro rfl (And.intro rfl (And.intro rfl (And.intro rfl True.intro))))))
        · refine k_to (pc' := 44) rfl ?_
          refine k_aload_n dX5_sumAt_44 rfl ?_
          refine k_getR gX5_44 dX5_sumAt_45 ?_
          refine k_sipush dX5_sumAt_48 cs_200 ?_
          refine k_iload_n dX5_sumAt_51 rfl ?_
          refine k_imul dX5_sumAt_52 ?_
          refine k_iload dX5_sumAt_53 rfl ?_
          refine k_iadd dX5_sumAt_55 ?_
          refine k_lald aM_12 dX5_sumAt_56 ?_
          refine k_goto (tgt := 61) dX5_sumAt_57 (by decide) ?_
          refine k_to (pc' := 61) rfl ?_
          refine k_ladd dX5_sumAt_61 ?_
          refine k_lst4 dX5_sumAt_62 (by decide) rfl ?_
          refine k_nxt ?_
          refine k_inc6 dX5_sumAt_64 ci_1 (by decide) rfl ?_
          refine k_goto (tgt := 6) dX5_sumAt_67 (by decide) ?_
          refine k_to (pc' := 6) rfl ?_
          exact k_weak (ih _ _ _) (And.intro rfl (And.intro rfl (And.intro rfl (And.intro rfl (And.intro rfl (And.intro rfl True.intro))))))
noncomputable def f_X5_sumAt (x1 : Int32) (x2 : Int32) (x3 : Int32) (S : St) : Option (Int64 × St) := (lp_X5_sumAt_6 x1 x2 x3 FU (0 : Int64) (0 : Int32) S)
set_option maxRecDepth 100000 in
set_option maxHeartbeats 4000000 in
theorem w_X5_sumAt (X : Cx) (x1 : Int32) (x2 : Int32) (x3 : Int32) (S : St) : KJ X (cX5_sumAt, RX5, 7, 2, (some .long)) wlM jL 0 [some (.ref (xa X 0)), some (.int x1), some (.int x2), some (.int x3), none, none, none] [] S (f_X5_sumAt x1 x2 x3 S) := by
  unfold f_X5_sumAt
  refine k_lconst dX5_sumAt_0 cl_0 ?_
  refine k_lst4 dX5_sumAt_1 (by decide) rfl ?_
  refine k_iconst dX5_sumAt_3 ci_0 ?_
  refine k_ist6 dX5_sumAt_4 (by decide) rfl ?_
  refine k_to (pc' := 6) rfl ?_
  exact k_weak (wlp_X5_sumAt_6 X _ _ _ FU _ _ _) (And.intro rfl (And.intro rfl (And.intro rfl (And.intro rfl (And.intro rfl (And.intro rfl True.intro))))))
theorem m_X5_sumAt {l : Launch} {D : va_G} {d : Dt} (x1 : Int32) (x2 : Int32) (x3 : Int32) (S : St) : ∀ (r : Int64) (S' : St), f_X5_sumAt x1 x2 x3 S = some (r, S') → Mt l D d wlM yX5_sumAt cX5_sumAt 7 (some .long) 2 [.ref (d.1 0), .int x1, .int x2, .int x3] S (jL r) S' := Mt_of wadM (by decide) (Nat.le_of_ble_eq_true rfl) (fun X hL hd => by subst hd; exact w_X5_sumAt X x1 x2 x3 S)
noncomputable def lp_X5_sum_93 (x2 : Int32) (x3 : Int32) : Nat → Int64 → Int32 → St → Option (Int64 × St)
  | 0, _, _, _ => none
  | n + 1, x4, x6, S => (if (gI S 1) ≤ x6 then (some (x4, S)) else (bnd (f_X5_sumAt x6 x2 x3 S) fun r6 S7 => (nxt (x4 + r6) fun y8 => (lp_X5_sum_93 x2 x3 n y8 (x6 + (1 : Int32)) S7))))
set_option maxRecDepth 100000 in
set_option maxHeartbeats 4000000 in
theorem wlp_X5_sum_93 (X : Cx) (x2 : Int32) (x3 : Int32) : ∀ (n : Nat) (x4 : Int64) (x6 : Int32) (S : St), KJ X (cX5_sum, RX5, 7, 3, (some .long)) wlM jL 93 [some (.ref (xa X 0)), none, some (.int x2), some (.int x3), some (.long x4), none, some (.int x6)] [] S (lp_X5_sum_93 x2 x3 n x4 x6 S) := by
  intro n
  induction n with
  | zero => intro x4 x6 S; rw [lp_X5_sum_93]; exact k_none
  | succ n ih =>
    intro x4 x6 S
    rw [lp_X5_sum_93]
    refine k_iload dX5_sum_93 rfl ?_
    refine k_aload_n dX5_sum_95 rfl ?_
    refine k_getI gX5_73 dX5_sum_96 ?_
    refine k_icmp_ge (tgt := 121) dX5_sum_99 (by decide) (fun _ => ?_) (fun _ => ?_)
    · refine k_lload dX5_sum_121 rfl ?_
      exact k_lret dX5_sum_123
    · refine k_to (pc' := 102) rfl ?_
      refine k_lload dX5_sum_102 rfl ?_
      refine k_aload_n dX5_sum_104 rfl ?_
      refine k_iload dX5_sum_105 rfl ?_
      refine k_iload_n dX5_sum_107 rfl ?_
      refine k_iload_n dX5_sum_108 rfl ?_
      refine k_cv3l wadM lkX5_182 obX5 (m_X5_sumAt _ _ _ _) (by decide) (Nat.le_of_ble_eq_true rfl) dX5_sum_109 (fun r6 S7 => ?_)
      refine k_ladd dX5_sum_112 ?_
      refine k_lst4 dX5_sum_113 (by decide) rfl ?_
      refine k_nxt ?_
      refine k_inc6 dX5_sum_115 ci_1 (by decide) rfl ?_
      refine k_to (pc' := 118) rfl ?_
      refine k_goto (tgt := 93) dX5_sum_118 (by decide) ?_
      refine k_to (pc' := 93) rfl ?_
      exact k_weak (ih _ _ _) (And.intro rfl (And.intro rfl (And.intro rfl (And.intro rfl (And.intro rfl True.intro)))))
noncomputable def f_X5_sum (x1 : Int32) (x2 : Int32) (x3 : Int32) (S : St) : Option (Int64 × St) := (nxt (sI S 0 (0 : Int32)) fun S1 => (bnd (f_X5_isIn x1 (0 : Int32) (2 : Int32) S1) fun r2 S3 => (if r2 = 0 then (some ((-1 : Int64), S3)) else (bnd (f_X5_isIn x2 (-1 : Int32) (5 : Int32) S3) fun r4 S5 => (if r4 = 0 then (some ((-1 : Int64), S5)) else (if x1 = (1 : Int32) then (if x2 = (-1 : Int32) then (if x2 < 0 then (if (gI S5 11) = 0 then (some ((-3 : Int64), S5)) else (if x1 = (1 : Int32) then (some ((gL S5 13), S5)) else (if x1 = 0 then (bnd (f_X5_sumAt (gI S5 1) x2 x3 S5) fun r15 S16 => (some (r15, S16))) else (lp_X5_sum_93 x2 x3 FU (0 : Int64) (0 : Int32) S5)))) else (bnd (f_X5_isIn x3 (0 : Int32) (9 : Int32) S5) fun r17 S18 => (if r17 = 0 then (some ((-1 : Int64), S18)) else (if (gI S18 11) = 0 then (some ((-3 : Int64), S18)) else (if x1 = (1 : Int32) then (some ((gL S18 13), S18)) else (if x1 = 0 then (bnd (f_X5_sumAt (gI S18 1) x2 x3 S18) fun r19 S20 => (some (r19, S20))) else (lp_X5_sum_93 x2 x3 FU (0 : Int64) (0 : Int32) S18))))))) else (some ((-1 : Int64), S5))) else (if x2 < 0 then (if (gI S5 11) = 0 then (some ((-3 : Int64), S5)) else (if x1 = (1 : Int32) then (some ((gL S5 13), S5)) else (if x1 = 0 then (bnd (f_X5_sumAt (gI S5 1) x2 x3 S5) fun r9 S10 => (some (r9, S10))) else (lp_X5_sum_93 x2 x3 FU (0 : Int64) (0 : Int32) S5)))) else (bnd (f_X5_isIn x3 (0 : Int32) (9 : Int32) S5) fun r11 S12 => (if r11 = 0 then (some ((-1 : Int64), S12)) else (if (gI S12 11) = 0 then (some ((-3 : Int64), S12)) else (if x1 = (1 : Int32) then (some ((gL S12 13), S12)) else (if x1 = 0 then (bnd (f_X5_sumAt (gI S12 1) x2 x3 S12) fun r13 S14 => (some (r13, S14))) else (lp_X5_sum_93 x2 x3 FU (0 : Int64) (0 : Int32) S12)))))))))))))
set_option maxRecDepth 100000 in
set_option maxHeartbeats 4000000 in
theorem w_X5_sum (X : Cx) (x1 : Int32) (x2 : Int32) (x3 : Int32) (S : St) : KJ X (cX5_sum, RX5, 7, 3, (some .long)) wlM jL 0 [some (.ref (xa X 0)), some (.int x1), some (.int x2), some (.int x3), none, none, none] [] S (f_X5_sum x1 x2 x3 S) := by
  unfold f_X5_sum
  refine k_aload_n dX5_sum_0 rfl ?_
  refine k_iconst dX5_sum_1 ci_0 ?_
  refine k_putI pX5_69 dX5_sum_2 ?_
  refine k_nxt ?_
  refine k_iload_n dX5_sum_5 rfl ?_
  refine k_iconst dX5_sum_6 ci_0 ?_
  refine k_iconst dX5_sum_7 ci_2 ?_
  refine k_cs3i wadM lkX5_86 (m_X5_isIn _ _ _ _) (by decide) (Nat.le_of_ble_eq_true rfl) dX5_sum_8 (fun r2 S3 => ?_)
  refine k_if_eq (tgt := 47) dX5_sum_11 (by decide) (fun _ => ?_) (fun _ => ?_)
  · refine k_ldc2 dX5_sum_47 klX5_178 ?_
    exact k_lret dX5_sum_50
  · refine k_to (pc' := 14) rfl ?_
    refine k_iload_n dX5_sum_14 rfl ?_
    refine k_iconst dX5_sum_15 ci_m1 ?_
    refine k_iconst dX5_sum_16 ci_5 ?_
    refine k_cs3i wadM lkX5_86 (m_X5_isIn _ _ _ _) (by decide) (Nat.le_of_ble_eq_true rfl) dX5_sum_17 (fun r4 S5 => ?_)
    refine k_if_eq (tgt := 47) dX5_sum_20 (by decide) (fun _ => ?_) (fun _ => ?_)
    · refine k_ldc2 dX5_sum_47 klX5_178 ?_
      exact k_lret dX5_sum_50
    · refine k_to (pc' := 23) rfl ?_
      refine k_iload_n dX5_sum_23 rfl ?_
      refine k_iconst dX5_sum_24 ci_1 ?_
      refine k_icmp_ne (tgt := 33) dX5_sum_25 (by decide) (fun _ => ?_) (fun _ => ?_)
      · refine k_iload_n dX5_sum_33 rfl ?_
        refine k_if_lt (tgt := 51) dX5_sum_34 (by decide) (fun _ => ?_) (fun _ => ?_)
        · refine k_aload_n dX5_sum_51 rfl ?_
          refine k_getI gX5_82 dX5_sum_52 ?_
          refine k_if_ne (tgt := 62) dX5_sum_55 (by decide) (fun _ => ?_) (fun _ => ?_)
          · refine k_iload_n dX5_sum_62 rfl ?_
            refine k_iconst dX5_sum_63 ci_1 ?_
            refine k_icmp_ne (tgt := 72) dX5_sum_64 (by decide) (fun _ => ?_) (fun _ => ?_)
            · refine k_iload_n dX5_sum_72 rfl ?_
              refine k_if_ne (tgt := 87) dX5_sum_73 (by decide) (fun _ => ?_) (fun _ => ?_)
              · refine k_lconst dX5_sum_87 cl_0 ?_
                refine k_lst4 dX5_sum_88 (by decide) rfl ?_
                refine k_iconst dX5_sum_90 ci_0 ?_
                refine k_ist6 dX5_sum_91 (by decide) rfl ?_
                refine k_to (pc' := 93) rfl ?_
                exact k_weak (wlp_X5_sum_93 X _ _ FU _ _ _) (And.intro rfl (And.intro rfl (And.intro rfl (And.intro rfl (And.intro rfl True.intro)))))
              · refine k_to (pc' := 76) rfl ?_
                refine k_aload_n dX5_sum_76 rfl ?_
                refine k_aload_n dX5_sum_77 rfl ?_
                refine k_getI gX5_73 dX5_sum_78 ?_
                refine k_iload_n dX5_sum_81 rfl ?_
                refine k_iload_n dX5_sum_82 rfl ?_
                refine k_cv3l wadM lkX5_182 obX5 (m_X5_sumAt _ _ _ _) (by decide) (Nat.le_of_ble_eq_true rfl) dX5_sum_83 (fun r9 S10 => ?_)
                exact k_lret dX5_sum_86
            · refine k_to (pc' := 67) rfl ?_
              refine k_aload_n dX5_sum_67 rfl ?_
              refine k_getL gX5_149 dX5_sum_68 ?_
              exact k_lret dX5_sum_71
          · refine k_to (pc' := 58) rfl ?_
            refine k_ldc2 dX5_sum_58 klX5_180 ?_
            exact k_lret dX5_sum_61
        · refine k_to (pc' := 37) rfl ?_
          refine k_iload_n dX5_sum_37 rfl ?_
          refine k_iconst dX5_sum_38 ci_0 ?_
          refine k_bipush dX5_sum_39 cb_9 ?_
          refine k_cs3i wadM lkX5_86 (m_X5_isIn _ _ _ _) (by decide) (Nat.le_of_ble_eq_true rfl) dX5_sum_41 (fun r11 S12 => ?_)
          refine k_if_ne (tgt := 51) dX5_sum_44 (by decide) (fun _ => ?_) (fun _ => ?_)
          · refine k_aload_n dX5_sum_51 rfl ?_
            refine k_getI gX5_82 dX5_sum_52 ?_
            refine k_if_ne (tgt := 62) dX5_sum_55 (by decide) (fun _ => ?_) (fun _ => ?_)
            · refine k_iload_n dX5_sum_62 rfl ?_
              refine k_iconst dX5_sum_63 ci_1 ?_
              refine k_icmp_ne (tgt := 72) dX5_sum_64 (by decide) (fun _ => ?_) (fun _ => ?_)
              · refine k_iload_n dX5_sum_72 rfl ?_
                refine k_if_ne (tgt := 87) dX5_sum_73 (by decide) (fun _ => ?_) (fun _ => ?_)
                · refine k_lconst dX5_sum_87 cl_0 ?_
                  refine k_lst4 dX5_sum_88 (by decide) rfl ?_
                  refine k_iconst dX5_sum_90 ci_0 ?_
                  refine k_ist6 dX5_sum_91 (by decide) rfl ?_
                  refine k_to (pc' := 93) rfl ?_
                  exact k_weak (wlp_X5_sum_93 X _ _ FU _ _ _) (And.intro rfl (And.intro rfl (And.intro rfl (And.intro rfl (And.intro rfl True.intro)))))
                · refine k_to (pc' := 76) rfl ?_
                  refine k_aload_n dX5_sum_76 rfl ?_
                  refine k_aload_n dX5_sum_77 rfl ?_
                  refine k_getI gX5_73 dX5_sum_78 ?_
                  refine k_iload_n dX5_sum_81 rfl ?_
                  refine k_iload_n dX5_sum_82 rfl ?_
                  refine k_cv3l wadM lkX5_182 obX5 (m_X5_sumAt _ _ _ _) (by decide) (Nat.le_of_ble_eq_true rfl) dX5_sum_83 (fun r13 S14 => ?_)
                  exact k_lret dX5_sum_86
              · refine k_to (pc' := 67) rfl ?_
                refine k_aload_n dX5_sum_67 rfl ?_
                refine k_getL gX5_149 dX5_sum_68 ?_
                exact k_lret dX5_sum_71
            · refine k_to (pc' := 58) rfl ?_
              refine k_ldc2 dX5_sum_58 klX5_180 ?_
              exact k_lret dX5_sum_61
          · refine k_to (pc' := 47) rfl ?_
            refine k_ldc2 dX5_sum_47 klX5_178 ?_
            exact k_lret dX5_sum_50
      · refine k_to (pc' := 28) rfl ?_
        refine k_iload_n dX5_sum_28 rfl ?_
        refine k_iconst dX5_sum_29 ci_m1 ?_
        refine k_icmp_ne (tgt := 47) dX5_sum_30 (by decide) (fun _ => ?_) (fun _ => ?_)
        · refine k_ldc2 dX5_sum_47 klX5_178 ?_
          exact k_lret dX5_sum_50
        · refine k_to (pc' := 33) rfl ?_
          refine k_iload_n dX5_sum_33 rfl ?_
          refine k_if_lt (tgt := 51) dX5_sum_34 (by decide) (fun _ => ?_) (fun _ => ?_)
          · refine k_aload_n dX5_sum_51 rfl ?_
            refine k_getI gX5_82 dX5_sum_52 ?_
            refine k_if_ne (tgt := 62) dX5_sum_55 (by decide) (fun _ => ?_) (fun _ => ?_)
            · refine k_iload_n dX5_sum_62 rfl ?_
              refine k_iconst dX5_sum_63 ci_1 ?_
              refine k_icmp_ne (tgt := 72) dX5_sum_64 (by decide) (fun _ => ?_) (fun _ => ?_)
              · refine k_iload_n dX5_sum_72 rfl ?_
                refine k_if_ne (tgt := 87) dX5_sum_73 (by decide) (fun _ => ?_) (fun _ => ?_)
                · refine k_lconst dX5_sum_87 cl_0 ?_
                  refine k_lst4 dX5_sum_88 (by decide) rfl ?_
                  refine k_iconst dX5_sum_90 ci_0 ?_
                  refine k_ist6 dX5_sum_91 (by decide) rfl ?_
                  refine k_to (pc' := 93) rfl ?_
                  exact k_weak (wlp_X5_sum_93 X _ _ FU _ _ _) (And.intro rfl (And.intro rfl (And.intro rfl (And.intro rfl (And.intro rfl True.intro)))))
                · refine k_to (pc' := 76) rfl ?_
                  refine k_aload_n dX5_sum_76 rfl ?_
                  refine k_aload_n dX5_sum_77 rfl ?_
                  refine k_getI gX5_73 dX5_sum_78 ?_
                  refine k_iload_n dX5_sum_81 rfl ?_
                  refine k_iload_n dX5_sum_82 rfl ?_
                  refine k_cv3l wadM lkX5_182 obX5 (m_X5_sumAt _ _ _ _) (by decide) (Nat.le_of_ble_eq_true rfl) dX5_sum_83 (fun r15 S16 => ?_)
                  exact k_lret dX5_sum_86
              · refine k_to (pc' := 67) rfl ?_
                refine k_aload_n dX5_sum_67 rfl ?_
                refine k_getL gX5_149 dX5_sum_68 ?_
                exact k_lret dX5_sum_71
            · refine k_to (pc' := 58) rfl ?_
              refine k_ldc2 dX5_sum_58 klX5_180 ?_
              exact k_lret dX5_sum_61
          · refine k_to (pc' := 37) rfl ?_
            refine k_iload_n dX5_sum_37 rfl ?_
            refine k_iconst dX5_sum_38 ci_0 ?_
            refine k_bipush dX5_sum_39 cb_9 ?_
            refine k_cs3i wadM lkX5_86 (m_X5_isIn _ _ _ _) (by decide) (Nat.le_of_ble_eq_true rfl) dX5_sum_41 (fun r17 S18 => ?_)
            refine k_if_ne (tgt := 51) dX5_sum_44 (by decide) (fun _ => ?_) (fun _ => ?_)
            · refine k_aload_n dX5_sum_51 rfl ?_
              refine k_getI gX5_82 dX5_sum_52 ?_
              refine k_if_ne (tgt := 62) dX5_sum_55 (by decide) (fun _ => ?_) (fun _ => ?_)
              · refine k_iload_n dX5_sum_62 rfl ?_
                refine k_iconst dX5_sum_63 ci_1 ?_
                refine k_icmp_ne (tgt := 72) dX5_sum_64 (by decide) (fun _ => ?_) (fun _ => ?_)
                · refine k_iload_n dX5_sum_72 rfl ?_
                  refine k_if_ne (tgt := 87) dX5_sum_73 (by decide) (fun _ => ?_) (fun _ => ?_)
                  · refine k_lconst dX5_sum_87 cl_0 ?_
                    refine k_lst4 dX5_sum_88 (by decide) rfl ?_
                    refine k_iconst dX5_sum_90 ci_0 ?_
                    refine k_ist6 dX5_sum_91 (by decide) rfl ?_
                    refine k_to (pc' := 93) rfl ?_
                    exact k_weak (wlp_X5_sum_93 X _ _ FU _ _ _) (And.intro rfl (And.intro rfl (And.intro rfl (And.intro rfl (And.intro rfl True.intro)))))
                  · refine k_to (pc' := 76) rfl ?_
                    refine k_aload_n dX5_sum_76 rfl ?_
                    refine k_aload_n dX5_sum_77 rfl ?_
                    refine k_getI gX5_73 dX5_sum_78 ?_
                    refine k_iload_n dX5_sum_81 rfl ?_
                    refine k_iload_n dX5_sum_82 rfl ?_
                    refine k_cv3l wadM lkX5_182 obX5 (m_X5_sumAt _ _ _ _) (by decide) (Nat.le_of_ble_eq_true rfl) dX5_sum_83 (fun r19 S20 => ?_)
                    exact k_lret dX5_sum_86
                · refine k_to (pc' := 67) rfl ?_
                  refine k_aload_n dX5_sum_67 rfl ?_
                  refine k_getL gX5_149 dX5_sum_68 ?_
                  exact k_lret dX5_sum_71
              · refine k_to (pc' := 58) rfl ?_
                refine k_ldc2 dX5_sum_58 klX5_180 ?_
                exact k_lret dX5_sum_61
            · refine k_to (pc' := 47) rfl ?_
              refine k_ldc2 dX5_sum_47 klX5_178 ?_
              exact k_lret dX5_sum_50
theorem m_X5_sum {l : Launch} {D : va_G} {d : Dt} (x1 : Int32) (x2 : Int32) (x3 : Int32) (S : St) : ∀ (r : Int64) (S' : St), f_X5_sum x1 x2 x3 S = some (r, S') → Mt l D d wlM yX5_sum cX5_sum 7 (some .long) 3 [.ref (d.1 0), .int x1, .int x2, .int x3] S (jL r) S' := Mt_of wadM (by decide) (Nat.le_of_ble_eq_true rfl) (fun X hL hd => by subst hd; exact w_X5_sum X x1 x2 x3 S)
noncomputable def lp_X5_odds_112 (x3 : Int32) (x4 : Int64) (x6 : Int64) : Nat → Int64 → Int64 → St → Option (Int64 × St)
  | 0, _, _, _ => none
  | n + 1, x8, x10, S => (if (lg_cmp x10 (0 : Int64)) = 0 then (if x3 = 0 then (chk (decide (¬ x8 = 0)) (some ((x6 / x8), S))) else (chk (decide (¬ x8 = 0)) (some ((x4 / x8), S)))) else (chk (decide (¬ x10 = 0)) (nxt (x8 - x8 / x10 * x10) fun y14 => (lp_X5_odds_112 x3 x4 x6 n x10 y14 S))))
set_option maxRecDepth 100000 in
set_option maxHeartbeats 4000000 in
theorem wlp_X5_odds_112 (X : Cx) (x3 : Int32) (x4 : Int64) (x6 : Int64) : ∀ (n : Nat) (x8 : Int64) (x10 : Int64) (S : St), KJ X (cX5_odds, RX5, 14, 3, (some .long)) wlM jL 112 [none, none, none, some (.int x3), some (.long x4), none, some (.long x6), none, some (.long x8), none, some (.long x10), none, none, none] [] S (lp_X5_odds_112 x3 x4 x6 n x8 x10 S) := by
  intro n
  induction n with
  | zero => intro x8 x10 S; rw [lp_X5_odds_112]; exact k_none
  | succ n ih =>
    intro x8 x10 S
    rw [lp_X5_odds_112]
    refine k_lload dX5_odds_112 rfl ?_
    refine k_lconst dX5_odds_114 cl_0 ?_
    refine k_lcmp dX5_odds_115 ?_
    refine k_if_eq (tgt := 137) dX5_odds_116 (by decide) (fun _ => ?_) (fun _ => ?_)
    · refine k_iload_n dX5_odds_137 rfl ?_
      refine k_if_ne (tgt := 146) dX5_odds_138 (by decide) (fun _ => ?_) (fun _ => ?_)
      · refine k_lload dX5_odds_146 rfl ?_
        refine k_lload dX5_odds_148 rfl ?_
        refine k_ldiv dX5_odds_150 ?_
        exact k_lret dX5_odds_151
      · refine k_to (pc' := 141) rfl ?_
        refine k_lload dX5_odds_141 rfl ?_
        refine k_goto (tgt := 148) dX5_odds_143 (by decide) ?_
        refine k_lload dX5_odds_148 rfl ?_
        refine k_ldiv dX5_odds_150 ?_
        exact k_lret dX5_odds_151
    · refine k_to (pc' := 119) rfl ?_
      refine k_lload dX5_odds_119 rfl ?_
      refine k_lload dX5_odds_121 rfl ?_
      refine k_lrem dX5_odds_123 ?_
      refine k_lst12 dX5_odds_124 (by decide) rfl ?_
      refine k_nxt ?_
      refine k_lload dX5_odds_126 rfl ?_
      refine k_lst8 dX5_odds_128 (by decide) rfl ?_
      refine k_lload dX5_odds_130 rfl ?_
      refine k_lst10 dX5_odds_132 (by decide) rfl ?_
      refine k_goto (tgt := 112) dX5_odds_134 (by decide) ?_
      refine k_to (pc' := 112) rfl ?_
      exact k_weak (ih _ _ _) (And.intro rfl (And.intro rfl (And.intro rfl (And.intro rfl (And.intro rfl True.intro)))))
noncomputable def f_X5_odds (x1 : Int32) (x2 : Int32) (x3 : Int32) (S : St) : Option (Int64 × St) := (nxt (sI S 0 (0 : Int32)) fun S1 => (bnd (f_X5_isIn x1 (0 : Int32) (5 : Int32) S1) fun r2 S3 => (if r2 = 0 then (some ((-1 : Int64), S3)) else (bnd (f_X5_isIn x2 (0 : Int32) (9 : Int32) S3) fun r4 S5 => (if r4 = 0 then (some ((-1 : Int64), S5)) else (bnd (f_X5_isIn x3 (0 : Int32) (1 : Int32) S5) fun r6 S7 => (if r6 = 0 then (some ((-1 : Int64), S7)) else (chk (inB x1 6) (if (gA S7 7 (x1).toNatClampNeg) = 0 then (some ((-1 : Int64), S7)) else (if (gI S7 11) = 0 then (some ((-3 : Int64), S7)) else (bnd (f_X5_least S7) fun r8 S9 => (if r8 = (-5 : Int32) then (bnd (f_X5_sumAt (gI S9 1) (-1 : Int32) (0 : Int32) S9) fun r10 S11 => (if (lg_cmp r10 (0 : Int64)) = 0 then (nxt (sI S11 0 (1 : Int32)) fun S15 => (some ((0 : Int64), S15))) else (bnd (f_X5_sumAt (gI S11 1) x1 x2 S11) fun r12 S13 => (lp_X5_odds_112 x3 r10 r12 FU r10 r12 S13)))) else (some ((-3 : Int64), S9))))))))))))))
set_option maxRecDepth 100000 in
set_option maxHeartbeats 4000000 in
theorem w_X5_odds (X : Cx) (x1 : Int32) (x2 : Int32) (x3 : Int32) (S : St) : KJ X (cX5_odds, RX5, 14, 3, (some .long)) wlM jL 0 [some (.ref (xa X 0)), some (.int x1), some (.int x2), some (.int x3), none, none, none, none, none, none, none, none, none, none] [] S (f_X5_odds x1 x2 x3 S) := by
  unfold f_X5_odds
  refine k_aload_n dX5_odds_0 rfl ?_
  refine k_iconst dX5_odds_1 ci_0 ?_
  refine k_putI pX5_69 dX5_odds_2 ?_
  refine k_nxt ?_
  refine k_iload_n dX5_odds_5 rfl ?_
  refine k_iconst dX5_odds_6 ci_0 ?_
  refine k_iconst dX5_odds_7 ci_5 ?_
  refine k_cs3i wadM lkX5_86 (m_X5_isIn _ _ _ _) (by decide) (Nat.le_of_ble_eq_true rfl) dX5_odds_8 (fun r2 S3 => ?_)
  refine k_if_eq (tgt := 42) dX5_odds_11 (by decide) (fun _ => ?_) (fun _ => ?_)
  · refine k_ldc2 dX5_odds_42 klX5_178 ?_
    exact k_lret dX5_odds_45
  · refine k_to (pc' := 14) rfl ?_
    refine k_iload_n dX5_odds_14 rfl ?_
    refine k_iconst dX5_odds_15 ci_0 ?_
    refine k_bipush dX5_odds_16 cb_9 ?_
    refine k_cs3i wadM lkX5_86 (m_X5_isIn _ _ _ _) (by decide) (Nat.le_of_ble_eq_true rfl) dX5_odds_18 (fun r4 S5 => ?_)
    refine k_if_eq (tgt := 42) dX5_odds_21 (by decide) (fun _ => ?_) (fun _ => ?_)
    · refine k_ldc2 dX5_odds_42 klX5_178 ?_
      exact k_lret dX5_odds_45
    · refine k_to (pc' := 24) rfl ?_
      refine k_iload_n dX5_odds_24 rfl ?_
      refine k_iconst dX5_odds_25 ci_0 ?_
      refine k_iconst dX5_odds_26 ci_1 ?_
      refine k_cs3i wadM lkX5_86 (m_X5_isIn _ _ _ _) (by decide) (Nat.le_of_ble_eq_true rfl) dX5_odds_27 (fun r6 S7 => ?_)
      refine k_if_eq (tgt := 42) dX5_odds_30 (by decide) (fun _ => ?_) (fun _ => ?_)
      · refine k_ldc2 dX5_odds_42 klX5_178 ?_
        exact k_lret dX5_odds_45
      · refine k_to (pc' := 33) rfl ?_
        refine k_aload_n dX5_odds_33 rfl ?_
        refine k_getR gX5_28 dX5_odds_34 ?_
        refine k_iload_n dX5_odds_37 rfl ?_
        refine k_zald aM_7 dX5_odds_38 ?_
        refine k_if_ne (tgt := 46) dX5_odds_39 (by decide) (fun _ => ?_) (fun _ => ?_)
        · refine k_aload_n dX5_odds_46 rfl ?_
          refine k_getI gX5_82 dX5_odds_47 ?_
          refine k_if_eq (tgt := 62) dX5_odds_50 (by decide) (fun _ => ?_) (fun _ => ?_)
          · refine k_ldc2 dX5_odds_62 klX5_180 ?_
            exact k_lret dX5_odds_65
          · refine k_to (pc' := 53) rfl ?_
            refine k_aload_n dX5_odds_53 rfl ?_
            refine k_cv0i wadM lkX5_171 obX5 (m_X5_least _) (by decide) (Nat.le_of_ble_eq_true rfl) dX5_odds_54 (fun r8 S9 => ?_)
            refine k_bipush dX5_odds_57 cb_m5 ?_
            refine k_icmp_eq (tgt := 66) dX5_odds_59 (by decide) (fun _ => ?_) (fun _ => ?_)
            · refine k_aload_n dX5_odds_66 rfl ?_
              refine k_aload_n dX5_odds_67 rfl ?_
              refine k_getI gX5_73 dX5_odds_68 ?_
              refine k_iconst dX5_odds_71 ci_m1 ?_
              refine k_iconst dX5_odds_72 ci_0 ?_
              refine k_cv3l wadM lkX5_182 obX5 (m_X5_sumAt _ _ _ _) (by decide) (Nat.le_of_ble_eq_true rfl) dX5_odds_73 (fun r10 S11 => ?_)
              refine k_lst4 dX5_odds_76 (by decide) rfl ?_
              refine k_lload dX5_odds_78 rfl ?_
              refine k_lconst dX5_odds_80 cl_0 ?_
              refine k_to (pc' := 81) rfl ?_
              refine k_lcmp dX5_odds_81 ?_
              refine k_if_ne (tgt := 92) dX5_odds_82 (by decide) (fun _ => ?_) (fun _ => ?_)
              · refine k_aload_n dX5_odds_92 rfl ?_
                refine k_aload_n dX5_odds_93 rfl ?_
                refine k_getI gX5_73 dX5_odds_94 ?_
                refine k_iload_n dX5_odds_97 rfl ?_
                refine k_iload_n dX5_odds_98 rfl ?_
                refine k_cv3l wadM lkX5_182 obX5 (m_X5_sumAt _ _ _ _) (by decide) (Nat.le_of_ble_eq_true rfl) dX5_odds_99 (fun r12 S13 => ?_)
                refine k_lst6 dX5_odds_102 (by decide) rfl ?_
                refine k_lload dX5_odds_104 rfl ?_
                refine k_lst8 dX5_odds_106 (by decide) rfl ?_
                refine k_to (pc' := 108) rfl ?_
                refine k_lload dX5_odds_108 rfl ?_
                refine k_lst10 dX5_odds_110 (by decide) rfl ?_
                refine k_to (pc' := 112) rfl ?_
                exact k_weak (wlp_X5_odds_112 X _ _ _ FU _ _ _) (And.intro rfl (And.intro rfl (And.intro rfl (And.intro rfl (And.intro rfl True.intro)))))
              · refine k_to (pc' := 85) rfl ?_
                refine k_aload_n dX5_odds_85 rfl ?_
                refine k_iconst dX5_odds_86 ci_1 ?_
                refine k_putI pX5_69 dX5_odds_87 ?_
                refine k_nxt ?_
                refine k_lconst dX5_odds_90 cl_0 ?_
                exact k_lret dX5_odds_91
            · refine k_to (pc' := 62) rfl ?_
              refine k_ldc2 dX5_odds_62 klX5_180 ?_
              exact k_lret dX5_odds_65
        · refine k_to (pc' := 42) rfl ?_
          refine k_ldc2 dX5_odds_42 klX5_178 ?_
          exact k_lret dX5_odds_45
theorem m_X5_odds {l : Launch} {D : va_G} {d : Dt} (x1 : Int32) (x2 : Int32) (x3 : Int32) (S : St) : ∀ (r : Int64) (S' : St), f_X5_odds x1 x2 x3 S = some (r, S') → Mt l D d wlM yX5_odds cX5_odds 14 (some .long) 3 [.ref (d.1 0), .int x1, .int x2, .int x3] S (jL r) S' := Mt_of wadM (by decide) (Nat.le_of_ble_eq_true rfl) (fun X hL hd => by subst hd; exact w_X5_odds X x1 x2 x3 S)
noncomputable def f_X5_lay (x1 : Int32) (x2 : Int32) (x3 : Int64) (S : St) : Option (Unit × St) := (chk (inB (gI S 25) 320) (nxt (sA S 16 (upd (gA S 16) ((gI S 25)).toNatClampNeg x1)) fun S1 => (chk (inB (gI S1 25) 320) (nxt (sA S1 17 (upd (gA S1 17) ((gI S1 25)).toNatClampNeg x2)) fun S2 => (chk (inB (gI S2 25) 320) (nxt (sB S2 18 (vp_updL (gB S2 18) ((gI S2 25)).toNatClampNeg x3)) fun S3 => (nxt (sI S3 25 ((gI S3 25) + (1 : Int32))) fun S4 => (some ((), S4)))))))))
set_option maxRecDepth 100000 in
set_option maxHeartbeats 4000000 in
theorem w_X5_lay (X : Cx) (x1 : Int32) (x2 : Int32) (x3 : Int64) (S : St) : KJ X (cX5_lay, RX5, 5, 1, none) wlM jV 0 [some (.ref (xa X 0)), some (.int x1), some (.int x2), some (.long x3), none] [] S (f_X5_lay x1 x2 x3 S) := by
  unfold f_X5_lay
  refine k_aload_n dX5_lay_0 rfl ?_
  refine k_getR gX5_57 dX5_lay_1 ?_
  refine k_aload_n dX5_lay_4 rfl ?_
  refine k_getI gX5_186 dX5_lay_5 ?_
  refine k_iload_n dX5_lay_8 rfl ?_
  refine k_iast aM_16 dX5_lay_9 ?_
  refine k_nxt ?_
  refine k_aload_n dX5_lay_10 rfl ?_
  refine k_getR gX5_60 dX5_lay_11 ?_
  refine k_aload_n dX5_lay_14 rfl ?_
  refine k_to (pc' := 15) rfl ?_
  refine k_getI gX5_186 dX5_lay_15 ?_
  refine k_iload_n dX5_lay_18 rfl ?_
  refine k_iast aM_17 dX5_lay_19 ?_
  refine k_nxt ?_
  refine k_aload_n dX5_lay_20 rfl ?_
  refine k_getR gX5_63 dX5_lay_21 ?_
  refine k_aload_n dX5_lay_24 rfl ?_
  refine k_getI gX5_186 dX5_lay_25 ?_
  refine k_lload_n dX5_lay_28 rfl ?_
  refine k_last aM_18 dX5_lay_29 ?_
  refine k_nxt ?_
  refine k_aload_n dX5_lay_30 rfl ?_
  refine k_to (pc' := 31) rfl ?_
  refine k_dup dX5_lay_31 rfl ?_
  refine k_getI gX5_186 dX5_lay_32 ?_
  refine k_iconst dX5_lay_35 ci_1 ?_
  refine k_iadd dX5_lay_36 ?_
  refine k_putI pX5_186 dX5_lay_37 ?_
  refine k_nxt ?_
  exact k_vret dX5_lay_40
theorem m_X5_lay {l : Launch} {D : va_G} {d : Dt} (x1 : Int32) (x2 : Int32) (x3 : Int64) (S : St) : ∀ (r : Unit) (S' : St), f_X5_lay x1 x2 x3 S = some (r, S') → Mt l D d wlM yX5_lay cX5_lay 5 none 1 [.ref (d.1 0), .int x1, .int x2, .long x3] S (jV r) S' := Mt_of wadM (by decide) (Nat.le_of_ble_eq_true rfl) (fun X hL hd => by subst hd; exact w_X5_lay X x1 x2 x3 S)
noncomputable def lp_X5_listed_148 (x1 : Int32) (x2 : Int32) (x3 : Int32) (k21 : Int32 → St → Option (Int32 × St)) : Nat → Int32 → St → Option (Int32 × St)
  | 0, _, _ => none
  | n + 1, x8, S => (if x8 < 0 then (if x3 ≤ (20000 : Int32) then (k21 x3 S) else (some ((-2 : Int32), S))) else (chk (inB x8 10) (chk (inB x8 10) (bnd (f_X5_lay (gI S 21) (gA S 14 (x8).toNatClampNeg) (gB S 15 (x8).toNatClampNeg) S) fun r13 S14 => (lp_X5_listed_148 x1 x2 x3 k21 n (x8 + (-1 : Int32)) S14)))))
set_option maxRecDepth 100000 in
set_option maxHeartbeats 4000000 in
theorem wlp_X5_listed_148 (X : Cx) (x1 : Int32) (x2 : Int32) (x3 : Int32) (k21 : Int32 → St → Option (Int32 × St)) (hk21 : ∀ (x3 : Int32) (S : St), KJ X (cX5_listed, RX5, 9, 4, (some .int)) wlM jI 21 [some (.ref (xa X 0)), some (.int x1), some (.int x2), some (.int x3), none, none, none, none, none] [] S (k21 x3 S)) : ∀ (n : Nat) (x8 : Int32) (S : St), KJ X (cX5_listed, RX5, 9, 4, (some .int)) wlM jI 148 [some (.ref (xa X 0)), some (.int x1), some (.int x2), some (.int x3), none, none, none, none, some (.int x8)] [] S (lp_X5_listed_148 x1 x2 x3 k21 n x8 S) := by
  intro n
  induction n with
  | zero => intro x8 S; rw [lp_X5_listed_148]; exact k_none
  | succ n ih =>
    intro x8 S
    rw [lp_X5_listed_148]
    refine k_iload dX5_listed_148 rfl ?_
    refine k_if_lt (tgt := 181) dX5_listed_150 (by decide) (fun _ => ?_) (fun _ => ?_)
    · refine k_iload_n dX5_listed_181 rfl ?_
      refine k_sipush dX5_listed_182 cs_20000 ?_
      refine k_icmp_le (tgt := 191) dX5_listed_185 (by decide) (fun _ => ?_) (fun _ => ?_)
      · refine k_goto (tgt := 21) dX5_listed_191 (by decide) ?_
        refine k_to (pc' := 21) rfl ?_
        exact k_weak (hk21 _ _) (And.intro rfl (And.intro rfl (And.intro rfl (And.intro rfl True.intro))))
      · refine k_to (pc' := 188) rfl ?_
        refine k_bipush dX5_listed_188 cb_m2 ?_
        exact k_iret dX5_listed_190
    · refine k_to (pc' := 153) rfl ?_
      refine k_aload_n dX5_listed_153 rfl ?_
      refine k_aload_n dX5_listed_154 rfl ?_
      refine k_getI gX5_115 dX5_listed_155 ?_
      refine k_aload_n dX5_listed_158 rfl ?_
      refine k_getR gX5_51 dX5_listed_159 ?_
      refine k_iload dX5_listed_162 rfl ?_
      refine k_iald aM_14 dX5_listed_164 ?_
      refine k_aload_n dX5_listed_165 rfl ?_
      refine k_getR gX5_54 dX5_listed_166 ?_
      refine k_to (pc' := 169) rfl ?_
      refine k_iload dX5_listed_169 rfl ?_
      refine k_lald aM_15 dX5_listed_171 ?_
      refine k_cv3v wadM lkX5_192 obX5 (m_X5_lay _ _ _ _) (by decide) (Nat.le_of_ble_eq_true rfl) dX5_listed_172 (fun r13 S14 => ?_)
      refine k_inc8 dX5_listed_175 ci_m1 (by decide) rfl ?_
      refine k_goto (tgt := 148) dX5_listed_178 (by decide) ?_
      refine k_to (pc' := 148) rfl ?_
      exact k_weak (ih _ _) (And.intro rfl (And.intro rfl (And.intro rfl (And.intro rfl (And.intro rfl True.intro)))))
noncomputable def lp_X5_listed_21 (x1 : Int32) (x2 : Int32) : Nat → Int32 → St → Option (Int32 × St)
  | 0, _, _ => none
  | n + 1, x3, S => (if (gI S 25) ≤ 0 then (some (x3, S)) else (nxt (sI S 25 ((gI S 25) - (1 : Int32))) fun S5 => (chk (inB (gI S5 25) 320) (nxt (gA S5 16 ((gI S5 25)).toNatClampNeg) fun y6 => (chk (inB (gI S5 25) 320) (nxt (gA S5 17 ((gI S5 25)).toNatClampNeg) fun y7 => (chk (inB (gI S5 25) 320) (nxt (gB S5 18 ((gI S5 25)).toNatClampNeg) fun y8 => (if y6 = (gI S5 1) then (if x1 < 0 then (nxt (sL S5 29 ((gL S5 29) + y8)) fun S17 => (if (x3 + (1 : Int32)) ≤ (20000 : Int32) then (lp_X5_listed_21 x1 x2 n (x3 + (1 : Int32)) S17) else (some ((-2 : Int32), S17)))) else (bnd (f_X5_digit y7 x1 S5) fun r18 S19 => (if r18 = x2 then (nxt (sL S19 29 ((gL S5 29) + y8)) fun S21 => (if (x3 + (1 : Int32)) ≤ (20000 : Int32) then (lp_X5_listed_21 x1 x2 n (x3 + (1 : Int32)) S21) else (some ((-2 : Int32), S21)))) else (nxt (sL S19 29 ((gL S5 29) + (0 : Int64))) fun S20 => (if (x3 + (1 : Int32)) ≤ (20000 : Int32) then (lp_X5_listed_21 x1 x2 n (x3 + (1 : Int32)) S20) else (some ((-2 : Int32), S20))))))) else (bnd (f_X5_go y6 y7 y8 S5) fun r9 S10 => (if (gI S10 20) = 0 then (nxt (x3 + (1 : Int32)) fun y15 => (nxt ((gI S10 20) - (1 : Int32)) fun y16 => (lp_X5_listed_148 x1 x2 y15 (lp_X5_listed_21 x1 x2 n) FU y16 S10))) else (nxt (x3 + (0 : Int32)) fun y11 => (nxt ((gI S10 20) - (1 : Int32)) fun y12 => (lp_X5_listed_148 x1 x2 y11 (lp_X5_listed_21 x1 x2 n) FU y12 S10))))))))))))))
set_option maxRecDepth 100000 in
set_option maxHeartbeats 4000000 in
theorem wlp_X5_listed_21 (X : Cx) (x1 : Int32) (x2 : Int32) : ∀ (n : Nat) (x3 : Int32) (S : St), KJ X (cX5_listed, RX5, 9, 4, (some .int)) wlM jI 21 [some (.ref (xa X 0)), some (.int x1), some (.int x2), some (.int x3), none, none, none, none, none] [] S (lp_X5_listed_21 x1 x2 n x3 S) := by
  intro n
  induction n with
  | zero => intro x3 S; rw [lp_X5_listed_21]; exact k_none
  | succ n ih =>
    intro x3 S
    rw [lp_X5_listed_21]
    refine k_aload_n dX5_listed_21 rfl ?_
    refine k_getI gX5_186 dX5_listed_22 ?_
    refine k_if_le (tgt := 194) dX5_listed_25 (by decide) (fun _ => ?_) (fun _ => ?_)
    · refine k_iload_n dX5_listed_194 rfl ?_
      exact k_iret dX5_listed_195
    · refine k_to (pc' := 28) rfl ?_
      refine k_aload_n dX5_listed_28 rfl ?_
      refine k_dup dX5_listed_29 rfl ?_
      refine k_getI gX5_186 dX5_listed_30 ?_
      refine k_iconst dX5_listed_33 ci_1 ?_
      refine k_isub dX5_listed_34 ?_
      refine k_putI pX5_186 dX5_listed_35 ?_
      refine k_nxt ?_
      refine k_aload_n dX5_listed_38 rfl ?_
      refine k_getR gX5_57 dX5_listed_39 ?_
      refine k_aload_n dX5_listed_42 rfl ?_
      refine k_to (pc' := 43) rfl ?_
      refine k_getI gX5_186 dX5_listed_43 ?_
      refine k_iald aM_16 dX5_listed_46 ?_
      refine k_ist4 dX5_listed_47 (by decide) rfl ?_
      refine k_nxt ?_
      refine k_aload_n dX5_listed_49 rfl ?_
      refine k_getR gX5_60 dX5_listed_50 ?_
      refine k_aload_n dX5_listed_53 rfl ?_
      refine k_getI gX5_186 dX5_listed_54 ?_
      refine k_iald aM_17 dX5_listed_57 ?_
      refine k_ist5 dX5_listed_58 (by decide) rfl ?_
      refine k_nxt ?_
      refine k_aload_n dX5_listed_60 rfl ?_
      refine k_to (pc' := 61) rfl ?_
      refine k_getR gX5_63 dX5_listed_61 ?_
      refine k_aload_n dX5_listed_64 rfl ?_
      refine k_getI gX5_186 dX5_listed_65 ?_
      refine k_lald aM_18 dX5_listed_68 ?_
      refine k_lst6 dX5_listed_69 (by decide) rfl ?_
      refine k_nxt ?_
      refine k_iload dX5_listed_71 rfl ?_
      refine k_aload_n dX5_listed_73 rfl ?_
      refine k_getI gX5_73 dX5_listed_74 ?_
      refine k_icmp_ne (tgt := 115) dX5_listed_77 (by decide) (fun _ => ?_) (fun _ => ?_)
      · refine k_aload_n dX5_listed_115 rfl ?_
        refine k_iload dX5_listed_116 rfl ?_
        refine k_iload dX5_listed_118 rfl ?_
        refine k_lload dX5_listed_120 rfl ?_
        refine k_cv3v wadM lkX5_165 obX5 (m_X5_go _ _ _ _) (by decide) (Nat.le_of_ble_eq_true rfl) dX5_listed_122 (fun r9 S10 => ?_)
        refine k_iload_n dX5_listed_125 rfl ?_
        refine k_aload_n dX5_listed_126 rfl ?_
        refine k_getI gX5_112 dX5_listed_127 ?_
        refine k_if_ne (tgt := 137) dX5_listed_130 (by decide) (fun _ => ?_) (fun _ => ?_)
        · refine k_iconst dX5_listed_137 ci_0 ?_
          refine k_iadd dX5_listed_138 ?_
          refine k_ist_n3 dX5_listed_139 (by decide) rfl ?_
          refine k_nxt ?_
          refine k_aload_n dX5_listed_140 rfl ?_
          refine k_getI gX5_112 dX5_listed_141 ?_
          refine k_iconst dX5_listed_144 ci_1 ?_
          refine k_isub dX5_listed_145 ?_
          refine k_ist8 dX5_listed_146 (by decide) rfl ?_
          refine k_nxt ?_
          refine k_to (pc' := 148) rfl ?_
          exact k_weak (wlp_X5_listed_148 X _ _ _ _ ih FU _ _) (And.intro rfl (And.intro rfl (And.intro rfl (And.intro rfl (And.intro rfl True.intro)))))
        · refine k_to (pc' := 133) rfl ?_
          refine k_iconst dX5_listed_133 ci_1 ?_
          refine k_goto (tgt := 138) dX5_listed_134 (by decide) ?_
          refine k_iadd dX5_listed_138 ?_
          refine k_ist_n3 dX5_listed_139 (by decide) rfl ?_
          refine k_nxt ?_
          refine k_aload_n dX5_listed_140 rfl ?_
          refine k_getI gX5_112 dX5_listed_141 ?_
          refine k_iconst dX5_listed_144 ci_1 ?_
          refine k_isub dX5_listed_145 ?_
          refine k_ist8 dX5_listed_146 (by decide) rfl ?_
          refine k_nxt ?_
          refine k_to (pc' := 148) rfl ?_
          exact k_weak (wlp_X5_listed_148 X _ _ _ _ ih FU _ _) (And.intro rfl (And.intro rfl (And.intro rfl (And.intro rfl (And.intro rfl True.intro)))))
      · refine k_to (pc' := 80) rfl ?_
        refine k_aload_n dX5_listed_80 rfl ?_
        refine k_dup dX5_listed_81 rfl ?_
        refine k_getL gX5_189 dX5_listed_82 ?_
        refine k_iload_n dX5_listed_85 rfl ?_
        refine k_if_lt (tgt := 99) dX5_listed_86 (by decide) (fun _ => ?_) (fun _ => ?_)
        · refine k_lload dX5_listed_99 rfl ?_
          refine k_goto (tgt := 105) dX5_listed_101 (by decide) ?_
          refine k_ladd dX5_listed_105 ?_
          refine k_putL pX5_189 dX5_listed_106 ?_
          refine k_nxt ?_
          refine k_inc3 dX5_listed_109 ci_1 (by decide) rfl ?_
          refine k_goto (tgt := 181) dX5_listed_112 (by decide) ?_
          refine k_iload_n dX5_listed_181 rfl ?_
          refine k_sipush dX5_listed_182 cs_20000 ?_
          refine k_icmp_le (tgt := 191) dX5_listed_185 (by decide) (fun _ => ?_) (fun _ => ?_)
          · refine k_goto (tgt := 21) dX5_listed_191 (by decide) ?_
            refine k_to (pc' := 21) rfl ?_
            exact k_weak (ih _ _) (And.intro rfl (And.intro rfl (And.intro rfl (And.intro rfl True.intro))))
          · refine k_to (pc' := 188) rfl ?_
            refine k_bipush dX5_listed_188 cb_m2 ?_
            exact k_iret dX5_listed_190
        · refine k_to (pc' := 89) rfl ?_
          refine k_iload dX5_listed_89 rfl ?_
          refine k_iload_n dX5_listed_91 rfl ?_
          refine k_cs2i wadM lkX5_108 (m_X5_digit _ _ _) (by decide) (Nat.le_of_ble_eq_true rfl) dX5_listed_92 (fun r18 S19 => ?_)
          refine k_iload_n dX5_listed_95 rfl ?_
          refine k_icmp_ne (tgt := 104) dX5_listed_96 (by decide) (fun _ => ?_) (fun _ => ?_)
          · refine k_lconst dX5_listed_104 cl_0 ?_
            refine k_ladd dX5_listed_105 ?_
            refine k_putL pX5_189 dX5_listed_106 ?_
            refine k_nxt ?_
            refine k_inc3 dX5_listed_109 ci_1 (by decide) rfl ?_
            refine k_goto (tgt := 181) dX5_listed_112 (by decide) ?_
            refine k_iload_n dX5_listed_181 rfl ?_
            refine k_sipush dX5_listed_182 cs_20000 ?_
            refine k_icmp_le (tgt := 191) dX5_listed_185 (by decide) (fun _ => ?_) (fun _ => ?_)
            · refine k_goto (tgt := 21) dX5_listed_191 (by decide) ?_
              refine k_to (pc' := 21) rfl ?_
              exact k_weak (ih _ _) (And.intro rfl (And.intro rfl (And.intro rfl (And.intro rfl True.intro))))
            · refine k_to (pc' := 188) rfl ?_
              refine k_bipush dX5_listed_188 cb_m2 ?_
              exact k_iret dX5_listed_190
          · refine k_to (pc' := 99) rfl ?_
            refine k_lload dX5_listed_99 rfl ?_
            refine k_goto (tgt := 105) dX5_listed_101 (by decide) ?_
            refine k_ladd dX5_listed_105 ?_
            refine k_putL pX5_189 dX5_listed_106 ?_
            refine k_nxt ?_
            refine k_inc3 dX5_listed_109 ci_1 (by decide) rfl ?_
            refine k_goto (tgt := 181) dX5_listed_112 (by decide) ?_
            refine k_iload_n dX5_listed_181 rfl ?_
            refine k_sipush dX5_listed_182 cs_20000 ?_
            refine k_icmp_le (tgt := 191) dX5_listed_185 (by decide) (fun _ => ?_) (fun _ => ?_)
            · refine k_goto (tgt := 21) dX5_listed_191 (by decide) ?_
              refine k_to (pc' := 21) rfl ?_
              exact k_weak (ih _ _) (And.intro rfl (And.intro rfl (And.intro rfl (And.intro rfl True.intro))))
            · refine k_to (pc' := 188) rfl ?_
              refine k_bipush dX5_listed_188 cb_m2 ?_
              exact k_iret dX5_listed_190
noncomputable def f_X5_listed (x1 : Int32) (x2 : Int32) (S : St) : Option (Int32 × St) := (nxt (sL S 29 (0 : Int64)) fun S1 => (nxt (sI S1 25 (0 : Int32)) fun S2 => (bnd (f_X5_lay (0 : Int32) (0 : Int32) (167961600000000 : Int64) S2) fun r3 S4 => (lp_X5_listed_21 x1 x2 FU (0 : Int32) S4))))
set_option maxRecDepth 100000 in
set_option maxHeartbeats 4000000 in
theorem w_X5_listed (X : Cx) (x1 : Int32) (x2 : Int32) (S : St) : KJ X (cX5_listed, RX5, 9, 4, (some .int)) wlM jI 0 [some (.ref (xa X 0)), some (.int x1), some (.int x2), none, none, none, none, none, none] [] S (f_X5_listed x1 x2 S) := by
  unfold f_X5_listed
  refine k_aload_n dX5_listed_0 rfl ?_
  refine k_lconst dX5_listed_1 cl_0 ?_
  refine k_putL pX5_189 dX5_listed_2 ?_
  refine k_nxt ?_
  refine k_aload_n dX5_listed_5 rfl ?_
  refine k_iconst dX5_listed_6 ci_0 ?_
  refine k_putI pX5_186 dX5_listed_7 ?_
  refine k_nxt ?_
  refine k_iconst dX5_listed_10 ci_0 ?_
  refine k_ist_n3 dX5_listed_11 (by decide) rfl ?_
  refine k_aload_n dX5_listed_12 rfl ?_
  refine k_to (pc' := 13) rfl ?_
  refine k_iconst dX5_listed_13 ci_0 ?_
  refine k_iconst dX5_listed_14 ci_0 ?_
  refine k_ldc2 dX5_listed_15 klX5_152 ?_
  refine k_cv3v wadM lkX5_192 obX5 (m_X5_lay _ _ _ _) (by decide) (Nat.le_of_ble_eq_true rfl) dX5_listed_18 (fun r3 S4 => ?_)
  refine k_to (pc' := 21) rfl ?_
  exact k_weak (wlp_X5_listed_21 X _ _ FU _ _) (And.intro rfl (And.intro rfl (And.intro rfl (And.intro rfl True.intro))))
theorem m_X5_listed {l : Launch} {D : va_G} {d : Dt} (x1 : Int32) (x2 : Int32) (S : St) : ∀ (r : Int32) (S' : St), f_X5_listed x1 x2 S = some (r, S') → Mt l D d wlM yX5_listed cX5_listed 9 (some .int) 4 [.ref (d.1 0), .int x1, .int x2] S (jI r) S' := Mt_of wadM (by decide) (Nat.le_of_ble_eq_true rfl) (fun X hL hd => by subst hd; exact w_X5_listed X x1 x2 S)
noncomputable def f_X5_runs (S : St) : Option (Int32 × St) := (nxt (sI S 0 (0 : Int32)) fun S1 => (bnd (f_X5_isUneven S1) fun r2 S3 => (if r2 = 0 then (bnd (f_X5_listed (-1 : Int32) (0 : Int32) S3) fun r4 S5 => (some (r4, S5))) else (some ((-4 : Int32), S3)))))
set_option maxRecDepth 100000 in
set_option maxHeartbeats 4000000 in
theorem w_X5_runs (X : Cx) (S : St) : KJ X (cX5_runs, RX5, 1, 5, (some .int)) wlM jI 0 [some (.ref (xa X 0))] [] S (f_X5_runs S) := by
  unfold f_X5_runs
  refine k_aload_n dX5_runs_0 rfl ?_
  refine k_iconst dX5_runs_1 ci_0 ?_
  refine k_putI pX5_69 dX5_runs_2 ?_
  refine k_nxt ?_
  refine k_aload_n dX5_runs_5 rfl ?_
  refine k_cv0i wadM lkX5_142 obX5 (m_X5_isUneven _) (by decide) (Nat.le_of_ble_eq_true rfl) dX5_runs_6 (fun r2 S3 => ?_)
  refine k_if_eq (tgt := 17) dX5_runs_9 (by decide) (fun _ => ?_) (fun _ => ?_)
  · refine k_aload_n dX5_runs_17 rfl ?_
    refine k_iconst dX5_runs_18 ci_m1 ?_
    refine k_iconst dX5_runs_19 ci_0 ?_
    refine k_cv2i wadM lkX5_195 obX5 (m_X5_listed _ _ _) (by decide) (Nat.le_of_ble_eq_true rfl) dX5_runs_20 (fun r4 S5 => ?_)
    exact k_iret dX5_runs_23
  · refine k_to (pc' := 12) rfl ?_
    refine k_bipush dX5_runs_12 cb_m4 ?_
    refine k_goto (tgt := 23) dX5_runs_14 (by decide) ?_
    exact k_iret dX5_runs_23
theorem m_X5_runs {l : Launch} {D : va_G} {d : Dt} (S : St) : ∀ (r : Int32) (S' : St), f_X5_runs S = some (r, S') → Mt l D d wlM yX5_runs cX5_runs 1 (some .int) 5 [.ref (d.1 0)] S (jI r) S' := Mt_of wadM (by decide) (Nat.le_of_ble_eq_true rfl) (fun X hL hd => by subst hd; exact w_X5_runs X S)
noncomputable def f_X5_plain (x1 : Int32) (x2 : Int32) (S : St) : Option (Int64 × St) := (nxt (sI S 0 (0 : Int32)) fun S1 => (bnd (f_X5_isIn x1 (-1 : Int32) (5 : Int32) S1) fun r2 S3 => (if r2 = 0 then (some ((-1 : Int64), S3)) else (if x1 < 0 then (bnd (f_X5_isUneven S3) fun r4 S5 => (if r4 = 0 then (bnd (f_X5_listed x1 x2 S5) fun r6 S7 => (if r6 = (-2 : Int32) then (some ((-2 : Int64), S7)) else (some ((gL S7 29), S7)))) else (some ((-4 : Int64), S5)))) else (bnd (f_X5_isIn x2 (0 : Int32) (9 : Int32) S3) fun r8 S9 => (if r8 = 0 then (some ((-1 : Int64), S9)) else (bnd (f_X5_isUneven S9) fun r10 S11 => (if r10 = 0 then (bnd (f_X5_listed x1 x2 S11) fun r12 S13 => (if r12 = (-2 : Int32) then (some ((-2 : Int64), S13)) else (some ((gL S13 29), S13)))) else (some ((-4 : Int64), S11))))))))))
set_option maxRecDepth 100000 in
set_option maxHeartbeats 4000000 in
theorem w_X5_plain (X : Cx) (x1 : Int32) (x2 : Int32) (S : St) : KJ X (cX5_plain, RX5, 3, 5, (some .long)) wlM jL 0 [some (.ref (xa X 0)), some (.int x1), some (.int x2)] [] S (f_X5_plain x1 x2 S) := by
  unfold f_X5_plain
  refine k_aload_n dX5_plain_0 rfl ?_
  refine k_iconst dX5_plain_1 ci_0 ?_
  refine k_putI pX5_69 dX5_plain_2 ?_
  refine k_nxt ?_
  refine k_iload_n dX5_plain_5 rfl ?_
  refine k_iconst dX5_plain_6 ci_m1 ?_
  refine k_iconst dX5_plain_7 ci_5 ?_
  refine k_cs3i wadM lkX5_86 (m_X5_isIn _ _ _ _) (by decide) (Nat.le_of_ble_eq_true rfl) dX5_plain_8 (fun r2 S3 => ?_)
  refine k_if_eq (tgt := 28) dX5_plain_11 (by decide) (fun _ => ?_) (fun _ => ?_)
  · refine k_ldc2 dX5_plain_28 klX5_178 ?_
    exact k_lret dX5_plain_31
  · refine k_to (pc' := 14) rfl ?_
    refine k_iload_n dX5_plain_14 rfl ?_
    refine k_if_lt (tgt := 32) dX5_plain_15 (by decide) (fun _ => ?_) (fun _ => ?_)
    · refine k_aload_n dX5_plain_32 rfl ?_
      refine k_cv0i wadM lkX5_142 obX5 (m_X5_isUneven _) (by decide) (Nat.le_of_ble_eq_true rfl) dX5_plain_33 (fun r4 S5 => ?_)
      refine k_if_eq (tgt := 43) dX5_plain_36 (by decide) (fun _ => ?_) (fun _ => ?_)
      · refine k_aload_n dX5_plain_43 rfl ?_
        refine k_iload_n dX5_plain_44 rfl ?_
        refine k_iload_n dX5_plain_45 rfl ?_
        refine k_cv2i wadM lkX5_195 obX5 (m_X5_listed _ _ _) (by decide) (Nat.le_of_ble_eq_true rfl) dX5_plain_46 (fun r6 S7 => ?_)
        refine k_bipush dX5_plain_49 cb_m2 ?_
        refine k_icmp_ne (tgt := 60) dX5_plain_51 (by decide) (fun _ => ?_) (fun _ => ?_)
        · refine k_aload_n dX5_plain_60 rfl ?_
          refine k_getL gX5_189 dX5_plain_61 ?_
          exact k_lret dX5_plain_64
        · refine k_to (pc' := 54) rfl ?_
          refine k_ldc2 dX5_plain_54 klX5_200 ?_
          refine k_goto (tgt := 64) dX5_plain_57 (by decide) ?_
          exact k_lret dX5_plain_64
      · refine k_to (pc' := 39) rfl ?_
        refine k_ldc2 dX5_plain_39 klX5_198 ?_
        exact k_lret dX5_plain_42
    · refine k_to (pc' := 18) rfl ?_
      refine k_iload_n dX5_plain_18 rfl ?_
      refine k_iconst dX5_plain_19 ci_0 ?_
      refine k_bipush dX5_plain_20 cb_9 ?_
      refine k_cs3i wadM lkX5_86 (m_X5_isIn _ _ _ _) (by decide) (Nat.le_of_ble_eq_true rfl) dX5_plain_22 (fun r8 S9 => ?_)
      refine k_if_ne (tgt := 32) dX5_plain_25 (by decide) (fun _ => ?_) (fun _ => ?_)
      · refine k_aload_n dX5_plain_32 rfl ?_
        refine k_cv0i wadM lkX5_142 obX5 (m_X5_isUneven _) (by decide) (Nat.le_of_ble_eq_true rfl) dX5_plain_33 (fun r10 S11 => ?_)
        refine k_if_eq (tgt := 43) dX5_plain_36 (by decide) (fun _ => ?_) (fun _ => ?_)
        · refine k_aload_n dX5_plain_43 rfl ?_
          refine k_iload_n dX5_plain_44 rfl ?_
          refine k_iload_n dX5_plain_45 rfl ?_
          refine k_cv2i wadM lkX5_195 obX5 (m_X5_listed _ _ _) (by decide) (Nat.le_of_ble_eq_true rfl) dX5_plain_46 (fun r12 S13 => ?_)
          refine k_bipush dX5_plain_49 cb_m2 ?_
          refine k_icmp_ne (tgt := 60) dX5_plain_51 (by decide) (fun _ => ?_) (fun _ => ?_)
          · refine k_aload_n dX5_plain_60 rfl ?_
            refine k_getL gX5_189 dX5_plain_61 ?_
            exact k_lret dX5_plain_64
          · refine k_to (pc' := 54) rfl ?_
            refine k_ldc2 dX5_plain_54 klX5_200 ?_
            refine k_goto (tgt := 64) dX5_plain_57 (by decide) ?_
            exact k_lret dX5_plain_64
        · refine k_to (pc' := 39) rfl ?_
          refine k_ldc2 dX5_plain_39 klX5_198 ?_
          exact k_lret dX5_plain_42
      · refine k_to (pc' := 28) rfl ?_
        refine k_ldc2 dX5_plain_28 klX5_178 ?_
        exact k_lret dX5_plain_31
theorem m_X5_plain {l : Launch} {D : va_G} {d : Dt} (x1 : Int32) (x2 : Int32) (S : St) : ∀ (r : Int64) (S' : St), f_X5_plain x1 x2 S = some (r, S') → Mt l D d wlM yX5_plain cX5_plain 3 (some .long) 5 [.ref (d.1 0), .int x1, .int x2] S (jL r) S' := Mt_of wadM (by decide) (Nat.le_of_ble_eq_true rfl) (fun X hL hd => by subst hd; exact w_X5_plain X x1 x2 S)
noncomputable def f_X5_count (x1 : Int32) (S : St) : Option (Int32 × St) := (nxt (sI S 0 (0 : Int32)) fun S1 => (if x1 = 0 then (some ((gI S1 1), S1)) else (if x1 = (1 : Int32) then (some ((gI S1 2), S1)) else (if x1 = (2 : Int32) then (some ((gI S1 3), S1)) else (if x1 = (3 : Int32) then (if (gI S1 11) = 0 then (some ((0 : Int32), S1)) else (some ((gI S1 12), S1))) else (some ((-1 : Int32), S1)))))))
set_option maxRecDepth 100000 in
set_option maxHeartbeats 4000000 in
theorem w_X5_count (X : Cx) (x1 : Int32) (S : St) : KJ X (cX5_count, RX5, 2, 1, (some .int)) wlM jI 0 [some (.ref (xa X 0)), some (.int x1)] [] S (f_X5_count x1 S) := by
  unfold f_X5_count
  refine k_aload_n dX5_count_0 rfl ?_
  refine k_iconst dX5_count_1 ci_0 ?_
  refine k_putI pX5_69 dX5_count_2 ?_
  refine k_nxt ?_
  refine k_iload_n dX5_count_5 rfl ?_
  refine k_if_ne (tgt := 16) dX5_count_6 (by decide) (fun _ => ?_) (fun _ => ?_)
  · refine k_iload_n dX5_count_16 rfl ?_
    refine k_iconst dX5_count_17 ci_1 ?_
    refine k_icmp_ne (tgt := 28) dX5_count_18 (by decide) (fun _ => ?_) (fun _ => ?_)
    · refine k_iload_n dX5_count_28 rfl ?_
      refine k_iconst dX5_count_29 ci_2 ?_
      refine k_icmp_ne (tgt := 40) dX5_count_30 (by decide) (fun _ => ?_) (fun _ => ?_)
      · refine k_iload_n dX5_count_40 rfl ?_
        refine k_iconst dX5_count_41 ci_3 ?_
        refine k_icmp_ne (tgt := 63) dX5_count_42 (by decide) (fun _ => ?_) (fun _ => ?_)
        · refine k_iconst dX5_count_63 ci_m1 ?_
          exact k_iret dX5_count_64
        · refine k_to (pc' := 45) rfl ?_
          refine k_aload_n dX5_count_45 rfl ?_
          refine k_getI gX5_82 dX5_count_46 ?_
          refine k_if_eq (tgt := 59) dX5_count_49 (by decide) (fun _ => ?_) (fun _ => ?_)
          · refine k_iconst dX5_count_59 ci_0 ?_
            refine k_goto (tgt := 64) dX5_count_60 (by decide) ?_
            exact k_iret dX5_count_64
          · refine k_to (pc' := 52) rfl ?_
            refine k_aload_n dX5_count_52 rfl ?_
            refine k_getI gX5_146 dX5_count_53 ?_
            refine k_goto (tgt := 64) dX5_count_56 (by decide) ?_
            exact k_iret dX5_count_64
      · refine k_to (pc' := 33) rfl ?_
        refine k_aload_n dX5_count_33 rfl ?_
        refine k_getI gX5_79 dX5_count_34 ?_
        refine k_goto (tgt := 64) dX5_count_37 (by decide) ?_
        exact k_iret dX5_count_64
    · refine k_to (pc' := 21) rfl ?_
      refine k_aload_n dX5_count_21 rfl ?_
      refine k_getI gX5_76 dX5_count_22 ?_
      refine k_goto (tgt := 64) dX5_count_25 (by decide) ?_
      exact k_iret dX5_count_64
  · refine k_to (pc' := 9) rfl ?_
    refine k_aload_n dX5_count_9 rfl ?_
    refine k_getI gX5_73 dX5_count_10 ?_
    refine k_goto (tgt := 64) dX5_count_13 (by decide) ?_
    exact k_iret dX5_count_64
theorem m_X5_count {l : Launch} {D : va_G} {d : Dt} (x1 : Int32) (S : St) : ∀ (r : Int32) (S' : St), f_X5_count x1 S = some (r, S') → Mt l D d wlM yX5_count cX5_count 2 (some .int) 1 [.ref (d.1 0), .int x1] S (jI r) S' := Mt_of wadM (by decide) (Nat.le_of_ble_eq_true rfl) (fun X hL hd => by subst hd; exact w_X5_count X x1 S)
noncomputable def f_X5_clear (S : St) : Option (Int32 × St) := (nxt (sI S 0 (0 : Int32)) fun S1 => (nxt (gI S1 1) fun y2 => (bnd (f_X5_reset S1) fun r3 S4 => (some (y2, S4)))))
set_option maxRecDepth 100000 in
set_option maxHeartbeats 4000000 in
theorem w_X5_clear (X : Cx) (S : St) : KJ X (cX5_clear, RX5, 2, 2, (some .int)) wlM jI 0 [some (.ref (xa X 0)), none] [] S (f_X5_clear S) := by
  unfold f_X5_clear
  refine k_aload_n dX5_clear_0 rfl ?_
  refine k_iconst dX5_clear_1 ci_0 ?_
  refine k_putI pX5_69 dX5_clear_2 ?_
  refine k_nxt ?_
  refine k_aload_n dX5_clear_5 rfl ?_
  refine k_getI gX5_73 dX5_clear_6 ?_
  refine k_ist_n1 dX5_clear_9 (by decide) rfl ?_
  refine k_nxt ?_
  refine k_aload_n dX5_clear_10 rfl ?_
  refine k_cv0v wadM lkX5_66 obX5 (m_X5_reset _) (by decide) (Nat.le_of_ble_eq_true rfl) dX5_clear_11 (fun r3 S4 => ?_)
  refine k_iload_n dX5_clear_14 rfl ?_
  refine k_to (pc' := 15) rfl ?_
  exact k_iret dX5_clear_15
theorem m_X5_clear {l : Launch} {D : va_G} {d : Dt} (S : St) : ∀ (r : Int32) (S' : St), f_X5_clear S = some (r, S') → Mt l D d wlM yX5_clear cX5_clear 2 (some .int) 2 [.ref (d.1 0)] S (jI r) S' := Mt_of wadM (by decide) (Nat.le_of_ble_eq_true rfl) (fun X hL hd => by subst hd; exact w_X5_clear X S)
