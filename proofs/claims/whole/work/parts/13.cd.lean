/-! ===== printed by gen.py out of the bytecode: functions and walks ===== -/

noncomputable def f_X3_tally (S : St) : Option (Int32 × St) := (bnd (f_X2_isUneven S) fun r1 S2 => (if r1 = 0 then (if (gI S2 304) = 0 then (bnd (f_X3_empty S2) fun r3 S4 => (bnd (f_X3_follow (0 : Int32) (0 : Int32) (167961600000000 : Int64) (0 : Int32) S4) fun r5 S6 => (nxt (sI S6 304 (1 : Int32)) fun S7 => (if (gI S7 303) ≤ (20000 : Int32) then (some ((gI S7 303), S7)) else (some ((-2 : Int32), S7)))))) else (if (gI S2 303) ≤ (20000 : Int32) then (some ((gI S2 303), S2)) else (some ((-2 : Int32), S2)))) else (some ((-4 : Int32), S2))))
set_option maxRecDepth 100000 in
set_option maxHeartbeats 4000000 in
theorem w_X3_tally (X : Cx) (S : St) : KJ X (cX3_tally, RX3, 1, 101, (some .int)) wlC jI 0 [some (.ref (xa X 3))] [] S (f_X3_tally S) := by
  unfold f_X3_tally
  refine k_aload_n dX3_tally_0 rfl ?_
  refine k_getR gX3_16 dX3_tally_1 ?_
  refine k_cv0i wadC lkX3_24 obX2 (m_X2_isUneven _) (by decide) (Nat.le_of_ble_eq_true rfl) dX3_tally_4 (fun r1 S2 => ?_)
  refine k_if_eq (tgt := 13) dX3_tally_7 (by decide) (fun _ => ?_) (fun _ => ?_)
  · refine k_aload_n dX3_tally_13 rfl ?_
    refine k_getI gX3_20 dX3_tally_14 ?_
    refine k_if_ne (tgt := 39) dX3_tally_17 (by decide) (fun _ => ?_) (fun _ => ?_)
    · refine k_aload_n dX3_tally_39 rfl ?_
      refine k_getI gX3_39 dX3_tally_40 ?_
      refine k_sipush dX3_tally_43 cs_20000 ?_
      refine k_icmp_le (tgt := 54) dX3_tally_46 (by decide) (fun _ => ?_) (fun _ => ?_)
      · refine k_aload_n dX3_tally_54 rfl ?_
        refine k_getI gX3_39 dX3_tally_55 ?_
        exact k_iret dX3_tally_58
      · refine k_to (pc' := 49) rfl ?_
        refine k_bipush dX3_tally_49 cb_m2 ?_
        refine k_goto (tgt := 58) dX3_tally_51 (by decide) ?_
        exact k_iret dX3_tally_58
    · refine k_to (pc' := 20) rfl ?_
      refine k_aload_n dX3_tally_20 rfl ?_
      refine k_cv0v wadC lkX3_30 obX3 (m_X3_empty _) (by decide) (Nat.le_of_ble_eq_true rfl) dX3_tally_21 (fun r3 S4 => ?_)
      refine k_aload_n dX3_tally_24 rfl ?_
      refine k_iconst dX3_tally_25 ci_0 ?_
      refine k_iconst dX3_tally_26 ci_0 ?_
      refine k_ldc2 dX3_tally_27 klX3_33 ?_
      refine k_iconst dX3_tally_30 ci_0 ?_
      refine k_cv4v wadC lkX3_35 obX3 (m_X3_follow _ _ _ _ _) (by decide) (Nat.le_of_ble_eq_true rfl) dX3_tally_31 (fun r5 S6 => ?_)
      refine k_aload_n dX3_tally_34 rfl ?_
      refine k_to (pc' := 35) rfl ?_
      refine k_iconst dX3_tally_35 ci_1 ?_
      refine k_putZ pX3_20 (Or.inr rfl) dX3_tally_36 ?_
      refine k_nxt ?_
      refine k_aload_n dX3_tally_39 rfl ?_
      refine k_getI gX3_39 dX3_tally_40 ?_
      refine k_sipush dX3_tally_43 cs_20000 ?_
      refine k_icmp_le (tgt := 54) dX3_tally_46 (by decide) (fun _ => ?_) (fun _ => ?_)
      · refine k_aload_n dX3_tally_54 rfl ?_
        refine k_getI gX3_39 dX3_tally_55 ?_
        exact k_iret dX3_tally_58
      · refine k_to (pc' := 49) rfl ?_
        refine k_bipush dX3_tally_49 cb_m2 ?_
        refine k_goto (tgt := 58) dX3_tally_51 (by decide) ?_
        exact k_iret dX3_tally_58
  · refine k_to (pc' := 10) rfl ?_
    refine k_bipush dX3_tally_10 cb_m4 ?_
    exact k_iret dX3_tally_12
theorem m_X3_tally {l : Launch} {D : va_G} {d : Dt} (S : St) : ∀ (r : Int32) (S' : St), f_X3_tally S = some (r, S') → Mt l D d wlC yX3_tally cX3_tally 1 (some .int) 101 [.ref (d.1 3)] S (jI r) S' := Mt_of wadC (by decide) (Nat.le_of_ble_eq_true rfl) (fun X hL hd => by subst hd; exact w_X3_tally X S)
noncomputable def f_X4_programChanged (S : St) : Option (Unit × St) := (bnd (f_X1_end S) fun r1 S2 => (bnd (f_X3_forget S2) fun r3 S4 => (some ((), S4))))
set_option maxRecDepth 100000 in
set_option maxHeartbeats 4000000 in
theorem w_X4_programChanged (X : Cx) (S : St) : KJ X (cX4_programChanged, RX4, 1, 2, none) wlC jV 0 [some (.ref (xa X 0))] [] S (f_X4_programChanged S) := by
  unfold f_X4_programChanged
  refine k_aload_n dX4_programChanged_0 rfl ?_
  refine k_getR gX4_21 dX4_programChanged_1 ?_
  refine k_cv0v wadC lkX4_64 obX1 (m_X1_end _) (by decide) (Nat.le_of_ble_eq_true rfl) dX4_programChanged_4 (fun r1 S2 => ?_)
  refine k_aload_n dX4_programChanged_7 rfl ?_
  refine k_getR gX4_28 dX4_programChanged_8 ?_
  refine k_cv0v wadC lkX4_188 obX3 (m_X3_forget _) (by decide) (Nat.le_of_ble_eq_true rfl) dX4_programChanged_11 (fun r3 S4 => ?_)
  exact k_vret dX4_programChanged_14
theorem m_X4_programChanged {l : Launch} {D : va_G} {d : Dt} (S : St) : ∀ (r : Unit) (S' : St), f_X4_programChanged S = some (r, S') → Mt l D d wlC yX4_programChanged cX4_programChanged 1 none 2 [.ref (d.1 0)] S (jV r) S' := Mt_of wadC (by decide) (Nat.le_of_ble_eq_true rfl) (fun X hL hd => by subst hd; exact w_X4_programChanged X S)
noncomputable def f_X4_weight (x1 : Int32) (x2 : Int32) (x3 : Int32) (S : St) : Option (Int32 × St) := (bnd (f_X4_isRow x1 S) fun r1 S2 => (if r1 = 0 then (some ((-1 : Int32), S2)) else (bnd (f_X4_isValue x2 S2) fun r3 S4 => (if r3 = 0 then (some ((-1 : Int32), S4)) else (if x3 < 0 then (some ((-1 : Int32), S4)) else (if x3 ≤ (60 : Int32) then (bnd (f_X4_programChanged S4) fun r5 S6 => (bnd (f_X2_swapWeight x1 x2 x3 S6) fun r7 S8 => (some (r7, S8)))) else (some ((-1 : Int32), S4))))))))
set_option maxRecDepth 100000 in
set_option maxHeartbeats 4000000 in
theorem w_X4_weight (X : Cx) (x1 : Int32) (x2 : Int32) (x3 : Int32) (S : St) : KJ X (cX4_weight, RX4, 4, 3, (some .int)) wlC jI 0 [some (.ref (xa X 0)), some (.int x1), some (.int x2), some (.int x3)] [] S (f_X4_weight x1 x2 x3 S) := by
  unfold f_X4_weight
  refine k_iload_n dX4_weight_0 rfl ?_
  refine k_cs1i wadC lkX4_32 (m_X4_isRow _ _) (by decide) (Nat.le_of_ble_eq_true rfl) dX4_weight_1 (fun r1 S2 => ?_)
  refine k_if_eq (tgt := 24) dX4_weight_4 (by decide) (fun _ => ?_) (fun _ => ?_)
  · refine k_iconst dX4_weight_24 ci_m1 ?_
    exact k_iret dX4_weight_25
  · refine k_to (pc' := 7) rfl ?_
    refine k_iload_n dX4_weight_7 rfl ?_
    refine k_cs1i wadC lkX4_36 (m_X4_isValue _ _) (by decide) (Nat.le_of_ble_eq_true rfl) dX4_weight_8 (fun r3 S4 => ?_)
    refine k_if_eq (tgt := 24) dX4_weight_11 (by decide) (fun _ => ?_) (fun _ => ?_)
    · refine k_iconst dX4_weight_24 ci_m1 ?_
      exact k_iret dX4_weight_25
    · refine k_to (pc' := 14) rfl ?_
      refine k_iload_n dX4_weight_14 rfl ?_
      refine k_if_lt (tgt := 24) dX4_weight_15 (by decide) (fun _ => ?_) (fun _ => ?_)
      · refine k_iconst dX4_weight_24 ci_m1 ?_
        exact k_iret dX4_weight_25
      · refine k_to (pc' := 18) rfl ?_
        refine k_iload_n dX4_weight_18 rfl ?_
        refine k_bipush dX4_weight_19 cb_60 ?_
        refine k_icmp_le (tgt := 26) dX4_weight_21 (by decide) (fun _ => ?_) (fun _ => ?_)
        · refine k_aload_n dX4_weight_26 rfl ?_
          refine k_cv0v wadC lkX4_39 obX4 (m_X4_programChanged _) (by decide) (Nat.le_of_ble_eq_true rfl) dX4_weight_27 (fun r5 S6 => ?_)
          refine k_aload_n dX4_weight_30 rfl ?_
          refine k_getR gX4_12 dX4_weight_31 ?_
          refine k_iload_n dX4_weight_34 rfl ?_
          refine k_iload_n dX4_weight_35 rfl ?_
          refine k_iload_n dX4_weight_36 rfl ?_
          refine k_cv3i wadC lkX4_42 obX2 (m_X2_swapWeight _ _ _ _) (by decide) (Nat.le_of_ble_eq_true rfl) dX4_weight_37 (fun r7 S8 => ?_)
          exact k_iret dX4_weight_40
        · refine k_to (pc' := 24) rfl ?_
          refine k_iconst dX4_weight_24 ci_m1 ?_
          exact k_iret dX4_weight_25
theorem m_X4_weight {l : Launch} {D : va_G} {d : Dt} (x1 : Int32) (x2 : Int32) (x3 : Int32) (S : St) : ∀ (r : Int32) (S' : St), f_X4_weight x1 x2 x3 S = some (r, S') → Mt l D d wlC yX4_weight cX4_weight 4 (some .int) 3 [.ref (d.1 0), .int x1, .int x2, .int x3] S (jI r) S' := Mt_of wadC (by decide) (Nat.le_of_ble_eq_true rfl) (fun X hL hd => by subst hd; exact w_X4_weight X x1 x2 x3 S)
noncomputable def f_X4_addStep (x1 : Int32) (x2 : Int32) (x3 : Int32) (x4 : Int32) (x5 : Int32) (S : St) : Option (Int32 × St) := (bnd (f_X2_isFullFor x1 S) fun r1 S2 => (if r1 = 0 then (bnd (f_X4_programChanged S2) fun r3 S4 => (bnd (f_X2_append x1 x2 x3 x4 x5 S4) fun r5 S6 => (some (r5, S6)))) else (some ((-2 : Int32), S2))))
set_option maxRecDepth 100000 in
set_option maxHeartbeats 4000000 in
theorem w_X4_addStep (X : Cx) (x1 : Int32) (x2 : Int32) (x3 : Int32) (x4 : Int32) (x5 : Int32) (S : St) : KJ X (cX4_addStep, RX4, 6, 3, (some .int)) wlC jI 0 [some (.ref (xa X 0)), some (.int x1), some (.int x2), some (.int x3), some (.int x4), some (.int x5)] [] S (f_X4_addStep x1 x2 x3 x4 x5 S) := by
  unfold f_X4_addStep
  refine k_aload_n dX4_addStep_0 rfl ?_
  refine k_getR gX4_12 dX4_addStep_1 ?_
  refine k_iload_n dX4_addStep_4 rfl ?_
  refine k_cv1i wadC lkX4_182 obX2 (m_X2_isFullFor _ _) (by decide) (Nat.le_of_ble_eq_true rfl) dX4_addStep_5 (fun r1 S2 => ?_)
  refine k_if_eq (tgt := 14) dX4_addStep_8 (by decide) (fun _ => ?_) (fun _ => ?_)
  · refine k_aload_n dX4_addStep_14 rfl ?_
    refine k_cv0v wadC lkX4_39 obX4 (m_X4_programChanged _) (by decide) (Nat.le_of_ble_eq_true rfl) dX4_addStep_15 (fun r3 S4 => ?_)
    refine k_aload_n dX4_addStep_18 rfl ?_
    refine k_getR gX4_12 dX4_addStep_19 ?_
    refine k_iload_n dX4_addStep_22 rfl ?_
    refine k_iload_n dX4_addStep_23 rfl ?_
    refine k_iload_n dX4_addStep_24 rfl ?_
    refine k_iload dX4_addStep_25 rfl ?_
    refine k_iload dX4_addStep_27 rfl ?_
    refine k_to (pc' := 29) rfl ?_
    refine k_cv5i wadC lkX4_185 obX2 (m_X2_append _ _ _ _ _ _) (by decide) (Nat.le_of_ble_eq_true rfl) dX4_addStep_29 (fun r5 S6 => ?_)
    exact k_iret dX4_addStep_32
  · refine k_to (pc' := 11) rfl ?_
    refine k_bipush dX4_addStep_11 cb_m2 ?_
    exact k_iret dX4_addStep_13
theorem m_X4_addStep {l : Launch} {D : va_G} {d : Dt} (x1 : Int32) (x2 : Int32) (x3 : Int32) (x4 : Int32) (x5 : Int32) (S : St) : ∀ (r : Int32) (S' : St), f_X4_addStep x1 x2 x3 x4 x5 S = some (r, S') → Mt l D d wlC yX4_addStep cX4_addStep 6 (some .int) 3 [.ref (d.1 0), .int x1, .int x2, .int x3, .int x4, .int x5] S (jI r) S' := Mt_of wadC (by decide) (Nat.le_of_ble_eq_true rfl) (fun X hL hd => by subst hd; exact w_X4_addStep X x1 x2 x3 x4 x5 S)
noncomputable def f_X4_draw (x1 : Int32) (x2 : Int32) (S : St) : Option (Int32 × St) := (bnd (f_X4_isVariable x1 S) fun r1 S2 => (if r1 = 0 then (some ((-1 : Int32), S2)) else (bnd (f_X4_isRow x2 S2) fun r3 S4 => (if r3 = 0 then (some ((-1 : Int32), S4)) else (bnd (f_X4_addStep (0 : Int32) x1 x2 (10 : Int32) (10 : Int32) S4) fun r5 S6 => (some (r5, S6)))))))
set_option maxRecDepth 100000 in
set_option maxHeartbeats 4000000 in
theorem w_X4_draw (X : Cx) (x1 : Int32) (x2 : Int32) (S : St) : KJ X (cX4_draw, RX4, 3, 4, (some .int)) wlC jI 0 [some (.ref (xa X 0)), some (.int x1), some (.int x2)] [] S (f_X4_draw x1 x2 S) := by
  unfold f_X4_draw
  refine k_iload_n dX4_draw_0 rfl ?_
  refine k_cs1i wadC lkX4_46 (m_X4_isVariable _ _) (by decide) (Nat.le_of_ble_eq_true rfl) dX4_draw_1 (fun r1 S2 => ?_)
  refine k_if_eq (tgt := 14) dX4_draw_4 (by decide) (fun _ => ?_) (fun _ => ?_)
  · refine k_iconst dX4_draw_14 ci_m1 ?_
    exact k_iret dX4_draw_15
  · refine k_to (pc' := 7) rfl ?_
    refine k_iload_n dX4_draw_7 rfl ?_
    refine k_cs1i wadC lkX4_32 (m_X4_isRow _ _) (by decide) (Nat.le_of_ble_eq_true rfl) dX4_draw_8 (fun r3 S4 => ?_)
    refine k_if_ne (tgt := 16) dX4_draw_11 (by decide) (fun _ => ?_) (fun _ => ?_)
    · refine k_aload_n dX4_draw_16 rfl ?_
      refine k_iconst dX4_draw_17 ci_0 ?_
      refine k_iload_n dX4_draw_18 rfl ?_
      refine k_iload_n dX4_draw_19 rfl ?_
      refine k_bipush dX4_draw_20 cb_10 ?_
      refine k_bipush dX4_draw_22 cb_10 ?_
      refine k_cv5i wadC lkX4_49 obX4 (m_X4_addStep _ _ _ _ _ _) (by decide) (Nat.le_of_ble_eq_true rfl) dX4_draw_24 (fun r5 S6 => ?_)
      exact k_iret dX4_draw_27
    · refine k_to (pc' := 14) rfl ?_
      refine k_iconst dX4_draw_14 ci_m1 ?_
      exact k_iret dX4_draw_15
theorem m_X4_draw {l : Launch} {D : va_G} {d : Dt} (x1 : Int32) (x2 : Int32) (S : St) : ∀ (r : Int32) (S' : St), f_X4_draw x1 x2 S = some (r, S') → Mt l D d wlC yX4_draw cX4_draw 3 (some .int) 4 [.ref (d.1 0), .int x1, .int x2] S (jI r) S' := Mt_of wadC (by decide) (Nat.le_of_ble_eq_true rfl) (fun X hL hd => by subst hd; exact w_X4_draw X x1 x2 S)
noncomputable def f_X4_isTerm (x0 : Int32) (S : St) : Option (Int32 × St) := (bnd (f_X4_isVariable x0 S) fun r1 S2 => (if r1 = 0 then (bnd (f_X4_isValue (x0 - (10 : Int32)) S2) fun r3 S4 => (if r3 = 0 then (some ((0 : Int32), S4)) else (some ((1 : Int32), S4)))) else (some ((1 : Int32), S2))))
set_option maxRecDepth 100000 in
set_option maxHeartbeats 4000000 in
theorem w_X4_isTerm (X : Cx) (x0 : Int32) (S : St) : KJ X (cX4_isTerm, RX4, 1, 2, (some .boolean)) wlC jI 0 [some (.int x0)] [] S (f_X4_isTerm x0 S) := by
  unfold f_X4_isTerm
  refine k_iload_n dX4_isTerm_0 rfl ?_
  refine k_cs1i wadC lkX4_46 (m_X4_isVariable _ _) (by decide) (Nat.le_of_ble_eq_true rfl) dX4_isTerm_1 (fun r1 S2 => ?_)
  refine k_if_ne (tgt := 17) dX4_isTerm_4 (by decide) (fun _ => ?_) (fun _ => ?_)
  · refine k_iconst dX4_isTerm_17 ci_1 ?_
    refine k_goto (tgt := 22) dX4_isTerm_18 (by decide) ?_
    exact k_zret (Or.inr rfl) dX4_isTerm_22
  · refine k_to (pc' := 7) rfl ?_
    refine k_iload_n dX4_isTerm_7 rfl ?_
    refine k_bipush dX4_isTerm_8 cb_10 ?_
    refine k_isub dX4_isTerm_10 ?_
    refine k_cs1i wadC lkX4_36 (m_X4_isValue _ _) (by decide) (Nat.le_of_ble_eq_true rfl) dX4_isTerm_11 (fun r3 S4 => ?_)
    refine k_if_eq (tgt := 21) dX4_isTerm_14 (by decide) (fun _ => ?_) (fun _ => ?_)
    · refine k_iconst dX4_isTerm_21 ci_0 ?_
      exact k_zret (Or.inl rfl) dX4_isTerm_22
    · refine k_to (pc' := 17) rfl ?_
      refine k_iconst dX4_isTerm_17 ci_1 ?_
      refine k_goto (tgt := 22) dX4_isTerm_18 (by decide) ?_
      exact k_zret (Or.inr rfl) dX4_isTerm_22
theorem m_X4_isTerm {l : Launch} {D : va_G} {d : Dt} (x0 : Int32) (S : St) : ∀ (r : Int32) (S' : St), f_X4_isTerm x0 S = some (r, S') → Mt l D d wlC yX4_isTerm cX4_isTerm 1 (some .boolean) 2 [.int x0] S (jI r) S' := Mt_of wadC (by decide) (Nat.le_of_ble_eq_true rfl) (fun X hL hd => by subst hd; exact w_X4_isTerm X x0 S)
noncomputable def f_X4_set (x1 : Int32) (x2 : Int32) (x3 : Int32) (x4 : Int32) (S : St) : Option (Int32 × St) := (bnd (f_X4_isVariable x1 S) fun r1 S2 => (if r1 = 0 then (some ((-1 : Int32), S2)) else (if x2 < 0 then (some ((-1 : Int32), S2)) else (if (6 : Int32) < x2 then (some ((-1 : Int32), S2)) else (bnd (f_X4_isTerm x3 S2) fun r3 S4 => (if r3 = 0 then (some ((-1 : Int32), S4)) else (bnd (f_X4_isTerm x4 S4) fun r5 S6 => (if r5 = 0 then (some ((-1 : Int32), S6)) else (bnd (f_X4_addStep (1 : Int32) x1 x2 x3 x4 S6) fun r7 S8 => (some (r7, S8)))))))))))
set_option maxRecDepth 100000 in
set_option maxHeartbeats 4000000 in
theorem w_X4_set (X : Cx) (x1 : Int32) (x2 : Int32) (x3 : Int32) (x4 : Int32) (S : St) : KJ X (cX4_set, RX4, 5, 4, (some .int)) wlC jI 0 [some (.ref (xa X 0)), some (.int x1), some (.int x2), some (.int x3), some (.int x4)] [] S (f_X4_set x1 x2 x3 x4 S) := by
  unfold f_X4_set
  refine k_iload_n dX4_set_0 rfl ?_
  refine k_cs1i wadC lkX4_46 (m_X4_isVariable _ _) (by decide) (Nat.le_of_ble_eq_true rfl) dX4_set_1 (fun r1 S2 => ?_)
  refine k_if_eq (tgt := 32) dX4_set_4 (by decide) (fun _ => ?_) (fun _ => ?_)
  · refine k_iconst dX4_set_32 ci_m1 ?_
    exact k_iret dX4_set_33
  · refine k_to (pc' := 7) rfl ?_
    refine k_iload_n dX4_set_7 rfl ?_
    refine k_if_lt (tgt := 32) dX4_set_8 (by decide) (fun _ => ?_) (fun _ => ?_)
    · refine k_iconst dX4_set_32 ci_m1 ?_
      exact k_iret dX4_set_33
    · refine k_to (pc' := 11) rfl ?_
      refine k_iload_n dX4_set_11 rfl ?_
      refine k_bipush dX4_set_12 cb_6 ?_
      refine k_icmp_gt (tgt := 32) dX4_set_14 (by decide) (fun _ => ?_) (fun _ => ?_)
      · refine k_iconst dX4_set_32 ci_m1 ?_
        exact k_iret dX4_set_33
      · refine k_to (pc' := 17) rfl ?_
        refine k_iload_n dX4_set_17 rfl ?_
        refine k_cs1i wadC lkX4_53 (m_X4_isTerm _ _) (by decide) (Nat.le_of_ble_eq_true rfl) dX4_set_18 (fun r3 S4 => ?_)
        refine k_if_eq (tgt := 32) dX4_set_21 (by decide) (fun _ => ?_) (fun _ => ?_)
        · refine k_iconst dX4_set_32 ci_m1 ?_
          exact k_iret dX4_set_33
        · refine k_to (pc' := 24) rfl ?_
          refine k_iload dX4_set_24 rfl ?_
          refine k_cs1i wadC lkX4_53 (m_X4_isTerm _ _) (by decide) (Nat.le_of_ble_eq_true rfl) dX4_set_26 (fun r5 S6 => ?_)
          refine k_if_ne (tgt := 34) dX4_set_29 (by decide) (fun _ => ?_) (fun _ => ?_)
          · refine k_aload_n dX4_set_34 rfl ?_
            refine k_iconst dX4_set_35 ci_1 ?_
            refine k_iload_n dX4_set_36 rfl ?_
            refine k_iload_n dX4_set_37 rfl ?_
            refine k_iload_n dX4_set_38 rfl ?_
            refine k_iload dX4_set_39 rfl ?_
            refine k_cv5i wadC lkX4_49 obX4 (m_X4_addStep _ _ _ _ _ _) (by decide) (Nat.le_of_ble_eq_true rfl) dX4_set_41 (fun r7 S8 => ?_)
            exact k_iret dX4_set_44
          · refine k_to (pc' := 32) rfl ?_
            refine k_iconst dX4_set_32 ci_m1 ?_
            exact k_iret dX4_set_33
theorem m_X4_set {l : Launch} {D : va_G} {d : Dt} (x1 : Int32) (x2 : Int32) (x3 : Int32) (x4 : Int32) (S : St) : ∀ (r : Int32) (S' : St), f_X4_set x1 x2 x3 x4 S = some (r, S') → Mt l D d wlC yX4_set cX4_set 5 (some .int) 4 [.ref (d.1 0), .int x1, .int x2, .int x3, .int x4] S (jI r) S' := Mt_of wadC (by decide) (Nat.le_of_ble_eq_true rfl) (fun X hL hd => by subst hd; exact w_X4_set X x1 x2 x3 x4 S)
noncomputable def f_X4_observe (x1 : Int32) (x2 : Int32) (x3 : Int32) (S : St) : Option (Int32 × St) := (bnd (f_X4_isTerm x1 S) fun r1 S2 => (if r1 = 0 then (some ((-1 : Int32), S2)) else (if x2 < 0 then (some ((-1 : Int32), S2)) else (if (3 : Int32) < x2 then (some ((-1 : Int32), S2)) else (bnd (f_X4_isTerm x3 S2) fun r3 S4 => (if r3 = 0 then (some ((-1 : Int32), S4)) else (bnd (f_X4_addStep (2 : Int32) (0 : Int32) x2 x1 x3 S4) fun r5 S6 => (some (r5, S6)))))))))
set_option maxRecDepth 100000 in
set_option maxHeartbeats 4000000 in
theorem w_X4_observe (X : Cx) (x1 : Int32) (x2 : Int32) (x3 : Int32) (S : St) : KJ X (cX4_observe, RX4, 4, 4, (some .int)) wlC jI 0 [some (.ref (xa X 0)), some (.int x1), some (.int x2), some (.int x3)] [] S (f_X4_observe x1 x2 x3 S) := by
  unfold f_X4_observe
  refine k_iload_n dX4_observe_0 rfl ?_
  refine k_cs1i wadC lkX4_53 (m_X4_isTerm _ _) (by decide) (Nat.le_of_ble_eq_true rfl) dX4_observe_1 (fun r1 S2 => ?_)
  refine k_if_eq (tgt := 23) dX4_observe_4 (by decide) (fun _ => ?_) (fun _ => ?_)
  · refine k_iconst dX4_observe_23 ci_m1 ?_
    exact k_iret dX4_observe_24
  · refine k_to (pc' := 7) rfl ?_
    refine k_iload_n dX4_observe_7 rfl ?_
    refine k_if_lt (tgt := 23) dX4_observe_8 (by decide) (fun _ => ?_) (fun _ => ?_)
    · refine k_iconst dX4_observe_23 ci_m1 ?_
      exact k_iret dX4_observe_24
    · refine k_to (pc' := 11) rfl ?_
      refine k_iload_n dX4_observe_11 rfl ?_
      refine k_iconst dX4_observe_12 ci_3 ?_
      refine k_icmp_gt (tgt := 23) dX4_observe_13 (by decide) (fun _ => ?_) (fun _ => ?_)
      · refine k_iconst dX4_observe_23 ci_m1 ?_
        exact k_iret dX4_observe_24
      · refine k_to (pc' := 16) rfl ?_
        refine k_iload_n dX4_observe_16 rfl ?_
        refine k_cs1i wadC lkX4_53 (m_X4_isTerm _ _) (by decide) (Nat.le_of_ble_eq_true rfl) dX4_observe_17 (fun r3 S4 => ?_)
        refine k_if_ne (tgt := 25) dX4_observe_20 (by decide) (fun _ => ?_) (fun _ => ?_)
        · refine k_aload_n dX4_observe_25 rfl ?_
          refine k_iconst dX4_observe_26 ci_2 ?_
          refine k_iconst dX4_observe_27 ci_0 ?_
          refine k_iload_n dX4_observe_28 rfl ?_
          refine k_iload_n dX4_observe_29 rfl ?_
          refine k_iload_n dX4_observe_30 rfl ?_
          refine k_cv5i wadC lkX4_49 obX4 (m_X4_addStep _ _ _ _ _ _) (by decide) (Nat.le_of_ble_eq_true rfl) dX4_observe_31 (fun r5 S6 => ?_)
          exact k_iret dX4_observe_34
        · refine k_to (pc' := 23) rfl ?_
          refine k_iconst dX4_observe_23 ci_m1 ?_
          exact k_iret dX4_observe_24
theorem m_X4_observe {l : Launch} {D : va_G} {d : Dt} (x1 : Int32) (x2 : Int32) (x3 : Int32) (S : St) : ∀ (r : Int32) (S' : St), f_X4_observe x1 x2 x3 S = some (r, S') → Mt l D d wlC yX4_observe cX4_observe 4 (some .int) 4 [.ref (d.1 0), .int x1, .int x2, .int x3] S (jI r) S' := Mt_of wadC (by decide) (Nat.le_of_ble_eq_true rfl) (fun X hL hd => by subst hd; exact w_X4_observe X x1 x2 x3 S)
noncomputable def f_X4_weigh (x1 : Int32) (S : St) : Option (Int32 × St) := (bnd (f_X4_isTerm x1 S) fun r1 S2 => (if r1 = 0 then (some ((-1 : Int32), S2)) else (bnd (f_X4_addStep (3 : Int32) (0 : Int32) (0 : Int32) x1 (10 : Int32) S2) fun r3 S4 => (some (r3, S4)))))
set_option maxRecDepth 100000 in
set_option maxHeartbeats 4000000 in
theorem w_X4_weigh (X : Cx) (x1 : Int32) (S : St) : KJ X (cX4_weigh, RX4, 2, 4, (some .int)) wlC jI 0 [some (.ref (xa X 0)), some (.int x1)] [] S (f_X4_weigh x1 S) := by
  unfold f_X4_weigh
  refine k_iload_n dX4_weigh_0 rfl ?_
  refine k_cs1i wadC lkX4_53 (m_X4_isTerm _ _) (by decide) (Nat.le_of_ble_eq_true rfl) dX4_weigh_1 (fun r1 S2 => ?_)
  refine k_if_ne (tgt := 9) dX4_weigh_4 (by decide) (fun _ => ?_) (fun _ => ?_)
  · refine k_aload_n dX4_weigh_9 rfl ?_
    refine k_iconst dX4_weigh_10 ci_3 ?_
    refine k_iconst dX4_weigh_11 ci_0 ?_
    refine k_iconst dX4_weigh_12 ci_0 ?_
    refine k_iload_n dX4_weigh_13 rfl ?_
    refine k_bipush dX4_weigh_14 cb_10 ?_
    refine k_cv5i wadC lkX4_49 obX4 (m_X4_addStep _ _ _ _ _ _) (by decide) (Nat.le_of_ble_eq_true rfl) dX4_weigh_16 (fun r3 S4 => ?_)
    exact k_iret dX4_weigh_19
  · refine k_to (pc' := 7) rfl ?_
    refine k_iconst dX4_weigh_7 ci_m1 ?_
    exact k_iret dX4_weigh_8
theorem m_X4_weigh {l : Launch} {D : va_G} {d : Dt} (x1 : Int32) (S : St) : ∀ (r : Int32) (S' : St), f_X4_weigh x1 S = some (r, S') → Mt l D d wlC yX4_weigh cX4_weigh 2 (some .int) 4 [.ref (d.1 0), .int x1] S (jI r) S' := Mt_of wadC (by decide) (Nat.le_of_ble_eq_true rfl) (fun X hL hd => by subst hd; exact w_X4_weigh X x1 S)
noncomputable def f_X4_skip (x1 : Int32) (x2 : Int32) (S : St) : Option (Int32 × St) := (bnd (f_X4_isTerm x1 S) fun r1 S2 => (if r1 = 0 then (some ((-1 : Int32), S2)) else (if x2 < (1 : Int32) then (some ((-1 : Int32), S2)) else (if x2 ≤ (9 : Int32) then (bnd (f_X4_addStep (4 : Int32) (0 : Int32) x2 x1 (10 : Int32) S2) fun r3 S4 => (some (r3, S4))) else (some ((-1 : Int32), S2))))))
set_option maxRecDepth 100000 in
set_option maxHeartbeats 4000000 in
theorem w_X4_skip (X : Cx) (x1 : Int32) (x2 : Int32) (S : St) : KJ X (cX4_skip, RX4, 3, 4, (some .int)) wlC jI 0 [some (.ref (xa X 0)), some (.int x1), some (.int x2)] [] S (f_X4_skip x1 x2 S) := by
  unfold f_X4_skip
  refine k_iload_n dX4_skip_0 rfl ?_
  refine k_cs1i wadC lkX4_53 (m_X4_isTerm _ _) (by decide) (Nat.le_of_ble_eq_true rfl) dX4_skip_1 (fun r1 S2 => ?_)
  refine k_if_eq (tgt := 18) dX4_skip_4 (by decide) (fun _ => ?_) (fun _ => ?_)
  · refine k_iconst dX4_skip_18 ci_m1 ?_
    exact k_iret dX4_skip_19
  · refine k_to (pc' := 7) rfl ?_
    refine k_iload_n dX4_skip_7 rfl ?_
    refine k_iconst dX4_skip_8 ci_1 ?_
    refine k_icmp_lt (tgt := 18) dX4_skip_9 (by decide) (fun _ => ?_) (fun _ => ?_)
    · refine k_iconst dX4_skip_18 ci_m1 ?_
      exact k_iret dX4_skip_19
    · refine k_to (pc' := 12) rfl ?_
      refine k_iload_n dX4_skip_12 rfl ?_
      refine k_bipush dX4_skip_13 cb_9 ?_
      refine k_icmp_le (tgt := 20) dX4_skip_15 (by decide) (fun _ => ?_) (fun _ => ?_)
      · refine k_aload_n dX4_skip_20 rfl ?_
        refine k_iconst dX4_skip_21 ci_4 ?_
        refine k_iconst dX4_skip_22 ci_0 ?_
        refine k_iload_n dX4_skip_23 rfl ?_
        refine k_iload_n dX4_skip_24 rfl ?_
        refine k_bipush dX4_skip_25 cb_10 ?_
        refine k_cv5i wadC lkX4_49 obX4 (m_X4_addStep _ _ _ _ _ _) (by decide) (Nat.le_of_ble_eq_true rfl) dX4_skip_27 (fun r3 S4 => ?_)
        exact k_iret dX4_skip_30
      · refine k_to (pc' := 18) rfl ?_
        refine k_iconst dX4_skip_18 ci_m1 ?_
        exact k_iret dX4_skip_19
theorem m_X4_skip {l : Launch} {D : va_G} {d : Dt} (x1 : Int32) (x2 : Int32) (S : St) : ∀ (r : Int32) (S' : St), f_X4_skip x1 x2 S = some (r, S') → Mt l D d wlC yX4_skip cX4_skip 3 (some .int) 4 [.ref (d.1 0), .int x1, .int x2] S (jI r) S' := Mt_of wadC (by decide) (Nat.le_of_ble_eq_true rfl) (fun X hL hd => by subst hd; exact w_X4_skip X x1 x2 S)
noncomputable def f_X4_drop (S : St) : Option (Int32 × St) := (if (gI S 208) = 0 then (some ((-3 : Int32), S)) else (bnd (f_X4_programChanged S) fun r1 S2 => (bnd (f_X2_removeLast S2) fun r3 S4 => (some (r3, S4)))))
set_option maxRecDepth 100000 in
set_option maxHeartbeats 4000000 in
theorem w_X4_drop (X : Cx) (S : St) : KJ X (cX4_drop, RX4, 1, 3, (some .int)) wlC jI 0 [some (.ref (xa X 0))] [] S (f_X4_drop S) := by
  unfold f_X4_drop
  refine k_aload_n dX4_drop_0 rfl ?_
  refine k_getR gX4_12 dX4_drop_1 ?_
  refine k_getI gX4_56 dX4_drop_4 ?_
  refine k_if_ne (tgt := 13) dX4_drop_7 (by decide) (fun _ => ?_) (fun _ => ?_)
  · refine k_aload_n dX4_drop_13 rfl ?_
    refine k_cv0v wadC lkX4_39 obX4 (m_X4_programChanged _) (by decide) (Nat.le_of_ble_eq_true rfl) dX4_drop_14 (fun r1 S2 => ?_)
    refine k_aload_n dX4_drop_17 rfl ?_
    refine k_getR gX4_12 dX4_drop_18 ?_
    refine k_cv0i wadC lkX4_60 obX2 (m_X2_removeLast _) (by decide) (Nat.le_of_ble_eq_true rfl) dX4_drop_21 (fun r3 S4 => ?_)
    exact k_iret dX4_drop_24
  · refine k_to (pc' := 10) rfl ?_
    refine k_bipush dX4_drop_10 cb_m3 ?_
    exact k_iret dX4_drop_12
theorem m_X4_drop {l : Launch} {D : va_G} {d : Dt} (S : St) : ∀ (r : Int32) (S' : St), f_X4_drop S = some (r, S') → Mt l D d wlC yX4_drop cX4_drop 1 (some .int) 3 [.ref (d.1 0)] S (jI r) S' := Mt_of wadC (by decide) (Nat.le_of_ble_eq_true rfl) (fun X hL hd => by subst hd; exact w_X4_drop X S)
noncomputable def f_X4_ask (x1 : Int32) (x2 : Int32) (S : St) : Option (Int32 × St) := (bnd (f_X4_isVariable x1 S) fun r1 S2 => (if r1 = 0 then (some ((-1 : Int32), S2)) else (bnd (f_X1_end S2) fun r3 S4 => (bnd (f_X2_swapAsked x1 x2 S4) fun r5 S6 => (if r5 = 0 then (some ((0 : Int32), S6)) else (some ((1 : Int32), S6)))))))
set_option maxRecDepth 100000 in
set_option maxHeartbeats 4000000 in
theorem w_X4_ask (X : Cx) (x1 : Int32) (x2 : Int32) (S : St) : KJ X (cX4_ask, RX4, 3, 3, (some .int)) wlC jI 0 [some (.ref (xa X 0)), some (.int x1), some (.int x2)] [] S (f_X4_ask x1 x2 S) := by
  unfold f_X4_ask
  refine k_iload_n dX4_ask_0 rfl ?_
  refine k_cs1i wadC lkX4_46 (m_X4_isVariable _ _) (by decide) (Nat.le_of_ble_eq_true rfl) dX4_ask_1 (fun r1 S2 => ?_)
  refine k_if_ne (tgt := 9) dX4_ask_4 (by decide) (fun _ => ?_) (fun _ => ?_)
  · refine k_aload_n dX4_ask_9 rfl ?_
    refine k_getR gX4_21 dX4_ask_10 ?_
    refine k_cv0v wadC lkX4_64 obX1 (m_X1_end _) (by decide) (Nat.le_of_ble_eq_true rfl) dX4_ask_13 (fun r3 S4 => ?_)
    refine k_aload_n dX4_ask_16 rfl ?_
    refine k_getR gX4_12 dX4_ask_17 ?_
    refine k_iload_n dX4_ask_20 rfl ?_
    refine k_iload_n dX4_ask_21 rfl ?_
    refine k_cv2i wadC lkX4_67 obX2 (m_X2_swapAsked _ _ _) (by decide) (Nat.le_of_ble_eq_true rfl) dX4_ask_22 (fun r5 S6 => ?_)
    refine k_if_eq (tgt := 32) dX4_ask_25 (by decide) (fun _ => ?_) (fun _ => ?_)
    · refine k_iconst dX4_ask_32 ci_0 ?_
      exact k_iret dX4_ask_33
    · refine k_to (pc' := 28) rfl ?_
      refine k_iconst dX4_ask_28 ci_1 ?_
      refine k_goto (tgt := 33) dX4_ask_29 (by decide) ?_
      exact k_iret dX4_ask_33
  · refine k_to (pc' := 7) rfl ?_
    refine k_iconst dX4_ask_7 ci_m1 ?_
    exact k_iret dX4_ask_8
theorem m_X4_ask {l : Launch} {D : va_G} {d : Dt} (x1 : Int32) (x2 : Int32) (S : St) : ∀ (r : Int32) (S' : St), f_X4_ask x1 x2 S = some (r, S') → Mt l D d wlC yX4_ask cX4_ask 3 (some .int) 3 [.ref (d.1 0), .int x1, .int x2] S (jI r) S' := Mt_of wadC (by decide) (Nat.le_of_ble_eq_true rfl) (fun X hL hd => by subst hd; exact w_X4_ask X x1 x2 S)
noncomputable def f_X4_isPlace (x1 : Int32) (S : St) : Option (Int32 × St) := (if x1 < 0 then (some ((0 : Int32), S)) else (if (gI S 208) < x1 then (some ((0 : Int32), S)) else (if (31 : Int32) ≤ x1 then (some ((0 : Int32), S)) else (some ((1 : Int32), S)))))
set_option maxRecDepth 100000 in
set_option maxHeartbeats 4000000 in
theorem w_X4_isPlace (X : Cx) (x1 : Int32) (S : St) : KJ X (cX4_isPlace, RX4, 2, 1, (some .boolean)) wlC jI 0 [some (.ref (xa X 0)), some (.int x1)] [] S (f_X4_isPlace x1 S) := by
  unfold f_X4_isPlace
  refine k_iload_n dX4_isPlace_0 rfl ?_
  refine k_if_lt (tgt := 25) dX4_isPlace_1 (by decide) (fun _ => ?_) (fun _ => ?_)
  · refine k_iconst dX4_isPlace_25 ci_0 ?_
    exact k_zret (Or.inl rfl) dX4_isPlace_26
  · refine k_to (pc' := 4) rfl ?_
    refine k_iload_n dX4_isPlace_4 rfl ?_
    refine k_aload_n dX4_isPlace_5 rfl ?_
    refine k_getR gX4_12 dX4_isPlace_6 ?_
    refine k_getI gX4_56 dX4_isPlace_9 ?_
    refine k_icmp_gt (tgt := 25) dX4_isPlace_12 (by decide) (fun _ => ?_) (fun _ => ?_)
    · refine k_iconst dX4_isPlace_25 ci_0 ?_
      exact k_zret (Or.inl rfl) dX4_isPlace_26
    · refine k_to (pc' := 15) rfl ?_
      refine k_iload_n dX4_isPlace_15 rfl ?_
      refine k_bipush dX4_isPlace_16 cb_31 ?_
      refine k_icmp_ge (tgt := 25) dX4_isPlace_18 (by decide) (fun _ => ?_) (fun _ => ?_)
      · refine k_iconst dX4_isPlace_25 ci_0 ?_
        exact k_zret (Or.inl rfl) dX4_isPlace_26
      · refine k_to (pc' := 21) rfl ?_
        refine k_iconst dX4_isPlace_21 ci_1 ?_
        refine k_goto (tgt := 26) dX4_isPlace_22 (by decide) ?_
        exact k_zret (Or.inr rfl) dX4_isPlace_26
theorem m_X4_isPlace {l : Launch} {D : va_G} {d : Dt} (x1 : Int32) (S : St) : ∀ (r : Int32) (S' : St), f_X4_isPlace x1 S = some (r, S') → Mt l D d wlC yX4_isPlace cX4_isPlace 2 (some .boolean) 1 [.ref (d.1 0), .int x1] S (jI r) S' := Mt_of wadC (by decide) (Nat.le_of_ble_eq_true rfl) (fun X hL hd => by subst hd; exact w_X4_isPlace X x1 S)
noncomputable def f_X4_live (x1 : Int32) (S : St) : Option (Int32 × St) := (bnd (f_X4_isPlace x1 S) fun r1 S2 => (if r1 = 0 then (some ((-1 : Int32), S2)) else (bnd (f_X2_markLive S2) fun r3 S4 => (bnd (f_X2_liveAt x1 S4) fun r5 S6 => (some (r5, S6))))))
set_option maxRecDepth 100000 in
set_option maxHeartbeats 4000000 in
theorem w_X4_live (X : Cx) (x1 : Int32) (S : St) : KJ X (cX4_live, RX4, 2, 5, (some .int)) wlC jI 0 [some (.ref (xa X 0)), some (.int x1)] [] S (f_X4_live x1 S) := by
  unfold f_X4_live
  refine k_aload_n dX4_live_0 rfl ?_
  refine k_iload_n dX4_live_1 rfl ?_
  refine k_cv1i wadC lkX4_71 obX4 (m_X4_isPlace _ _) (by decide) (Nat.le_of_ble_eq_true rfl) dX4_live_2 (fun r1 S2 => ?_)
  refine k_if_ne (tgt := 10) dX4_live_5 (by decide) (fun _ => ?_) (fun _ => ?_)
  · refine k_aload_n dX4_live_10 rfl ?_
    refine k_getR gX4_12 dX4_live_11 ?_
    refine k_cv0v wadC lkX4_74 obX2 (m_X2_markLive _) (by decide) (Nat.le_of_ble_eq_true rfl) dX4_live_14 (fun r3 S4 => ?_)
    refine k_aload_n dX4_live_17 rfl ?_
    refine k_getR gX4_12 dX4_live_18 ?_
    refine k_iload_n dX4_live_21 rfl ?_
    refine k_cv1i wadC lkX4_77 obX2 (m_X2_liveAt _ _) (by decide) (Nat.le_of_ble_eq_true rfl) dX4_live_22 (fun r5 S6 => ?_)
    exact k_iret dX4_live_25
  · refine k_to (pc' := 8) rfl ?_
    refine k_iconst dX4_live_8 ci_m1 ?_
    exact k_iret dX4_live_9
theorem m_X4_live {l : Launch} {D : va_G} {d : Dt} (x1 : Int32) (S : St) : ∀ (r : Int32) (S' : St), f_X4_live x1 S = some (r, S') → Mt l D d wlC yX4_live cX4_live 2 (some .int) 5 [.ref (d.1 0), .int x1] S (jI r) S' := Mt_of wadC (by decide) (Nat.le_of_ble_eq_true rfl) (fun X hL hd => by subst hd; exact w_X4_live X x1 S)
noncomputable def f_X4_begin (S : St) : Option (Int32 × St) := (bnd (f_X2_isUneven S) fun r1 S2 => (if r1 = 0 then (bnd (f_X1_start S2) fun r3 S4 => (some ((1 : Int32), S4))) else (some ((-4 : Int32), S2))))
set_option maxRecDepth 100000 in
set_option maxHeartbeats 4000000 in
theorem w_X4_begin (X : Cx) (S : St) : KJ X (cX4_begin, RX4, 1, 6, (some .int)) wlC jI 0 [some (.ref (xa X 0))] [] S (f_X4_begin S) := by
  unfold f_X4_begin
  refine k_aload_n dX4_begin_0 rfl ?_
  refine k_getR gX4_12 dX4_begin_1 ?_
  refine k_cv0i wadC lkX4_81 obX2 (m_X2_isUneven _) (by decide) (Nat.le_of_ble_eq_true rfl) dX4_begin_4 (fun r1 S2 => ?_)
  refine k_if_eq (tgt := 13) dX4_begin_7 (by decide) (fun _ => ?_) (fun _ => ?_)
  · refine k_aload_n dX4_begin_13 rfl ?_
    refine k_getR gX4_21 dX4_begin_14 ?_
    refine k_cv0v wadC lkX4_85 obX1 (m_X1_start _) (by decide) (Nat.le_of_ble_eq_true rfl) dX4_begin_17 (fun r3 S4 => ?_)
    refine k_iconst dX4_begin_20 ci_1 ?_
    exact k_iret dX4_begin_21
  · refine k_to (pc' := 10) rfl ?_
    refine k_bipush dX4_begin_10 cb_m4 ?_
    exact k_iret dX4_begin_12
theorem m_X4_begin {l : Launch} {D : va_G} {d : Dt} (S : St) : ∀ (r : Int32) (S' : St), f_X4_begin S = some (r, S') → Mt l D d wlC yX4_begin cX4_begin 1 (some .int) 6 [.ref (d.1 0)] S (jI r) S' := Mt_of wadC (by decide) (Nat.le_of_ble_eq_true rfl) (fun X hL hd => by subst hd; exact w_X4_begin X S)
noncomputable def f_X4_list (x1 : Int32) (S : St) : Option (Int32 × St) := (if x1 < (1 : Int32) then (some ((-1 : Int32), S)) else (if x1 ≤ (1000 : Int32) then (if (gI S 108) = 0 then (some ((-3 : Int32), S)) else (bnd (f_X1_spend x1 S) fun r1 S2 => (some (r1, S2)))) else (some ((-1 : Int32), S))))
set_option maxRecDepth 100000 in
set_option maxHeartbeats 4000000 in
theorem w_X4_list (X : Cx) (x1 : Int32) (S : St) : KJ X (cX4_list, RX4, 2, 7, (some .int)) wlC jI 0 [some (.ref (xa X 0)), some (.int x1)] [] S (f_X4_list x1 S) := by
  unfold f_X4_list
  refine k_iload_n dX4_list_0 rfl ?_
  refine k_iconst dX4_list_1 ci_1 ?_
  refine k_icmp_lt (tgt := 12) dX4_list_2 (by decide) (fun _ => ?_) (fun _ => ?_)
  · refine k_iconst dX4_list_12 ci_m1 ?_
    exact k_iret dX4_list_13
  · refine k_to (pc' := 5) rfl ?_
    refine k_iload_n dX4_list_5 rfl ?_
    refine k_sipush dX4_list_6 cs_1000 ?_
    refine k_icmp_le (tgt := 14) dX4_list_9 (by decide) (fun _ => ?_) (fun _ => ?_)
    · refine k_aload_n dX4_list_14 rfl ?_
      refine k_getR gX4_21 dX4_list_15 ?_
      refine k_getI gX4_88 dX4_list_18 ?_
      refine k_if_eq (tgt := 35) dX4_list_21 (by decide) (fun _ => ?_) (fun _ => ?_)
      · refine k_bipush dX4_list_35 cb_m3 ?_
        exact k_iret dX4_list_37
      · refine k_to (pc' := 24) rfl ?_
        refine k_aload_n dX4_list_24 rfl ?_
        refine k_getR gX4_21 dX4_list_25 ?_
        refine k_iload_n dX4_list_28 rfl ?_
        refine k_cv1i wadC lkX4_92 obX1 (m_X1_spend _ _) (by decide) (Nat.le_of_ble_eq_true rfl) dX4_list_29 (fun r1 S2 => ?_)
        refine k_goto (tgt := 37) dX4_list_32 (by decide) ?_
        exact k_iret dX4_list_37
    · refine k_to (pc' := 12) rfl ?_
      refine k_iconst dX4_list_12 ci_m1 ?_
      exact k_iret dX4_list_13
theorem m_X4_list {l : Launch} {D : va_G} {d : Dt} (x1 : Int32) (S : St) : ∀ (r : Int32) (S' : St), f_X4_list x1 S = some (r, S') → Mt l D d wlC yX4_list cX4_list 2 (some .int) 7 [.ref (d.1 0), .int x1] S (jI r) S' := Mt_of wadC (by decide) (Nat.le_of_ble_eq_true rfl) (fun X hL hd => by subst hd; exact w_X4_list X x1 S)
noncomputable def f_X4_done (S : St) : Option (Int32 × St) := (if (gI S 108) = 0 then (some ((-3 : Int32), S)) else (bnd (f_X1_leastPlace S) fun r1 S2 => (if r1 = (-5 : Int32) then (some ((1 : Int32), S2)) else (bnd (f_X1_hasRoomBehind r1 S2) fun r3 S4 => (if r3 = 0 then (some ((2 : Int32), S4)) else (some ((0 : Int32), S4)))))))
set_option maxRecDepth 100000 in
set_option maxHeartbeats 4000000 in
theorem w_X4_done (X : Cx) (S : St) : KJ X (cX4_done, RX4, 2, 6, (some .int)) wlC jI 0 [some (.ref (xa X 0)), none] [] S (f_X4_done S) := by
  unfold f_X4_done
  refine k_aload_n dX4_done_0 rfl ?_
  refine k_getR gX4_21 dX4_done_1 ?_
  refine k_getI gX4_88 dX4_done_4 ?_
  refine k_if_ne (tgt := 13) dX4_done_7 (by decide) (fun _ => ?_) (fun _ => ?_)
  · refine k_aload_n dX4_done_13 rfl ?_
    refine k_getR gX4_21 dX4_done_14 ?_
    refine k_cv0i wadC lkX4_95 obX1 (m_X1_leastPlace _) (by decide) (Nat.le_of_ble_eq_true rfl) dX4_done_17 (fun r1 S2 => ?_)
    refine k_ist_n1 dX4_done_20 (by decide) rfl ?_
    refine k_iload_n dX4_done_21 rfl ?_
    refine k_bipush dX4_done_22 cb_m5 ?_
    refine k_icmp_ne (tgt := 29) dX4_done_24 (by decide) (fun _ => ?_) (fun _ => ?_)
    · refine k_aload_n dX4_done_29 rfl ?_
      refine k_getR gX4_21 dX4_done_30 ?_
      refine k_iload_n dX4_done_33 rfl ?_
      refine k_cv1i wadC lkX4_98 obX1 (m_X1_hasRoomBehind _ _) (by decide) (Nat.le_of_ble_eq_true rfl) dX4_done_34 (fun r3 S4 => ?_)
      refine k_if_eq (tgt := 44) dX4_done_37 (by decide) (fun _ => ?_) (fun _ => ?_)
      · refine k_iconst dX4_done_44 ci_2 ?_
        exact k_iret dX4_done_45
      · refine k_to (pc' := 40) rfl ?_
        refine k_iconst dX4_done_40 ci_0 ?_
        refine k_goto (tgt := 45) dX4_done_41 (by decide) ?_
        exact k_iret dX4_done_45
    · refine k_to (pc' := 27) rfl ?_
      refine k_iconst dX4_done_27 ci_1 ?_
      exact k_iret dX4_done_28
  · refine k_to (pc' := 10) rfl ?_
    refine k_bipush dX4_done_10 cb_m3 ?_
    exact k_iret dX4_done_12
theorem m_X4_done {l : Launch} {D : va_G} {d : Dt} (S : St) : ∀ (r : Int32) (S' : St), f_X4_done S = some (r, S') → Mt l D d wlC yX4_done cX4_done 2 (some .int) 6 [.ref (d.1 0)] S (jI r) S' := Mt_of wadC (by decide) (Nat.le_of_ble_eq_true rfl) (fun X hL hd => by subst hd; exact w_X4_done X S)
noncomputable def f_X4_states (x1 : Int32) (x2 : Int32) (S : St) : Option (Int32 × St) := (bnd (f_X4_isPlace x1 S) fun r1 S2 => (if r1 = 0 then (some ((-1 : Int32), S2)) else (if x2 < 0 then (some ((-1 : Int32), S2)) else (if x2 ≤ (2 : Int32) then (if (gI S2 108) = 0 then (some ((-3 : Int32), S2)) else (if x2 = 0 then (bnd (f_X1_size x1 S2) fun r3 S4 => (some (r3, S4))) else (if x2 = (1 : Int32) then (chk (inB x1 31) (some ((gA S2 15 (x1).toNatClampNeg), S2))) else (chk (inB x1 31) (some ((gA S2 16 (x1).toNatClampNeg), S2)))))) else (some ((-1 : Int32), S2))))))
set_option maxRecDepth 100000 in
set_option maxHeartbeats 4000000 in
theorem w_X4_states (X : Cx) (x1 : Int32) (x2 : Int32) (S : St) : KJ X (cX4_states, RX4, 3, 2, (some .int)) wlC jI 0 [some (.ref (xa X 0)), some (.int x1), some (.int x2)] [] S (f_X4_states x1 x2 S) := by
  unfold f_X4_states
  refine k_aload_n dX4_states_0 rfl ?_
  refine k_iload_n dX4_states_1 rfl ?_
  refine k_cv1i wadC lkX4_71 obX4 (m_X4_isPlace _ _) (by decide) (Nat.le_of_ble_eq_true rfl) dX4_states_2 (fun r1 S2 => ?_)
  refine k_if_eq (tgt := 17) dX4_states_5 (by decide) (fun _ => ?_) (fun _ => ?_)
  · refine k_iconst dX4_states_17 ci_m1 ?_
    exact k_iret dX4_states_18
  · refine k_to (pc' := 8) rfl ?_
    refine k_iload_n dX4_states_8 rfl ?_
    refine k_if_lt (tgt := 17) dX4_states_9 (by decide) (fun _ => ?_) (fun _ => ?_)
    · refine k_iconst dX4_states_17 ci_m1 ?_
      exact k_iret dX4_states_18
    · refine k_to (pc' := 12) rfl ?_
      refine k_iload_n dX4_states_12 rfl ?_
      refine k_iconst dX4_states_13 ci_2 ?_
      refine k_icmp_le (tgt := 19) dX4_states_14 (by decide) (fun _ => ?_) (fun _ => ?_)
      · refine k_aload_n dX4_states_19 rfl ?_
        refine k_getR gX4_21 dX4_states_20 ?_
        refine k_getI gX4_88 dX4_states_23 ?_
        refine k_if_ne (tgt := 32) dX4_states_26 (by decide) (fun _ => ?_) (fun _ => ?_)
        · refine k_iload_n dX4_states_32 rfl ?_
          refine k_if_ne (tgt := 45) dX4_states_33 (by decide) (fun _ => ?_) (fun _ => ?_)
          · refine k_iload_n dX4_states_45 rfl ?_
            refine k_iconst dX4_states_46 ci_1 ?_
            refine k_icmp_ne (tgt := 62) dX4_states_47 (by decide) (fun _ => ?_) (fun _ => ?_)
            · refine k_aload_n dX4_states_62 rfl ?_
              refine k_getR gX4_21 dX4_states_63 ?_
              refine k_getR gX4_108 dX4_states_66 ?_
              refine k_iload_n dX4_states_69 rfl ?_
              refine k_iald aC_16 dX4_states_70 ?_
              exact k_iret dX4_states_71
            · refine k_to (pc' := 50) rfl ?_
              refine k_aload_n dX4_states_50 rfl ?_
              refine k_getR gX4_21 dX4_states_51 ?_
              refine k_getR gX4_104 dX4_states_54 ?_
              refine k_iload_n dX4_states_57 rfl ?_
              refine k_iald aC_15 dX4_states_58 ?_
              refine k_goto (tgt := 71) dX4_states_59 (by decide) ?_
              exact k_iret dX4_states_71
          · refine k_to (pc' := 36) rfl ?_
            refine k_aload_n dX4_states_36 rfl ?_
            refine k_getR gX4_21 dX4_states_37 ?_
            refine k_iload_n dX4_states_40 rfl ?_
            refine k_cv1i wadC lkX4_101 obX1 (m_X1_size _ _) (by decide) (Nat.le_of_ble_eq_true rfl) dX4_states_41 (fun r3 S4 => ?_)
            exact k_iret dX4_states_44
        · refine k_to (pc' := 29) rfl ?_
          refine k_bipush dX4_states_29 cb_m3 ?_
          exact k_iret dX4_states_31
      · refine k_to (pc' := 17) rfl ?_
        refine k_iconst dX4_states_17 ci_m1 ?_
        exact k_iret dX4_states_18
theorem m_X4_states {l : Launch} {D : va_G} {d : Dt} (x1 : Int32) (x2 : Int32) (S : St) : ∀ (r : Int32) (S' : St), f_X4_states x1 x2 S = some (r, S') → Mt l D d wlC yX4_states cX4_states 3 (some .int) 2 [.ref (d.1 0), .int x1, .int x2] S (jI r) S' := Mt_of wadC (by decide) (Nat.le_of_ble_eq_true rfl) (fun X hL hd => by subst hd; exact w_X4_states X x1 x2 S)
noncomputable def f_X4_code (x1 : Int32) (x2 : Int32) (S : St) : Option (Int32 × St) := (bnd (f_X4_isPlace x1 S) fun r1 S2 => (if r1 = 0 then (some ((-1 : Int32), S2)) else (if (gI S2 108) = 0 then (some ((-3 : Int32), S2)) else (bnd (f_X1_has x1 x2 S2) fun r3 S4 => (if r3 = 0 then (some ((-5 : Int32), S4)) else (bnd (f_X1_heldAt x1 x2 S4) fun r5 S6 => (bnd (f_X0_decimal r5 S6) fun r7 S8 => (some (r7, S8)))))))))
set_option maxRecDepth 100000 in
set_option maxHeartbeats 4000000 in
theorem w_X4_code (X : Cx) (x1 : Int32) (x2 : Int32) (S : St) : KJ X (cX4_code, RX4, 3, 4, (some .int)) wlC jI 0 [some (.ref (xa X 0)), some (.int x1), some (.int x2)] [] S (f_X4_code x1 x2 S) := by
  unfold f_X4_code
  refine k_aload_n dX4_code_0 rfl ?_
  refine k_iload_n dX4_code_1 rfl ?_
  refine k_cv1i wadC lkX4_71 obX4 (m_X4_isPlace _ _) (by decide) (Nat.le_of_ble_eq_true rfl) dX4_code_2 (fun r1 S2 => ?_)
  refine k_if_ne (tgt := 10) dX4_code_5 (by decide) (fun _ => ?_) (fun _ => ?_)
  · refine k_aload_n dX4_code_10 rfl ?_
    refine k_getR gX4_21 dX4_code_11 ?_
    refine k_getI gX4_88 dX4_code_14 ?_
    refine k_if_ne (tgt := 23) dX4_code_17 (by decide) (fun _ => ?_) (fun _ => ?_)
    · refine k_aload_n dX4_code_23 rfl ?_
      refine k_getR gX4_21 dX4_code_24 ?_
      refine k_iload_n dX4_code_27 rfl ?_
      refine k_iload_n dX4_code_28 rfl ?_
      refine k_cv2i wadC lkX4_111 obX1 (m_X1_has _ _ _) (by decide) (Nat.le_of_ble_eq_true rfl) dX4_code_29 (fun r3 S4 => ?_)
      refine k_if_eq (tgt := 50) dX4_code_32 (by decide) (fun _ => ?_) (fun _ => ?_)
      · refine k_bipush dX4_code_50 cb_m5 ?_
        exact k_iret dX4_code_52
      · refine k_to (pc' := 35) rfl ?_
        refine k_aload_n dX4_code_35 rfl ?_
        refine k_getR gX4_21 dX4_code_36 ?_
        refine k_iload_n dX4_code_39 rfl ?_
        refine k_iload_n dX4_code_40 rfl ?_
        refine k_cv2i wadC lkX4_115 obX1 (m_X1_heldAt _ _ _) (by decide) (Nat.le_of_ble_eq_true rfl) dX4_code_41 (fun r5 S6 => ?_)
        refine k_cs1i wadC lkX4_119 (m_X0_decimal _ _) (by decide) (Nat.le_of_ble_eq_true rfl) dX4_code_44 (fun r7 S8 => ?_)
        refine k_goto (tgt := 52) dX4_code_47 (by decide) ?_
        exact k_iret dX4_code_52
    · refine k_to (pc' := 20) rfl ?_
      refine k_bipush dX4_code_20 cb_m3 ?_
      exact k_iret dX4_code_22
  · refine k_to (pc' := 8) rfl ?_
    refine k_iconst dX4_code_8 ci_m1 ?_
    exact k_iret dX4_code_9
theorem m_X4_code {l : Launch} {D : va_G} {d : Dt} (x1 : Int32) (x2 : Int32) (S : St) : ∀ (r : Int32) (S' : St), f_X4_code x1 x2 S = some (r, S') → Mt l D d wlC yX4_code cX4_code 3 (some .int) 4 [.ref (d.1 0), .int x1, .int x2] S (jI r) S' := Mt_of wadC (by decide) (Nat.le_of_ble_eq_true rfl) (fun X hL hd => by subst hd; exact w_X4_code X x1 x2 S)
noncomputable def f_X4_mass (x1 : Int32) (x2 : Int32) (S : St) : Option (Int64 × St) := (bnd (f_X4_isPlace x1 S) fun r1 S2 => (if r1 = 0 then (some ((0 : Int64), S2)) else (if (gI S2 108) = 0 then (some ((0 : Int64), S2)) else (bnd (f_X1_has x1 x2 S2) fun r3 S4 => (if r3 = 0 then (some ((0 : Int64), S4)) else (bnd (f_X1_massAt x1 x2 S4) fun r5 S6 => (some (r5, S6))))))))
set_option maxRecDepth 100000 in
set_option maxHeartbeats 4000000 in
theorem w_X4_mass (X : Cx) (x1 : Int32) (x2 : Int32) (S : St) : KJ X (cX4_mass, RX4, 3, 4, (some .long)) wlC jL 0 [some (.ref (xa X 0)), some (.int x1), some (.int x2)] [] S (f_X4_mass x1 x2 S) := by
  unfold f_X4_mass
  refine k_aload_n dX4_mass_0 rfl ?_
  refine k_iload_n dX4_mass_1 rfl ?_
  refine k_cv1i wadC lkX4_71 obX4 (m_X4_isPlace _ _) (by decide) (Nat.le_of_ble_eq_true rfl) dX4_mass_2 (fun r1 S2 => ?_)
  refine k_if_eq (tgt := 30) dX4_mass_5 (by decide) (fun _ => ?_) (fun _ => ?_)
  · refine k_lconst dX4_mass_30 cl_0 ?_
    exact k_lret dX4_mass_31
  · refine k_to (pc' := 8) rfl ?_
    refine k_aload_n dX4_mass_8 rfl ?_
    refine k_getR gX4_21 dX4_mass_9 ?_
    refine k_getI gX4_88 dX4_mass_12 ?_
    refine k_if_eq (tgt := 30) dX4_mass_15 (by decide) (fun _ => ?_) (fun _ => ?_)
    · refine k_lconst dX4_mass_30 cl_0 ?_
      exact k_lret dX4_mass_31
    · refine k_to (pc' := 18) rfl ?_
      refine k_aload_n dX4_mass_18 rfl ?_
      refine k_getR gX4_21 dX4_mass_19 ?_
      refine k_iload_n dX4_mass_22 rfl ?_
      refine k_iload_n dX4_mass_23 rfl ?_
      refine k_cv2i wadC lkX4_111 obX1 (m_X1_has _ _ _) (by decide) (Nat.le_of_ble_eq_true rfl) dX4_mass_24 (fun r3 S4 => ?_)
      refine k_if_ne (tgt := 32) dX4_mass_27 (by decide) (fun _ => ?_) (fun _ => ?_)
      · refine k_aload_n dX4_mass_32 rfl ?_
        refine k_getR gX4_21 dX4_mass_33 ?_
        refine k_iload_n dX4_mass_36 rfl ?_
        refine k_iload_n dX4_mass_37 rfl ?_
        refine k_cv2l wadC lkX4_124 obX1 (m_X1_massAt _ _ _) (by decide) (Nat.le_of_ble_eq_true rfl) dX4_mass_38 (fun r5 S6 => ?_)
        exact k_lret dX4_mass_41
      · refine k_to (pc' := 30) rfl ?_
        refine k_lconst dX4_mass_30 cl_0 ?_
        exact k_lret dX4_mass_31
theorem m_X4_mass {l : Launch} {D : va_G} {d : Dt} (x1 : Int32) (x2 : Int32) (S : St) : ∀ (r : Int64) (S' : St), f_X4_mass x1 x2 S = some (r, S') → Mt l D d wlC yX4_mass cX4_mass 3 (some .long) 4 [.ref (d.1 0), .int x1, .int x2] S (jL r) S' := Mt_of wadC (by decide) (Nat.le_of_ble_eq_true rfl) (fun X hL hd => by subst hd; exact w_X4_mass X x1 x2 S)
noncomputable def f_X4_isChoice (x0 : Int32) (x1 : Int32) (S : St) : Option (Int32 × St) := (if x0 = (-1 : Int32) then (some ((1 : Int32), S)) else (bnd (f_X4_isVariable x0 S) fun r1 S2 => (if r1 = 0 then (some ((0 : Int32), S2)) else (bnd (f_X4_isValue x1 S2) fun r3 S4 => (if r3 = 0 then (some ((0 : Int32), S4)) else (some ((1 : Int32), S4)))))))
set_option maxRecDepth 100000 in
set_option maxHeartbeats 4000000 in
theorem w_X4_isChoice (X : Cx) (x0 : Int32) (x1 : Int32) (S : St) : KJ X (cX4_isChoice, RX4, 2, 2, (some .boolean)) wlC jI 0 [some (.int x0), some (.int x1)] [] S (f_X4_isChoice x0 x1 S) := by
  unfold f_X4_isChoice
  refine k_iload_n dX4_isChoice_0 rfl ?_
  refine k_iconst dX4_isChoice_1 ci_m1 ?_
  refine k_icmp_eq (tgt := 19) dX4_isChoice_2 (by decide) (fun _ => ?_) (fun _ => ?_)
  · refine k_iconst dX4_isChoice_19 ci_1 ?_
    refine k_goto (tgt := 24) dX4_isChoice_20 (by decide) ?_
    exact k_zret (Or.inr rfl) dX4_isChoice_24
  · refine k_to (pc' := 5) rfl ?_
    refine k_iload_n dX4_isChoice_5 rfl ?_
    refine k_cs1i wadC lkX4_46 (m_X4_isVariable _ _) (by decide) (Nat.le_of_ble_eq_true rfl) dX4_isChoice_6 (fun r1 S2 => ?_)
    refine k_if_eq (tgt := 23) dX4_isChoice_9 (by decide) (fun _ => ?_) (fun _ => ?_)
    · refine k_iconst dX4_isChoice_23 ci_0 ?_
      exact k_zret (Or.inl rfl) dX4_isChoice_24
    · refine k_to (pc' := 12) rfl ?_
      refine k_iload_n dX4_isChoice_12 rfl ?_
      refine k_cs1i wadC lkX4_36 (m_X4_isValue _ _) (by decide) (Nat.le_of_ble_eq_true rfl) dX4_isChoice_13 (fun r3 S4 => ?_)
      refine k_if_eq (tgt := 23) dX4_isChoice_16 (by decide) (fun _ => ?_) (fun _ => ?_)
      · refine k_iconst dX4_isChoice_23 ci_0 ?_
        exact k_zret (Or.inl rfl) dX4_isChoice_24
      · refine k_to (pc' := 19) rfl ?_
        refine k_iconst dX4_isChoice_19 ci_1 ?_
        refine k_goto (tgt := 24) dX4_isChoice_20 (by decide) ?_
        exact k_zret (Or.inr rfl) dX4_isChoice_24
theorem m_X4_isChoice {l : Launch} {D : va_G} {d : Dt} (x0 : Int32) (x1 : Int32) (S : St) : ∀ (r : Int32) (S' : St), f_X4_isChoice x0 x1 S = some (r, S') → Mt l D d wlC yX4_isChoice cX4_isChoice 2 (some .boolean) 2 [.int x0, .int x1] S (jI r) S' := Mt_of wadC (by decide) (Nat.le_of_ble_eq_true rfl) (fun X hL hd => by subst hd; exact w_X4_isChoice X x0 x1 S)
noncomputable def f_X4_sum (x1 : Int32) (x2 : Int32) (x3 : Int32) (S : St) : Option (Int64 × St) := (if x1 < 0 then (some ((-1 : Int64), S)) else (if (2 : Int32) < x1 then (some ((-1 : Int64), S)) else (bnd (f_X4_isChoice x2 x3 S) fun r1 S2 => (if r1 = 0 then (some ((-1 : Int64), S2)) else (if x2 = (-1 : Int32) then (if (gI S2 108) = 0 then (some ((-3 : Int64), S2)) else (if x1 = (1 : Int32) then (some ((gL S2 109), S2)) else (if x1 = 0 then (bnd (f_X1_total (gI S2 208) x2 x3 S2) fun r5 S6 => (some (r5, S6))) else (bnd (f_X1_totalBeforeEnd x2 x3 S2) fun r3 S4 => (some (r3, S4)))))) else (if x1 = (1 : Int32) then (some ((-1 : Int64), S2)) else (if (gI S2 108) = 0 then (some ((-3 : Int64), S2)) else (if x1 = (1 : Int32) then (some ((gL S2 109), S2)) else (if x1 = 0 then (bnd (f_X1_total (gI S2 208) x2 x3 S2) fun r9 S10 => (some (r9, S10))) else (bnd (f_X1_totalBeforeEnd x2 x3 S2) fun r7 S8 => (some (r7, S8))))))))))))
set_option maxRecDepth 100000 in
set_option maxHeartbeats 4000000 in
theorem w_X4_sum (X : Cx) (x1 : Int32) (x2 : Int32) (x3 : Int32) (S : St) : KJ X (cX4_sum, RX4, 4, 6, (some .long)) wlC jL 0 [some (.ref (xa X 0)), some (.int x1), some (.int x2), some (.int x3)] [] S (f_X4_sum x1 x2 x3 S) := by
  unfold f_X4_sum
  refine k_iload_n dX4_sum_0 rfl ?_
  refine k_if_lt (tgt := 27) dX4_sum_1 (by decide) (fun _ => ?_) (fun _ => ?_)
  · refine k_ldc2 dX4_sum_27 klX4_131 ?_
    exact k_lret dX4_sum_30
  · refine k_to (pc' := 4) rfl ?_
    refine k_iload_n dX4_sum_4 rfl ?_
    refine k_iconst dX4_sum_5 ci_2 ?_
    refine k_icmp_gt (tgt := 27) dX4_sum_6 (by decide) (fun _ => ?_) (fun _ => ?_)
    · refine k_ldc2 dX4_sum_27 klX4_131 ?_
      exact k_lret dX4_sum_30
    · refine k_to (pc' := 9) rfl ?_
      refine k_iload_n dX4_sum_9 rfl ?_
      refine k_iload_n dX4_sum_10 rfl ?_
      refine k_cs2i wadC lkX4_128 (m_X4_isChoice _ _ _) (by decide) (Nat.le_of_ble_eq_true rfl) dX4_sum_11 (fun r1 S2 => ?_)
      refine k_if_eq (tgt := 27) dX4_sum_14 (by decide) (fun _ => ?_) (fun _ => ?_)
      · refine k_ldc2 dX4_sum_27 klX4_131 ?_
        exact k_lret dX4_sum_30
      · refine k_to (pc' := 17) rfl ?_
        refine k_iload_n dX4_sum_17 rfl ?_
        refine k_iconst dX4_sum_18 ci_m1 ?_
        refine k_icmp_eq (tgt := 31) dX4_sum_19 (by decide) (fun _ => ?_) (fun _ => ?_)
        · refine k_aload_n dX4_sum_31 rfl ?_
          refine k_getR gX4_21 dX4_sum_32 ?_
          refine k_getI gX4_88 dX4_sum_35 ?_
          refine k_if_ne (tgt := 45) dX4_sum_38 (by decide) (fun _ => ?_) (fun _ => ?_)
          · refine k_iload_n dX4_sum_45 rfl ?_
            refine k_iconst dX4_sum_46 ci_1 ?_
            refine k_icmp_ne (tgt := 58) dX4_sum_47 (by decide) (fun _ => ?_) (fun _ => ?_)
            · refine k_iload_n dX4_sum_58 rfl ?_
              refine k_if_ne (tgt := 81) dX4_sum_59 (by decide) (fun _ => ?_) (fun _ => ?_)
              · refine k_aload_n dX4_sum_81 rfl ?_
                refine k_getR gX4_21 dX4_sum_82 ?_
                refine k_iload_n dX4_sum_85 rfl ?_
                refine k_iload_n dX4_sum_86 rfl ?_
                refine k_cv2l wadC lkX4_143 obX1 (m_X1_totalBeforeEnd _ _ _) (by decide) (Nat.le_of_ble_eq_true rfl) dX4_sum_87 (fun r3 S4 => ?_)
                exact k_lret dX4_sum_90
              · refine k_to (pc' := 62) rfl ?_
                refine k_aload_n dX4_sum_62 rfl ?_
                refine k_getR gX4_21 dX4_sum_63 ?_
                refine k_aload_n dX4_sum_66 rfl ?_
                refine k_getR gX4_12 dX4_sum_67 ?_
                refine k_getI gX4_56 dX4_sum_70 ?_
                refine k_iload_n dX4_sum_73 rfl ?_
                refine k_iload_n dX4_sum_74 rfl ?_
                refine k_cv3l wadC lkX4_139 obX1 (m_X1_total _ _ _ _) (by decide) (Nat.le_of_ble_eq_true rfl) dX4_sum_75 (fun r5 S6 => ?_)
                refine k_goto (tgt := 90) dX4_sum_78 (by decide) ?_
                refine k_to (pc' := 90) rfl ?_
                exact k_lret dX4_sum_90
            · refine k_to (pc' := 50) rfl ?_
              refine k_aload_n dX4_sum_50 rfl ?_
              refine k_getR gX4_21 dX4_sum_51 ?_
              refine k_getL gX4_135 dX4_sum_54 ?_
              exact k_lret dX4_sum_57
          · refine k_to (pc' := 41) rfl ?_
            refine k_ldc2 dX4_sum_41 klX4_133 ?_
            exact k_lret dX4_sum_44
        · refine k_to (pc' := 22) rfl ?_
          refine k_iload_n dX4_sum_22 rfl ?_
          refine k_iconst dX4_sum_23 ci_1 ?_
          refine k_icmp_ne (tgt := 31) dX4_sum_24 (by decide) (fun _ => ?_) (fun _ => ?_)
          · refine k_aload_n dX4_sum_31 rfl ?_
            refine k_getR gX4_21 dX4_sum_32 ?_
            refine k_getI gX4_88 dX4_sum_35 ?_
            refine k_if_ne (tgt := 45) dX4_sum_38 (by decide) (fun _ => ?_) (fun _ => ?_)
            · refine k_iload_n dX4_sum_45 rfl ?_
              refine k_iconst dX4_sum_46 ci_1 ?_
              refine k_icmp_ne (tgt := 58) dX4_sum_47 (by decide) (fun _ => ?_) (fun _ => ?_)
              · refine k_iload_n dX4_sum_58 rfl ?_
                refine k_if_ne (tgt := 81) dX4_sum_59 (by decide) (fun _ => ?_) (fun _ => ?_)
                · refine k_aload_n dX4_sum_81 rfl ?_
                  refine k_getR gX4_21 dX4_sum_82 ?_
                  refine k_iload_n dX4_sum_85 rfl ?_
                  refine k_iload_n dX4_sum_86 rfl ?_
                  refine k_cv2l wadC lkX4_143 obX1 (m_X1_totalBeforeEnd _ _ _) (by decide) (Nat.le_of_ble_eq_true rfl) dX4_sum_87 (fun r7 S8 => ?_)
                  exact k_lret dX4_sum_90
                · refine k_to (pc' := 62) rfl ?_
                  refine k_aload_n dX4_sum_62 rfl ?_
                  refine k_getR gX4_21 dX4_sum_63 ?_
                  refine k_aload_n dX4_sum_66 rfl ?_
                  refine k_getR gX4_12 dX4_sum_67 ?_
                  refine k_getI gX4_56 dX4_sum_70 ?_
                  refine k_iload_n dX4_sum_73 rfl ?_
                  refine k_iload_n dX4_sum_74 rfl ?_
                  refine k_cv3l wadC lkX4_139 obX1 (m_X1_total _ _ _ _) (by decide) (Nat.le_of_ble_eq_true rfl) dX4_sum_75 (fun r9 S10 => ?_)
                  refine k_goto (tgt := 90) dX4_sum_78 (by decide) ?_
                  refine k_to (pc' := 90) rfl ?_
                  exact k_lret dX4_sum_90
              · refine k_to (pc' := 50) rfl ?_
                refine k_aload_n dX4_sum_50 rfl ?_
                refine k_getR gX4_21 dX4_sum_51 ?_
                refine k_getL gX4_135 dX4_sum_54 ?_
                exact k_lret dX4_sum_57
            · refine k_to (pc' := 41) rfl ?_
              refine k_ldc2 dX4_sum_41 klX4_133 ?_
              exact k_lret dX4_sum_44
          · refine k_to (pc' := 27) rfl ?_
            refine k_ldc2 dX4_sum_27 klX4_131 ?_
            exact k_lret dX4_sum_30
theorem m_X4_sum {l : Launch} {D : va_G} {d : Dt} (x1 : Int32) (x2 : Int32) (x3 : Int32) (S : St) : ∀ (r : Int64) (S' : St), f_X4_sum x1 x2 x3 S = some (r, S') → Mt l D d wlC yX4_sum cX4_sum 4 (some .long) 6 [.ref (d.1 0), .int x1, .int x2, .int x3] S (jL r) S' := Mt_of wadC (by decide) (Nat.le_of_ble_eq_true rfl) (fun X hL hd => by subst hd; exact w_X4_sum X x1 x2 x3 S)
noncomputable def lp_X4_commonDivisor_9 : Nat → Int64 → Int64 → Int32 → St → Option (Int64 × St)
  | 0, _, _, _, _ => none
  | n + 1, x4, x6, x8, S => (if (100 : Int32) ≤ x8 then (some (x4, S)) else (if (lg_cmp x6 (0 : Int64)) = 0 then (some (x4, S)) else (chk (decide (¬ x6 = 0)) (nxt (x4 - x4 / x6 * x6) fun y1 => (lp_X4_commonDivisor_9 n x6 y1 (x8 + (1 : Int32)) S)))))
set_option maxRecDepth 100000 in
set_option maxHeartbeats 4000000 in
theorem wlp_X4_commonDivisor_9 (X : Cx) : ∀ (n : Nat) (x4 : Int64) (x6 : Int64) (x8 : Int32) (S : St), KJ X (cX4_commonDivisor, RX4, 11, 1, (some .long)) wlC jL 9 [none, none, none, none, some (.long x4), none, some (.long x6), none, some (.int x8), none, none] [] S (lp_X4_commonDivisor_9 n x4 x6 x8 S) := by
  intro n
  induction n with
  | zero => intro x4 x6 x8 S; rw [lp_X4_commonDivisor_9]; exact k_none
  | succ n ih =>
    intro x4 x6 x8 S
    rw [lp_X4_commonDivisor_9]
    refine k_iload dX4_commonDivisor_9 rfl ?_
    refine k_bipush dX4_commonDivisor_11 cb_100 ?_
    refine k_icmp_ge (tgt := 44) dX4_commonDivisor_13 (by decide) (fun _ => ?_) (fun _ => ?_)
    · refine k_lload dX4_commonDivisor_44 rfl ?_
      exact k_lret dX4_commonDivisor_46
    · refine k_to (pc' := 16) rfl ?_
      refine k_lload dX4_commonDivisor_16 rfl ?_
      refine k_lconst dX4_commonDivisor_18 cl_0 ?_
      refine k_lcmp dX4_commonDivisor_19 ?_
      refine k_if_eq (tgt := 44) dX4_commonDivisor_20 (by decide) (fun _ => ?_) (fun _ => ?_)
      · refine k_lload dX4_commonDivisor_44 rfl ?_
        exact k_lret dX4_commonDivisor_46
      · refine k_to (pc' := 23) rfl ?_
        refine k_lload dX4_commonDivisor_23 rfl ?_
        refine k_lload dX4_commonDivisor_25 rfl ?_
        refine k_lrem dX4_commonDivisor_27 ?_
        refine k_lst9 dX4_commonDivisor_28 (by decide) rfl ?_
        refine k_nxt ?_
        refine k_lload dX4_commonDivisor_30 rfl ?_
        refine k_lst4 dX4_commonDivisor_32 (by decide) rfl ?_
        refine k_lload dX4_commonDivisor_34 rfl ?_
        refine k_lst6 dX4_commonDivisor_36 (by decide) rfl ?_
        refine k_inc8 dX4_commonDivisor_38 ci_1 (by decide) rfl ?_
        refine k_to (pc' := 41) rfl ?_
        refine k_goto (tgt := 9) dX4_commonDivisor_41 (by decide) ?_
        refine k_to (pc' := 9) rfl ?_
        exact k_weak (ih _ _ _ _) (And.intro rfl (And.intro rfl (And.intro rfl True.intro)))
noncomputable def f_X4_commonDivisor (x0 : Int64) (x2 : Int64) (S : St) : Option (Int64 × St) := (lp_X4_commonDivisor_9 FU x0 x2 (0 : Int32) S)
set_option maxRecDepth 100000 in
set_option maxHeartbeats 4000000 in
theorem w_X4_commonDivisor (X : Cx) (x0 : Int64) (x2 : Int64) (S : St) : KJ X (cX4_commonDivisor, RX4, 11, 1, (some .long)) wlC jL 0 [some (.long x0), none, some (.long x2), none, none, none, none, none, none, none, none] [] S (f_X4_commonDivisor x0 x2 S) := by
  unfold f_X4_commonDivisor
  refine k_lload_n dX4_commonDivisor_0 rfl ?_
  refine k_lst4 dX4_commonDivisor_1 (by decide) rfl ?_
  refine k_lload_n dX4_commonDivisor_3 rfl ?_
  refine k_lst6 dX4_commonDivisor_4 (by decide) rfl ?_
  refine k_iconst dX4_commonDivisor_6 ci_0 ?_
  refine k_ist8 dX4_commonDivisor_7 (by decide) rfl ?_
  refine k_to (pc' := 9) rfl ?_
  exact k_weak (wlp_X4_commonDivisor_9 X FU _ _ _ _) (And.intro rfl (And.intro rfl (And.intro rfl True.intro)))
theorem m_X4_commonDivisor {l : Launch} {D : va_G} {d : Dt} (x0 : Int64) (x2 : Int64) (S : St) : ∀ (r : Int64) (S' : St), f_X4_commonDivisor x0 x2 S = some (r, S') → Mt l D d wlC yX4_commonDivisor cX4_commonDivisor 11 (some .long) 1 [.long x0, .long x2] S (jL r) S' := Mt_of wadC (by decide) (Nat.le_of_ble_eq_true rfl) (fun X hL hd => by subst hd; exact w_X4_commonDivisor X x0 x2 S)
noncomputable def f_X4_odds (x1 : Int32) (x2 : Int32) (x3 : Int32) (S : St) : Option (Int64 × St) := (bnd (f_X4_isVariable x1 S) fun r1 S2 => (if r1 = 0 then (some ((-1 : Int64), S2)) else (bnd (f_X4_isValue x2 S2) fun r3 S4 => (if r3 = 0 then (some ((-1 : Int64), S4)) else (if x3 < 0 then (some ((-1 : Int64), S4)) else (if (1 : Int32) < x3 then (some ((-1 : Int64), S4)) else (bnd (f_X2_isAsked x1 S4) fun r5 S6 => (if r5 = 0 then (some ((-1 : Int64), S6)) else (if (gI S6 108) = 0 then (some ((-3 : Int64), S6)) else (bnd (f_X1_leastPlace S6) fun r7 S8 => (if r7 = (-5 : Int32) then (bnd (f_X1_total (gI S8 208) x1 x2 S8) fun r9 S10 => (bnd (f_X1_total (gI S10 208) (-1 : Int32) (0 : Int32) S10) fun r11 S12 => (bnd (f_X4_commonDivisor r9 r11 S12) fun r13 S14 => (if (lg_cmp r11 (0 : Int64)) ≤ 0 then none else (if 0 < (lg_cmp r13 (0 : Int64)) then (if x3 = 0 then (chk (decide (¬ r13 = 0)) (some ((r9 / r13), S14))) else (chk (decide (¬ r13 = 0)) (some ((r11 / r13), S14)))) else none))))) else (some ((-3 : Int64), S8)))))))))))))
set_option maxRecDepth 100000 in
set_option maxHeartbeats 4000000 in
theorem w_X4_odds (X : Cx) (x1 : Int32) (x2 : Int32) (x3 : Int32) (S : St) : KJ X (cX4_odds, RX4, 10, 5, (some .long)) wlC jL 0 [some (.ref (xa X 0)), some (.int x1), some (.int x2), some (.int x3), none, none, none, none, none, none] [] S (f_X4_odds x1 x2 x3 S) := by
  unfold f_X4_odds
  refine k_iload_n dX4_odds_0 rfl ?_
  refine k_cs1i wadC lkX4_46 (m_X4_isVariable _ _) (by decide) (Nat.le_of_ble_eq_true rfl) dX4_odds_1 (fun r1 S2 => ?_)
  refine k_if_eq (tgt := 34) dX4_odds_4 (by decide) (fun _ => ?_) (fun _ => ?_)
  · refine k_ldc2 dX4_odds_34 klX4_131 ?_
    exact k_lret dX4_odds_37
  · refine k_to (pc' := 7) rfl ?_
    refine k_iload_n dX4_odds_7 rfl ?_
    refine k_cs1i wadC lkX4_36 (m_X4_isValue _ _) (by decide) (Nat.le_of_ble_eq_true rfl) dX4_odds_8 (fun r3 S4 => ?_)
    refine k_if_eq (tgt := 34) dX4_odds_11 (by decide) (fun _ => ?_) (fun _ => ?_)
    · refine k_ldc2 dX4_odds_34 klX4_131 ?_
      exact k_lret dX4_odds_37
    · refine k_to (pc' := 14) rfl ?_
      refine k_iload_n dX4_odds_14 rfl ?_
      refine k_if_lt (tgt := 34) dX4_odds_15 (by decide) (fun _ => ?_) (fun _ => ?_)
      · refine k_ldc2 dX4_odds_34 klX4_131 ?_
        exact k_lret dX4_odds_37
      · refine k_to (pc' := 18) rfl ?_
        refine k_iload_n dX4_odds_18 rfl ?_
        refine k_iconst dX4_odds_19 ci_1 ?_
        refine k_icmp_gt (tgt := 34) dX4_odds_20 (by decide) (fun _ => ?_) (fun _ => ?_)
        · refine k_ldc2 dX4_odds_34 klX4_131 ?_
          exact k_lret dX4_odds_37
        · refine k_to (pc' := 23) rfl ?_
          refine k_aload_n dX4_odds_23 rfl ?_
          refine k_getR gX4_12 dX4_odds_24 ?_
          refine k_iload_n dX4_odds_27 rfl ?_
          refine k_cv1i wadC lkX4_146 obX2 (m_X2_isAsked _ _) (by decide) (Nat.le_of_ble_eq_true rfl) dX4_odds_28 (fun r5 S6 => ?_)
          refine k_if_ne (tgt := 38) dX4_odds_31 (by decide) (fun _ => ?_) (fun _ => ?_)
          · refine k_aload_n dX4_odds_38 rfl ?_
            refine k_getR gX4_21 dX4_odds_39 ?_
            refine k_getI gX4_88 dX4_odds_42 ?_
            refine k_if_eq (tgt := 60) dX4_odds_45 (by decide) (fun _ => ?_) (fun _ => ?_)
            · refine k_ldc2 dX4_odds_60 klX4_133 ?_
              exact k_lret dX4_odds_63
            · refine k_to (pc' := 48) rfl ?_
              refine k_aload_n dX4_odds_48 rfl ?_
              refine k_getR gX4_21 dX4_odds_49 ?_
              refine k_cv0i wadC lkX4_95 obX1 (m_X1_leastPlace _) (by decide) (Nat.le_of_ble_eq_true rfl) dX4_odds_52 (fun r7 S8 => ?_)
              refine k_bipush dX4_odds_55 cb_m5 ?_
              refine k_icmp_eq (tgt := 64) dX4_odds_57 (by decide) (fun _ => ?_) (fun _ => ?_)
              · refine k_aload_n dX4_odds_64 rfl ?_
                refine k_getR gX4_21 dX4_odds_65 ?_
                refine k_aload_n dX4_odds_68 rfl ?_
                refine k_getR gX4_12 dX4_odds_69 ?_
                refine k_getI gX4_56 dX4_odds_72 ?_
                refine k_iload_n dX4_odds_75 rfl ?_
                refine k_iload_n dX4_odds_76 rfl ?_
                refine k_cv3l wadC lkX4_139 obX1 (m_X1_total _ _ _ _) (by decide) (Nat.le_of_ble_eq_true rfl) dX4_odds_77 (fun r9 S10 => ?_)
                refine k_lst4 dX4_odds_80 (by decide) rfl ?_
                refine k_to (pc' := 82) rfl ?_
                refine k_aload_n dX4_odds_82 rfl ?_
                refine k_getR gX4_21 dX4_odds_83 ?_
                refine k_aload_n dX4_odds_86 rfl ?_
                refine k_getR gX4_12 dX4_odds_87 ?_
                refine k_getI gX4_56 dX4_odds_90 ?_
                refine k_iconst dX4_odds_93 ci_m1 ?_
                refine k_iconst dX4_odds_94 ci_0 ?_
                refine k_cv3l wadC lkX4_139 obX1 (m_X1_total _ _ _ _) (by decide) (Nat.le_of_ble_eq_true rfl) dX4_odds_95 (fun r11 S12 => ?_)
                refine k_lst6 dX4_odds_98 (by decide) rfl ?_
                refine k_lload dX4_odds_100 rfl ?_
                refine k_to (pc' := 102) rfl ?_
                refine k_lload dX4_odds_102 rfl ?_
                refine k_cs2l wadC lkX4_149 (m_X4_commonDivisor _ _ _) (by decide) (Nat.le_of_ble_eq_true rfl) dX4_odds_104 (fun r13 S14 => ?_)
                refine k_lst8 dX4_odds_107 (by decide) rfl ?_
                refine k_lload dX4_odds_109 rfl ?_
                refine k_lconst dX4_odds_111 cl_0 ?_
                refine k_lcmp dX4_odds_112 ?_
                refine k_if_le (tgt := 123) dX4_odds_113 (by decide) (fun _ => ?_) (fun _ => ?_)
                · exact k_none
                · refine k_to (pc' := 116) rfl ?_
                  refine k_lload dX4_odds_116 rfl ?_
                  refine k_lconst dX4_odds_118 cl_0 ?_
                  refine k_lcmp dX4_odds_119 ?_
                  refine k_if_gt (tgt := 133) dX4_odds_120 (by decide) (fun _ => ?_) (fun _ => ?_)
                  · refine k_iload_n dX4_odds_133 rfl ?_
                    refine k_if_ne (tgt := 145) dX4_odds_134 (by decide) (fun _ => ?_) (fun _ => ?_)
                    · refine k_lload dX4_odds_145 rfl ?_
                      refine k_lload dX4_odds_147 rfl ?_
                      refine k_ldiv dX4_odds_149 ?_
                      exact k_lret dX4_odds_150
                    · refine k_to (pc' := 137) rfl ?_
                      refine k_lload dX4_odds_137 rfl ?_
                      refine k_lload dX4_odds_139 rfl ?_
                      refine k_ldiv dX4_odds_141 ?_
                      refine k_goto (tgt := 150) dX4_odds_142 (by decide) ?_
                      exact k_lret dX4_odds_150
                  · refine k_to (pc' := 123) rfl ?_
                    exact k_none
              · refine k_to (pc' := 60) rfl ?_
                refine k_ldc2 dX4_odds_60 klX4_133 ?_
                exact k_lret dX4_odds_63
          · refine k_to (pc' := 34) rfl ?_
            refine k_ldc2 dX4_odds_34 klX4_131 ?_
            exact k_lret dX4_odds_37
theorem m_X4_odds {l : Launch} {D : va_G} {d : Dt} (x1 : Int32) (x2 : Int32) (x3 : Int32) (S : St) : ∀ (r : Int64) (S' : St), f_X4_odds x1 x2 x3 S = some (r, S') → Mt l D d wlC yX4_odds cX4_odds 10 (some .long) 5 [.ref (d.1 0), .int x1, .int x2, .int x3] S (jL r) S' := Mt_of wadC (by decide) (Nat.le_of_ble_eq_true rfl) (fun X hL hd => by subst hd; exact w_X4_odds X x1 x2 x3 S)
noncomputable def f_X4_runs (S : St) : Option (Int32 × St) := (bnd (f_X3_tally S) fun r1 S2 => (some (r1, S2)))
set_option maxRecDepth 100000 in
set_option maxHeartbeats 4000000 in
theorem w_X4_runs (X : Cx) (S : St) : KJ X (cX4_runs, RX4, 1, 102, (some .int)) wlC jI 0 [some (.ref (xa X 0))] [] S (f_X4_runs S) := by
  unfold f_X4_runs
  refine k_aload_n dX4_runs_0 rfl ?_
  refine k_getR gX4_28 dX4_runs_1 ?_
  refine k_cv0i wadC lkX4_160 obX3 (m_X3_tally _) (by decide) (Nat.le_of_ble_eq_true rfl) dX4_runs_4 (fun r1 S2 => ?_)
  exact k_iret dX4_runs_7
theorem m_X4_runs {l : Launch} {D : va_G} {d : Dt} (S : St) : ∀ (r : Int32) (S' : St), f_X4_runs S = some (r, S') → Mt l D d wlC yX4_runs cX4_runs 1 (some .int) 102 [.ref (d.1 0)] S (jI r) S' := Mt_of wadC (by decide) (Nat.le_of_ble_eq_true rfl) (fun X hL hd => by subst hd; exact w_X4_runs X S)
noncomputable def f_X4_plain (x1 : Int32) (x2 : Int32) (S : St) : Option (Int64 × St) := (bnd (f_X4_isChoice x1 x2 S) fun r1 S2 => (if r1 = 0 then (some ((-1 : Int64), S2)) else (bnd (f_X3_tally S2) fun r3 S4 => (if 0 ≤ r3 then (if x1 = (-1 : Int32) then (some ((gL S4 302), S4)) else (chk (inB x1 6) (chk (inB x2 10) (some ((gB S4 (85 + (x1).toNatClampNeg) (x2).toNatClampNeg), S4))))) else (some ((r3).toInt64, S4))))))
set_option maxRecDepth 100000 in
set_option maxHeartbeats 4000000 in
theorem w_X4_plain (X : Cx) (x1 : Int32) (x2 : Int32) (S : St) : KJ X (cX4_plain, RX4, 4, 102, (some .long)) wlC jL 0 [some (.ref (xa X 0)), some (.int x1), some (.int x2), none] [] S (f_X4_plain x1 x2 S) := by
  unfold f_X4_plain
  refine k_iload_n dX4_plain_0 rfl ?_
  refine k_iload_n dX4_plain_1 rfl ?_
  refine k_cs2i wadC lkX4_128 (m_X4_isChoice _ _ _) (by decide) (Nat.le_of_ble_eq_true rfl) dX4_plain_2 (fun r1 S2 => ?_)
  refine k_if_ne (tgt := 12) dX4_plain_5 (by decide) (fun _ => ?_) (fun _ => ?_)
  · refine k_aload_n dX4_plain_12 rfl ?_
    refine k_getR gX4_28 dX4_plain_13 ?_
    refine k_cv0i wadC lkX4_160 obX3 (m_X3_tally _) (by decide) (Nat.le_of_ble_eq_true rfl) dX4_plain_16 (fun r3 S4 => ?_)
    refine k_ist_n3 dX4_plain_19 (by decide) rfl ?_
    refine k_iload_n dX4_plain_20 rfl ?_
    refine k_if_ge (tgt := 27) dX4_plain_21 (by decide) (fun _ => ?_) (fun _ => ?_)
    · refine k_iload_n dX4_plain_27 rfl ?_
      refine k_iconst dX4_plain_28 ci_m1 ?_
      refine k_icmp_ne (tgt := 42) dX4_plain_29 (by decide) (fun _ => ?_) (fun _ => ?_)
      · refine k_aload_n dX4_plain_42 rfl ?_
        refine k_getR gX4_28 dX4_plain_43 ?_
        refine k_getR gX4_166 dX4_plain_46 ?_
        refine k_iload_n dX4_plain_49 rfl ?_
        refine k_aald arC_18 dX4_plain_50 (fun h5 => ?_)
        refine k_iload_n dX4_plain_51 rfl ?_
        refine k_lald (roC_18 h5) dX4_plain_52 ?_
        exact k_lret dX4_plain_53
      · refine k_to (pc' := 32) rfl ?_
        refine k_aload_n dX4_plain_32 rfl ?_
        refine k_getR gX4_28 dX4_plain_33 ?_
        refine k_getL gX4_163 dX4_plain_36 ?_
        refine k_goto (tgt := 53) dX4_plain_39 (by decide) ?_
        exact k_lret dX4_plain_53
    · refine k_to (pc' := 24) rfl ?_
      refine k_iload_n dX4_plain_24 rfl ?_
      refine k_i2l dX4_plain_25 ?_
      exact k_lret dX4_plain_26
  · refine k_to (pc' := 8) rfl ?_
    refine k_ldc2 dX4_plain_8 klX4_131 ?_
    exact k_lret dX4_plain_11
theorem m_X4_plain {l : Launch} {D : va_G} {d : Dt} (x1 : Int32) (x2 : Int32) (S : St) : ∀ (r : Int64) (S' : St), f_X4_plain x1 x2 S = some (r, S') → Mt l D d wlC yX4_plain cX4_plain 4 (some .long) 102 [.ref (d.1 0), .int x1, .int x2] S (jL r) S' := Mt_of wadC (by decide) (Nat.le_of_ble_eq_true rfl) (fun X hL hd => by subst hd; exact w_X4_plain X x1 x2 S)
noncomputable def f_X4_count (x1 : Int32) (S : St) : Option (Int32 × St) := (if x1 = 0 then (some ((gI S 208), S)) else (if x1 = 1 then (some ((gI S 209), S)) else (if x1 = 2 then (some ((gI S 210), S)) else (if x1 = 3 then (if (gI S 108) = 0 then (some ((0 : Int32), S)) else (some ((gI S 110), S))) else (some ((-1 : Int32), S))))))
set_option maxRecDepth 100000 in
set_option maxHeartbeats 4000000 in
theorem w_X4_count (X : Cx) (x1 : Int32) (S : St) : KJ X (cX4_count, RX4, 2, 1, (some .int)) wlC jI 0 [some (.ref (xa X 0)), some (.int x1)] [] S (f_X4_count x1 S) := by
  unfold f_X4_count
  refine k_iload_n dX4_count_0 rfl ?_
  refine k_tin (tgt := 32) (v := 0) dX4_count_1 (by decide) (by decide) rfl (by decide) (fun _ => ?_) (fun t0 => ?_)
  · refine k_aload_n dX4_count_32 rfl ?_
    refine k_getR gX4_12 dX4_count_33 ?_
    refine k_getI gX4_56 dX4_count_36 ?_
    exact k_iret dX4_count_39
  refine k_tin (tgt := 40) (v := 1) dX4_count_1 (by decide) (by decide) rfl (by decide) (fun _ => ?_) (fun t1 => ?_)
  · refine k_aload_n dX4_count_40 rfl ?_
    refine k_getR gX4_12 dX4_count_41 ?_
    refine k_getI gX4_170 dX4_count_44 ?_
    exact k_iret dX4_count_47
  refine k_tin (tgt := 48) (v := 2) dX4_count_1 (by decide) (by decide) rfl (by decide) (fun _ => ?_) (fun t2 => ?_)
  · refine k_aload_n dX4_count_48 rfl ?_
    refine k_getR gX4_12 dX4_count_49 ?_
    refine k_getI gX4_173 dX4_count_52 ?_
    exact k_iret dX4_count_55
  refine k_tin (tgt := 56) (v := 3) dX4_count_1 (by decide) (by decide) rfl (by decide) (fun _ => ?_) (fun t3 => ?_)
  · refine k_aload_n dX4_count_56 rfl ?_
    refine k_getR gX4_21 dX4_count_57 ?_
    refine k_getI gX4_88 dX4_count_60 ?_
    refine k_if_eq (tgt := 76) dX4_count_63 (by decide) (fun _ => ?_) (fun _ => ?_)
    · refine k_iconst dX4_count_76 ci_0 ?_
      exact k_iret dX4_count_77
    · refine k_to (pc' := 66) rfl ?_
      refine k_aload_n dX4_count_66 rfl ?_
      refine k_getR gX4_21 dX4_count_67 ?_
      refine k_getI gX4_176 dX4_count_70 ?_
      refine k_goto (tgt := 77) dX4_count_73 (by decide) ?_
      exact k_iret dX4_count_77
  refine k_tout (tgt := 78) dX4_count_1 (tsw_0_3 t0 t1 t2 t3) (by decide) ?_
  refine k_iconst dX4_count_78 ci_m1 ?_
  exact k_iret dX4_count_79
theorem m_X4_count {l : Launch} {D : va_G} {d : Dt} (x1 : Int32) (S : St) : ∀ (r : Int32) (S' : St), f_X4_count x1 S = some (r, S') → Mt l D d wlC yX4_count cX4_count 2 (some .int) 1 [.ref (d.1 0), .int x1] S (jI r) S' := Mt_of wadC (by decide) (Nat.le_of_ble_eq_true rfl) (fun X hL hd => by subst hd; exact w_X4_count X x1 S)
noncomputable def f_X4_clear (S : St) : Option (Int32 × St) := (nxt (gI S 208) fun y1 => (bnd (f_X4_programChanged S) fun r2 S3 => (bnd (f_X2_reset S3) fun r4 S5 => (some (y1, S5)))))
set_option maxRecDepth 100000 in
set_option maxHeartbeats 4000000 in
theorem w_X4_clear (X : Cx) (S : St) : KJ X (cX4_clear, RX4, 2, 3, (some .int)) wlC jI 0 [some (.ref (xa X 0)), none] [] S (f_X4_clear S) := by
  unfold f_X4_clear
  refine k_aload_n dX4_clear_0 rfl ?_
  refine k_getR gX4_12 dX4_clear_1 ?_
  refine k_getI gX4_56 dX4_clear_4 ?_
  refine k_ist_n1 dX4_clear_7 (by decide) rfl ?_
  refine k_nxt ?_
  refine k_aload_n dX4_clear_8 rfl ?_
  refine k_cv0v wadC lkX4_39 obX4 (m_X4_programChanged _) (by decide) (Nat.le_of_ble_eq_true rfl) dX4_clear_9 (fun r2 S3 => ?_)
  refine k_aload_n dX4_clear_12 rfl ?_
  refine k_getR gX4_12 dX4_clear_13 ?_
  refine k_cv0v wadC lkX4_179 obX2 (m_X2_reset _) (by decide) (Nat.le_of_ble_eq_true rfl) dX4_clear_16 (fun r4 S5 => ?_)
  refine k_to (pc' := 19) rfl ?_
  refine k_iload_n dX4_clear_19 rfl ?_
  exact k_iret dX4_clear_20
theorem m_X4_clear {l : Launch} {D : va_G} {d : Dt} (S : St) : ∀ (r : Int32) (S' : St), f_X4_clear S = some (r, S') → Mt l D d wlC yX4_clear cX4_clear 2 (some .int) 3 [.ref (d.1 0)] S (jI r) S' := Mt_of wadC (by decide) (Nat.le_of_ble_eq_true rfl) (fun X hL hd => by subst hd; exact w_X4_clear X S)
