/-! ===== printed by gen.py out of the bytecode: functions and walks ===== -/

noncomputable def f_X3_forget (S : St) : Option (Unit × St) := (nxt (sI S 304 (0 : Int32)) fun S1 => (some ((), S1)))
set_option maxRecDepth 100000 in
set_option maxHeartbeats 4000000 in
theorem w_X3_forget (X : Cx) (S : St) : KJ X (cX3_forget, RX3, 1, 1, none) wlC jV 0 [some (.ref (xa X 3))] [] S (f_X3_forget S) := by
  unfold f_X3_forget
  refine k_aload_n dX3_forget_0 rfl ?_
  refine k_iconst dX3_forget_1 ci_0 ?_
  refine k_putZ pX3_20 (Or.inl rfl) dX3_forget_2 ?_
  refine k_nxt ?_
  exact k_vret dX3_forget_5
theorem m_X3_forget {l : Launch} {D : va_G} {d : Dt} (S : St) : ∀ (r : Unit) (S' : St), f_X3_forget S = some (r, S') → Mt l D d wlC yX3_forget cX3_forget 1 none 1 [.ref (d.1 3)] S (jV r) S' := Mt_of wadC (by decide) (Nat.le_of_ble_eq_true rfl) (fun X hL hd => by subst hd; exact w_X3_forget X S)
noncomputable def lp_X3_empty_10 (x1 : Int32) (k2 : Int32 → St → Option (Unit × St)) : Nat → Int32 → St → Option (Unit × St)
  | 0, _, _ => none
  | n + 1, x2, S => (if (10 : Int32) ≤ x2 then (k2 (x1 + (1 : Int32)) S) else (chk (inB x1 6) (chk (inB x2 10) (nxt (sB S (85 + (x1).toNatClampNeg) (vp_updL (gB S (85 + (x1).toNatClampNeg)) (x2).toNatClampNeg (0 : Int64))) fun S4 => (lp_X3_empty_10 x1 k2 n (x2 + (1 : Int32)) S4)))))
set_option maxRecDepth 100000 in
set_option maxHeartbeats 4000000 in
theorem wlp_X3_empty_10 (X : Cx) (x1 : Int32) (k2 : Int32 → St → Option (Unit × St)) (hk2 : ∀ (x1 : Int32) (S : St), KJ X (cX3_empty, RX3, 3, 1, none) wlC jV 2 [some (.ref (xa X 3)), some (.int x1), none] [] S (k2 x1 S)) : ∀ (n : Nat) (x2 : Int32) (S : St), KJ X (cX3_empty, RX3, 3, 1, none) wlC jV 10 [some (.ref (xa X 3)), some (.int x1), some (.int x2)] [] S (lp_X3_empty_10 x1 k2 n x2 S) := by
  intro n
  induction n with
  | zero => intro x2 S; rw [lp_X3_empty_10]; exact k_none
  | succ n ih =>
    intro x2 S
    rw [lp_X3_empty_10]
    refine k_iload_n dX3_empty_10 rfl ?_
    refine k_bipush dX3_empty_11 cb_10 ?_
    refine k_icmp_ge (tgt := 31) dX3_empty_13 (by decide) (fun _ => ?_) (fun _ => ?_)
    · refine k_inc1 dX3_empty_31 ci_1 (by decide) rfl ?_
      refine k_goto (tgt := 2) dX3_empty_34 (by decide) ?_
      refine k_to (pc' := 2) rfl ?_
      exact k_weak (hk2 _ _) (And.intro rfl (And.intro rfl True.intro))
    · refine k_to (pc' := 16) rfl ?_
      refine k_aload_n dX3_empty_16 rfl ?_
      refine k_getR gX3_11 dX3_empty_17 ?_
      refine k_iload_n dX3_empty_20 rfl ?_
      refine k_aald arC_18 dX3_empty_21 (fun h3 => ?_)
      refine k_iload_n dX3_empty_22 rfl ?_
      refine k_lconst dX3_empty_23 cl_0 ?_
      refine k_last (roC_18 h3) dX3_empty_24 ?_
      refine k_nxt ?_
      refine k_inc2 dX3_empty_25 ci_1 (by decide) rfl ?_
      refine k_goto (tgt := 10) dX3_empty_28 (by decide) ?_
      refine k_to (pc' := 10) rfl ?_
      exact k_weak (ih _ _) (And.intro rfl (And.intro rfl (And.intro rfl True.intro)))
noncomputable def lp_X3_empty_2 : Nat → Int32 → St → Option (Unit × St)
  | 0, _, _ => none
  | n + 1, x1, S => (if (6 : Int32) ≤ x1 then (nxt (sL S 302 (0 : Int64)) fun S1 => (nxt (sI S1 303 (0 : Int32)) fun S2 => (some ((), S2)))) else (lp_X3_empty_10 x1 (lp_X3_empty_2 n) FU (0 : Int32) S))
set_option maxRecDepth 100000 in
set_option maxHeartbeats 4000000 in
theorem wlp_X3_empty_2 (X : Cx) : ∀ (n : Nat) (x1 : Int32) (S : St), KJ X (cX3_empty, RX3, 3, 1, none) wlC jV 2 [some (.ref (xa X 3)), some (.int x1), none] [] S (lp_X3_empty_2 n x1 S) := by
  intro n
  induction n with
  | zero => intro x1 S; rw [lp_X3_empty_2]; exact k_none
  | succ n ih =>
    intro x1 S
    rw [lp_X3_empty_2]
    refine k_iload_n dX3_empty_2 rfl ?_
    refine k_bipush dX3_empty_3 cb_6 ?_
    refine k_icmp_ge (tgt := 37) dX3_empty_5 (by decide) (fun _ => ?_) (fun _ => ?_)
    · refine k_aload_n dX3_empty_37 rfl ?_
      refine k_lconst dX3_empty_38 cl_0 ?_
      refine k_putL pX3_43 dX3_empty_39 ?_
      refine k_nxt ?_
      refine k_aload_n dX3_empty_42 rfl ?_
      refine k_iconst dX3_empty_43 ci_0 ?_
      refine k_putI pX3_39 dX3_empty_44 ?_
      refine k_nxt ?_
      exact k_vret dX3_empty_47
    · refine k_to (pc' := 8) rfl ?_
      refine k_iconst dX3_empty_8 ci_0 ?_
      refine k_ist_n2 dX3_empty_9 (by decide) rfl ?_
      refine k_to (pc' := 10) rfl ?_
      exact k_weak (wlp_X3_empty_10 X _ _ ih FU _ _) (And.intro rfl (And.intro rfl (And.intro rfl True.intro)))
noncomputable def f_X3_empty (S : St) : Option (Unit × St) := (lp_X3_empty_2 FU (0 : Int32) S)
set_option maxRecDepth 100000 in
set_option maxHeartbeats 4000000 in
theorem w_X3_empty (X : Cx) (S : St) : KJ X (cX3_empty, RX3, 3, 1, none) wlC jV 0 [some (.ref (xa X 3)), none, none] [] S (f_X3_empty S) := by
  unfold f_X3_empty
  refine k_iconst dX3_empty_0 ci_0 ?_
  refine k_ist_n1 dX3_empty_1 (by decide) rfl ?_
  refine k_to (pc' := 2) rfl ?_
  exact k_weak (wlp_X3_empty_2 X FU _ _) (And.intro rfl (And.intro rfl True.intro))
theorem m_X3_empty {l : Launch} {D : va_G} {d : Dt} (S : St) : ∀ (r : Unit) (S' : St), f_X3_empty S = some (r, S') → Mt l D d wlC yX3_empty cX3_empty 3 none 1 [.ref (d.1 3)] S (jV r) S' := Mt_of wadC (by decide) (Nat.le_of_ble_eq_true rfl) (fun X hL hd => by subst hd; exact w_X3_empty X S)
noncomputable def lp_X3_addAtEnd_13 (x1 : Int32) (x2 : Int64) : Nat → Int32 → St → Option (Unit × St)
  | 0, _, _ => none
  | n + 1, x4, S => (if (6 : Int32) ≤ x4 then (some ((), S)) else (bnd (f_X0_valueOf x1 x4 S) fun r2 S3 => (bnd (f_X4_isValue r2 S3) fun r4 S5 => (if r4 = 0 then (lp_X3_addAtEnd_13 x1 x2 n (x4 + (1 : Int32)) S5) else (chk (inB x4 6) (chk (inB r2 10) (chk (inB r2 10) (nxt (sB S5 (85 + (x4).toNatClampNeg) (vp_updL (gB S5 (85 + (x4).toNatClampNeg)) (r2).toNatClampNeg ((gB S5 (85 + (x4).toNatClampNeg) (r2).toNatClampNeg) + x2))) fun S7 => (lp_X3_addAtEnd_13 x1 x2 n (x4 + (1 : Int32)) S7)))))))))
set_option maxRecDepth 100000 in
set_option maxHeartbeats 4000000 in
theorem wlp_X3_addAtEnd_13 (X : Cx) (x1 : Int32) (x2 : Int64) : ∀ (n : Nat) (x4 : Int32) (S : St), KJ X (cX3_addAtEnd, RX3, 6, 2, none) wlC jV 13 [some (.ref (xa X 3)), some (.int x1), some (.long x2), none, some (.int x4), none] [] S (lp_X3_addAtEnd_13 x1 x2 n x4 S) := by
  intro n
  induction n with
  | zero => intro x4 S; rw [lp_X3_addAtEnd_13]; exact k_none
  | succ n ih =>
    intro x4 S
    rw [lp_X3_addAtEnd_13]
    refine k_iload dX3_addAtEnd_13 rfl ?_
    refine k_bipush dX3_addAtEnd_15 cb_6 ?_
    refine k_icmp_ge (tgt := 56) dX3_addAtEnd_17 (by decide) (fun _ => ?_) (fun _ => ?_)
    · exact k_vret dX3_addAtEnd_56
    · refine k_to (pc' := 20) rfl ?_
      refine k_iload_n dX3_addAtEnd_20 rfl ?_
      refine k_iload dX3_addAtEnd_21 rfl ?_
      refine k_cs2i wadC lkX3_73 (m_X0_valueOf _ _ _) (by decide) (Nat.le_of_ble_eq_true rfl) dX3_addAtEnd_23 (fun r2 S3 => ?_)
      refine k_ist5 dX3_addAtEnd_26 (by decide) rfl ?_
      refine k_iload dX3_addAtEnd_28 rfl ?_
      refine k_cs1i wadC lkX3_78 (m_X4_isValue _ _) (by decide) (Nat.le_of_ble_eq_true rfl) dX3_addAtEnd_30 (fun r4 S5 => ?_)
      refine k_if_eq (tgt := 50) dX3_addAtEnd_33 (by decide) (fun _ => ?_) (fun _ => ?_)
      · refine k_inc4 dX3_addAtEnd_50 ci_1 (by decide) rfl ?_
        refine k_goto (tgt := 13) dX3_addAtEnd_53 (by decide) ?_
        refine k_to (pc' := 13) rfl ?_
        exact k_weak (ih _ _) (And.intro rfl (And.intro rfl (And.intro rfl (And.intro rfl True.intro))))
      · refine k_to (pc' := 36) rfl ?_
        refine k_aload_n dX3_addAtEnd_36 rfl ?_
        refine k_getR gX3_11 dX3_addAtEnd_37 ?_
        refine k_iload dX3_addAtEnd_40 rfl ?_
        refine k_aald arC_18 dX3_addAtEnd_42 (fun h6 => ?_)
        refine k_iload dX3_addAtEnd_43 rfl ?_
        refine k_dup2 dX3_addAtEnd_45 rfl rfl ?_
        refine k_lald (roC_18 h6) dX3_addAtEnd_46 ?_
        refine k_lload_n dX3_addAtEnd_47 rfl ?_
        refine k_ladd dX3_addAtEnd_48 ?_
        refine k_to (pc' := 49) rfl ?_
        refine k_last (roC_18 h6) dX3_addAtEnd_49 ?_
        refine k_nxt ?_
        refine k_inc4 dX3_addAtEnd_50 ci_1 (by decide) rfl ?_
        refine k_goto (tgt := 13) dX3_addAtEnd_53 (by decide) ?_
        refine k_to (pc' := 13) rfl ?_
        exact k_weak (ih _ _) (And.intro rfl (And.intro rfl (And.intro rfl (And.intro rfl True.intro))))
noncomputable def f_X3_addAtEnd (x1 : Int32) (x2 : Int64) (S : St) : Option (Unit × St) := (nxt (sL S 302 ((gL S 302) + x2)) fun S1 => (lp_X3_addAtEnd_13 x1 x2 FU (0 : Int32) S1))
set_option maxRecDepth 100000 in
set_option maxHeartbeats 4000000 in
theorem w_X3_addAtEnd (X : Cx) (x1 : Int32) (x2 : Int64) (S : St) : KJ X (cX3_addAtEnd, RX3, 6, 2, none) wlC jV 0 [some (.ref (xa X 3)), some (.int x1), some (.long x2), none, none, none] [] S (f_X3_addAtEnd x1 x2 S) := by
  unfold f_X3_addAtEnd
  refine k_aload_n dX3_addAtEnd_0 rfl ?_
  refine k_dup dX3_addAtEnd_1 rfl ?_
  refine k_getL gX3_43 dX3_addAtEnd_2 ?_
  refine k_lload_n dX3_addAtEnd_5 rfl ?_
  refine k_ladd dX3_addAtEnd_6 ?_
  refine k_putL pX3_43 dX3_addAtEnd_7 ?_
  refine k_nxt ?_
  refine k_iconst dX3_addAtEnd_10 ci_0 ?_
  refine k_ist4 dX3_addAtEnd_11 (by decide) rfl ?_
  refine k_to (pc' := 13) rfl ?_
  exact k_weak (wlp_X3_addAtEnd_13 X _ _ FU _ _) (And.intro rfl (And.intro rfl (And.intro rfl (And.intro rfl True.intro))))
theorem m_X3_addAtEnd {l : Launch} {D : va_G} {d : Dt} (x1 : Int32) (x2 : Int64) (S : St) : ∀ (r : Unit) (S' : St), f_X3_addAtEnd x1 x2 S = some (r, S') → Mt l D d wlC yX3_addAtEnd cX3_addAtEnd 6 none 2 [.ref (d.1 3), .int x1, .long x2] S (jV r) S' := Mt_of wadC (by decide) (Nat.le_of_ble_eq_true rfl) (fun X hL hd => by subst hd; exact w_X3_addAtEnd X x1 x2 S)
noncomputable def lp_X3_branch_11 (ff : Int32 → Int32 → Int64 → Int32 → St → Option (Unit × St)) (x1 : Int32) (x2 : Int32) (x3 : Int64) (x5 : Int32) : Nat → Int32 → St → Option (Unit × St)
  | 0, _, _ => none
  | n + 1, x6, S => (if (10 : Int32) ≤ x6 then (some ((), S)) else (if (20000 : Int32) < (gI S 303) then (some ((), S)) else (bnd (f_X2_massBehind x1 x6 x2 x3 S) fun r1 S2 => (if (lg_cmp r1 (0 : Int64)) ≤ 0 then (lp_X3_branch_11 ff x1 x2 x3 x5 n (x6 + (1 : Int32)) S2) else (bnd (f_X2_heldBehind x1 x6 x2 S2) fun r3 S4 => (bnd (ff (x1 + (1 : Int32)) r3 r1 (x5 + (1 : Int32)) S4) fun r5 S6 => (lp_X3_branch_11 ff x1 x2 x3 x5 n (x6 + (1 : Int32)) S6)))))))
set_option maxRecDepth 100000 in
set_option maxHeartbeats 4000000 in
theorem wlp_X3_branch_11 (X : Cx) (ff : Int32 → Int32 → Int64 → Int32 → St → Option (Unit × St)) (h hb : Nat) (hf : ∀ (a b : Int32) (c : Int64) (d : Int32) (S : St) (r : Unit) (S' : St), ff a b c d S = some (r, S') → Mt (xL X) (xD X) (xd X) wlC yX3_follow cX3_follow 12 none hb [.ref (xa X 3), .int a, .int b, .long c, .int d] S (jV r) S') (hh : hb + 1 ≤ h) (h12 : 12 ≤ h) (x1 : Int32) (x2 : Int32) (x3 : Int64) (x5 : Int32) : ∀ (n : Nat) (x6 : Int32) (S : St), KJ X (cX3_branch, RX3, 9, h, none) wlC jV 11 [some (.ref (xa X 3)), some (.int x1), some (.int x2), some (.long x3), none, some (.int x5), some (.int x6), none, none] [] S (lp_X3_branch_11 ff x1 x2 x3 x5 n x6 S) := by
  intro n
  induction n with
  | zero => intro x6 S; rw [lp_X3_branch_11]; exact k_none
  | succ n ih =>
    intro x6 S
    rw [lp_X3_branch_11]
    refine k_iload dX3_branch_11 rfl ?_
    refine k_bipush dX3_branch_13 cb_10 ?_
    refine k_icmp_ge (tgt := 79) dX3_branch_15 (by decide) (fun _ => ?_) (fun _ => ?_)
    · exact k_vret dX3_branch_79
    · refine k_to (pc' := 18) rfl ?_
      refine k_aload_n dX3_branch_18 rfl ?_
      refine k_getI gX3_39 dX3_branch_19 ?_
      refine k_sipush dX3_branch_22 cs_20000 ?_
      refine k_icmp_gt (tgt := 79) dX3_branch_25 (by decide) (fun _ => ?_) (fun _ => ?_)
      · exact k_vret dX3_branch_79
      · refine k_to (pc' := 28) rfl ?_
        refine k_aload_n dX3_branch_28 rfl ?_
        refine k_getR gX3_16 dX3_branch_29 ?_
        refine k_iload_n dX3_branch_32 rfl ?_
        refine k_iload dX3_branch_33 rfl ?_
        refine k_iload_n dX3_branch_35 rfl ?_
        refine k_lload_n dX3_branch_36 rfl ?_
        refine k_cv4l wadC lkX3_61 obX2 (m_X2_massBehind _ _ _ _ _) (by omega) (Nat.le_of_ble_eq_true rfl) dX3_branch_37 (fun r1 S2 => ?_)
        refine k_lst7 dX3_branch_40 (by decide) rfl ?_
        refine k_lload dX3_branch_42 rfl ?_
        refine k_to (pc' := 44) rfl ?_
        refine k_lconst dX3_branch_44 cl_0 ?_
        refine k_lcmp dX3_branch_45 ?_
        refine k_if_le (tgt := 73) dX3_branch_46 (by decide) (fun _ => ?_) (fun _ => ?_)
        · refine k_inc6 dX3_branch_73 ci_1 (by decide) rfl ?_
          refine k_goto (tgt := 11) dX3_branch_76 (by decide) ?_
          refine k_to (pc' := 11) rfl ?_
          exact k_weak (ih _ _) (And.intro rfl (And.intro rfl (And.intro rfl (And.intro rfl (And.intro rfl (And.intro rfl True.intro))))))
        · refine k_to (pc' := 49) rfl ?_
          refine k_aload_n dX3_branch_49 rfl ?_
          refine k_iload_n dX3_branch_50 rfl ?_
          refine k_iconst dX3_branch_51 ci_1 ?_
          refine k_iadd dX3_branch_52 ?_
          refine k_aload_n dX3_branch_53 rfl ?_
          refine k_getR gX3_16 dX3_branch_54 ?_
          refine k_iload_n dX3_branch_57 rfl ?_
          refine k_iload dX3_branch_58 rfl ?_
          refine k_iload_n dX3_branch_60 rfl ?_
          refine k_to (pc' := 61) rfl ?_
          refine k_cv3i wadC lkX3_65 obX2 (m_X2_heldBehind _ _ _ _) (by omega) (Nat.le_of_ble_eq_true rfl) dX3_branch_61 (fun r3 S4 => ?_)
          refine k_lload dX3_branch_64 rfl ?_
          refine k_iload dX3_branch_66 rfl ?_
          refine k_iconst dX3_branch_68 ci_1 ?_
          refine k_iadd dX3_branch_69 ?_
          refine k_cv4v wadC lkX3_35 obX3 (hf _ _ _ _ _) hh (Nat.le_of_ble_eq_true rfl) dX3_branch_70 (fun r5 S6 => ?_)
          refine k_inc6 dX3_branch_73 ci_1 (by decide) rfl ?_
          refine k_goto (tgt := 11) dX3_branch_76 (by decide) ?_
          refine k_to (pc' := 11) rfl ?_
          exact k_weak (ih _ _) (And.intro rfl (And.intro rfl (And.intro rfl (And.intro rfl (And.intro rfl (And.intro rfl True.intro))))))
noncomputable def g_X3_branch (ff : Int32 → Int32 → Int64 → Int32 → St → Option (Unit × St)) (x1 : Int32) (x2 : Int32) (x3 : Int64) (x5 : Int32) (S : St) : Option (Unit × St) := (if x5 < (8 : Int32) then (lp_X3_branch_11 ff x1 x2 x3 x5 FU (0 : Int32) S) else (some ((), S)))
set_option maxRecDepth 100000 in
set_option maxHeartbeats 4000000 in
theorem w_X3_branch (X : Cx) (ff : Int32 → Int32 → Int64 → Int32 → St → Option (Unit × St)) (h hb : Nat) (hf : ∀ (a b : Int32) (c : Int64) (d : Int32) (S : St) (r : Unit) (S' : St), ff a b c d S = some (r, S') → Mt (xL X) (xD X) (xd X) wlC yX3_follow cX3_follow 12 none hb [.ref (xa X 3), .int a, .int b, .long c, .int d] S (jV r) S') (hh : hb + 1 ≤ h) (h12 : 12 ≤ h) (x1 : Int32) (x2 : Int32) (x3 : Int64) (x5 : Int32) (S : St) : KJ X (cX3_branch, RX3, 9, h, none) wlC jV 0 [some (.ref (xa X 3)), some (.int x1), some (.int x2), some (.long x3), none, some (.int x5), none, none, none] [] S (g_X3_branch ff x1 x2 x3 x5 S) := by
  unfold g_X3_branch
  refine k_iload dX3_branch_0 rfl ?_
  refine k_bipush dX3_branch_2 cb_8 ?_
  refine k_icmp_lt (tgt := 8) dX3_branch_4 (by decide) (fun _ => ?_) (fun _ => ?_)
  · refine k_iconst dX3_branch_8 ci_0 ?_
    refine k_ist6 dX3_branch_9 (by decide) rfl ?_
    refine k_to (pc' := 11) rfl ?_
    exact k_weak (wlp_X3_branch_11 X ff h hb hf hh h12 _ _ _ _ FU _ _) (And.intro rfl (And.intro rfl (And.intro rfl (And.intro rfl (And.intro rfl (And.intro rfl True.intro))))))
  · refine k_to (pc' := 7) rfl ?_
    exact k_vret dX3_branch_7
noncomputable def lp_X3_follow_12 (fb : Int32 → Int32 → Int64 → Int32 → St → Option (Unit × St)) (x5 : Int32) : Nat → Int32 → Int32 → Int64 → Int32 → St → Option (Unit × St)
  | 0, _, _, _, _, _ => none
  | n + 1, x6, x7, x8, x10, S => (if (30 : Int32) ≤ x10 then (nxt (sI S 303 ((gI S 303) + (1 : Int32))) fun S1 => (if (lg_cmp x8 (0 : Int64)) ≤ 0 then (some ((), S1)) else (bnd (f_X3_addAtEnd x7 x8 S1) fun r2 S3 => (some ((), S3))))) else (bnd (f_X2_isStep x6 S) fun r4 S5 => (if r4 = 0 then (nxt (sI S5 303 ((gI S5 303) + (1 : Int32))) fun S6 => (if (lg_cmp x8 (0 : Int64)) ≤ 0 then (some ((), S6)) else (bnd (f_X3_addAtEnd x7 x8 S6) fun r7 S8 => (some ((), S8))))) else (if (lg_cmp x8 (0 : Int64)) ≤ 0 then (nxt (sI S5 303 ((gI S5 303) + (1 : Int32))) fun S9 => (if (lg_cmp x8 (0 : Int64)) ≤ 0 then (some ((), S9)) else (bnd (f_X3_addAtEnd x7 x8 S9) fun r10 S11 => (some ((), S11))))) else (bnd (f_X2_isDraw x6 S5) fun r12 S13 => (if r12 = 0 then (bnd (f_X2_placeBehind x6 x7 S13) fun r14 S15 => (bnd (f_X2_massBehind x6 (0 : Int32) x7 x8 S15) fun r16 S17 => (bnd (f_X2_heldBehind x6 (0 : Int32) x7 S17) fun r18 S19 => (lp_X3_follow_12 fb x5 n r14 r18 r16 (x10 + (1 : Int32)) S19)))) else (bnd (fb x6 x7 x8 x5 S13) fun r20 S21 => (some ((), S21)))))))))
set_option maxRecDepth 100000 in
set_option maxHeartbeats 4000000 in
theorem wlp_X3_follow_12 (X : Cx) (fb : Int32 → Int32 → Int64 → Int32 → St → Option (Unit × St)) (h hb : Nat) (hf : ∀ (a b : Int32) (c : Int64) (d : Int32) (S : St) (r : Unit) (S' : St), fb a b c d S = some (r, S') → Mt (xL X) (xD X) (xd X) wlC yX3_branch cX3_branch 9 none hb [.ref (xa X 3), .int a, .int b, .long c, .int d] S (jV r) S') (hh : hb + 1 ≤ h) (h12 : 12 ≤ h) (x5 : Int32) : ∀ (n : Nat) (x6 : Int32) (x7 : Int32) (x8 : Int64) (x10 : Int32) (S : St), KJ X (cX3_follow, RX3, 12, h, none) wlC jV 12 [some (.ref (xa X 3)), none, none, none, none, some (.int x5), some (.int x6), some (.int x7), some (.long x8), none, some (.int x10), none] [] S (lp_X3_follow_12 fb x5 n x6 x7 x8 x10 S) := by
  intro n
  induction n with
  | zero => intro x6 x7 x8 x10 S; rw [lp_X3_follow_12]; exact k_none
  | succ n ih =>
    intro x6 x7 x8 x10 S
    rw [lp_X3_follow_12]
    refine k_iload dX3_follow_12 rfl ?_
    refine k_bipush dX3_follow_14 cb_30 ?_
    refine k_icmp_ge (tgt := 116) dX3_follow_16 (by decide) (fun _ => ?_) (fun _ => ?_)
    · refine k_aload_n dX3_follow_116 rfl ?_
      refine k_dup dX3_follow_117 rfl ?_
      refine k_getI gX3_39 dX3_follow_118 ?_
      refine k_iconst dX3_follow_121 ci_1 ?_
      refine k_iadd dX3_follow_122 ?_
      refine k_putI pX3_39 dX3_follow_123 ?_
      refine k_nxt ?_
      refine k_lload dX3_follow_126 rfl ?_
      refine k_lconst dX3_follow_128 cl_0 ?_
      refine k_lcmp dX3_follow_129 ?_
      refine k_to (pc' := 130) rfl ?_
      refine k_if_le (tgt := 141) dX3_follow_130 (by decide) (fun _ => ?_) (fun _ => ?_)
      · exact k_vret dX3_follow_141
      · refine k_to (pc' := 133) rfl ?_
        refine k_aload_n dX3_follow_133 rfl ?_
        refine k_iload dX3_follow_134 rfl ?_
        refine k_lload dX3_follow_136 rfl ?_
        refine k_cv2v wadC lkX3_69 obX3 (m_X3_addAtEnd _ _ _) (by omega) (Nat.le_of_ble_eq_true rfl) dX3_follow_138 (fun r2 S3 => ?_)
        exact k_vret dX3_follow_141
    · refine k_to (pc' := 19) rfl ?_
      refine k_aload_n dX3_follow_19 rfl ?_
      refine k_getR gX3_16 dX3_follow_20 ?_
      refine k_iload dX3_follow_23 rfl ?_
      refine k_cv1i wadC lkX3_47 obX2 (m_X2_isStep _ _) (by omega) (Nat.le_of_ble_eq_true rfl) dX3_follow_25 (fun r4 S5 => ?_)
      refine k_if_eq (tgt := 116) dX3_follow_28 (by decide) (fun _ => ?_) (fun _ => ?_)
      · refine k_aload_n dX3_follow_116 rfl ?_
        refine k_dup dX3_follow_117 rfl ?_
        refine k_getI gX3_39 dX3_follow_118 ?_
        refine k_iconst dX3_follow_121 ci_1 ?_
        refine k_iadd dX3_follow_122 ?_
        refine k_putI pX3_39 dX3_follow_123 ?_
        refine k_nxt ?_
        refine k_lload dX3_follow_126 rfl ?_
        refine k_lconst dX3_follow_128 cl_0 ?_
        refine k_lcmp dX3_follow_129 ?_
        refine k_to (pc' := 130) rfl ?_
        refine k_if_le (tgt := 141) dX3_follow_130 (by decide) (fun _ => ?_) (fun _ => ?_)
        · exact k_vret dX3_follow_141
        · refine k_to (pc' := 133) rfl ?_
          refine k_aload_n dX3_follow_133 rfl ?_
          refine k_iload dX3_follow_134 rfl ?_
          refine k_lload dX3_follow_136 rfl ?_
          refine k_cv2v wadC lkX3_69 obX3 (m_X3_addAtEnd _ _ _) (by omega) (Nat.le_of_ble_eq_true rfl) dX3_follow_138 (fun r7 S8 => ?_)
          exact k_vret dX3_follow_141
      · refine k_to (pc' := 31) rfl ?_
        refine k_lload dX3_follow_31 rfl ?_
        refine k_lconst dX3_follow_33 cl_0 ?_
        refine k_lcmp dX3_follow_34 ?_
        refine k_if_le (tgt := 116) dX3_follow_35 (by decide) (fun _ => ?_) (fun _ => ?_)
        · refine k_aload_n dX3_follow_116 rfl ?_
          refine k_dup dX3_follow_117 rfl ?_
          refine k_getI gX3_39 dX3_follow_118 ?_
          refine k_iconst dX3_follow_121 ci_1 ?_
          refine k_iadd dX3_follow_122 ?_
          refine k_putI pX3_39 dX3_follow_123 ?_
          refine k_nxt ?_
          refine k_lload dX3_follow_126 rfl ?_
          refine k_lconst dX3_follow_128 cl_0 ?_
          refine k_lcmp dX3_follow_129 ?_
          refine k_to (pc' := 130) rfl ?_
          refine k_if_le (tgt := 141) dX3_follow_130 (by decide) (fun _ => ?_) (fun _ => ?_)
          · exact k_vret dX3_follow_141
          · refine k_to (pc' := 133) rfl ?_
            refine k_aload_n dX3_follow_133 rfl ?_
            refine k_iload dX3_follow_134 rfl ?_
            refine k_lload dX3_follow_136 rfl ?_
            refine k_cv2v wadC lkX3_69 obX3 (m_X3_addAtEnd _ _ _) (by omega) (Nat.le_of_ble_eq_true rfl) dX3_follow_138 (fun r10 S11 => ?_)
            exact k_vret dX3_follow_141
        · refine k_to (pc' := 38) rfl ?_
          refine k_aload_n dX3_follow_38 rfl ?_
          refine k_getR gX3_16 dX3_follow_39 ?_
          refine k_iload dX3_follow_42 rfl ?_
          refine k_cv1i wadC lkX3_51 obX2 (m_X2_isDraw _ _) (by omega) (Nat.le_of_ble_eq_true rfl) dX3_follow_44 (fun r12 S13 => ?_)
          refine k_if_eq (tgt := 63) dX3_follow_47 (by decide) (fun _ => ?_) (fun _ => ?_)
          · refine k_aload_n dX3_follow_63 rfl ?_
            refine k_getR gX3_16 dX3_follow_64 ?_
            refine k_iload dX3_follow_67 rfl ?_
            refine k_iload dX3_follow_69 rfl ?_
            refine k_cv2i wadC lkX3_57 obX2 (m_X2_placeBehind _ _ _) (by omega) (Nat.le_of_ble_eq_true rfl) dX3_follow_71 (fun r14 S15 => ?_)
            refine k_ist11 dX3_follow_74 (by decide) rfl ?_
            refine k_aload_n dX3_follow_76 rfl ?_
            refine k_getR gX3_16 dX3_follow_77 ?_
            refine k_iload dX3_follow_80 rfl ?_
            refine k_to (pc' := 82) rfl ?_
            refine k_iconst dX3_follow_82 ci_0 ?_
            refine k_iload dX3_follow_83 rfl ?_
            refine k_lload dX3_follow_85 rfl ?_
            refine k_cv4l wadC lkX3_61 obX2 (m_X2_massBehind _ _ _ _ _) (by omega) (Nat.le_of_ble_eq_true rfl) dX3_follow_87 (fun r16 S17 => ?_)
            refine k_lst8 dX3_follow_90 (by decide) rfl ?_
            refine k_aload_n dX3_follow_92 rfl ?_
            refine k_getR gX3_16 dX3_follow_93 ?_
            refine k_iload dX3_follow_96 rfl ?_
            refine k_iconst dX3_follow_98 ci_0 ?_
            refine k_iload dX3_follow_99 rfl ?_
            refine k_to (pc' := 101) rfl ?_
            refine k_cv3i wadC lkX3_65 obX2 (m_X2_heldBehind _ _ _ _) (by omega) (Nat.le_of_ble_eq_true rfl) dX3_follow_101 (fun r18 S19 => ?_)
            refine k_ist7 dX3_follow_104 (by decide) rfl ?_
            refine k_iload dX3_follow_106 rfl ?_
            refine k_ist6 dX3_follow_108 (by decide) rfl ?_
            refine k_inc10 dX3_follow_110 ci_1 (by decide) rfl ?_
            refine k_goto (tgt := 12) dX3_follow_113 (by decide) ?_
            refine k_to (pc' := 12) rfl ?_
            exact k_weak (ih _ _ _ _ _) (And.intro rfl (And.intro rfl (And.intro rfl (And.intro rfl (And.intro rfl (And.intro rfl True.intro))))))
          · refine k_to (pc' := 50) rfl ?_
            refine k_aload_n dX3_follow_50 rfl ?_
            refine k_iload dX3_follow_51 rfl ?_
            refine k_iload dX3_follow_53 rfl ?_
            refine k_lload dX3_follow_55 rfl ?_
            refine k_iload dX3_follow_57 rfl ?_
            refine k_cv4v wadC lkX3_54 obX3 (hf _ _ _ _ _) hh (Nat.le_of_ble_eq_true rfl) dX3_follow_59 (fun r20 S21 => ?_)
            exact k_vret dX3_follow_62
noncomputable def g_X3_follow (fb : Int32 → Int32 → Int64 → Int32 → St → Option (Unit × St)) (x1 : Int32) (x2 : Int32) (x3 : Int64) (x5 : Int32) (S : St) : Option (Unit × St) := (lp_X3_follow_12 fb x5 FU x1 x2 x3 (0 : Int32) S)
set_option maxRecDepth 100000 in
set_option maxHeartbeats 4000000 in
theorem w_X3_follow (X : Cx) (fb : Int32 → Int32 → Int64 → Int32 → St → Option (Unit × St)) (h hb : Nat) (hf : ∀ (a b : Int32) (c : Int64) (d : Int32) (S : St) (r : Unit) (S' : St), fb a b c d S = some (r, S') → Mt (xL X) (xD X) (xd X) wlC yX3_branch cX3_branch 9 none hb [.ref (xa X 3), .int a, .int b, .long c, .int d] S (jV r) S') (hh : hb + 1 ≤ h) (h12 : 12 ≤ h) (x1 : Int32) (x2 : Int32) (x3 : Int64) (x5 : Int32) (S : St) : KJ X (cX3_follow, RX3, 12, h, none) wlC jV 0 [some (.ref (xa X 3)), some (.int x1), some (.int x2), some (.long x3), none, some (.int x5), none, none, none, none, none, none] [] S (g_X3_follow fb x1 x2 x3 x5 S) := by
  unfold g_X3_follow
  refine k_iload_n dX3_follow_0 rfl ?_
  refine k_ist6 dX3_follow_1 (by decide) rfl ?_
  refine k_iload_n dX3_follow_3 rfl ?_
  refine k_ist7 dX3_follow_4 (by decide) rfl ?_
  refine k_lload_n dX3_follow_6 rfl ?_
  refine k_lst8 dX3_follow_7 (by decide) rfl ?_
  refine k_iconst dX3_follow_9 ci_0 ?_
  refine k_ist10 dX3_follow_10 (by decide) rfl ?_
  refine k_to (pc' := 12) rfl ?_
  exact k_weak (wlp_X3_follow_12 X fb h hb hf hh h12 _ FU _ _ _ _ _) (And.intro rfl (And.intro rfl (And.intro rfl (And.intro rfl (And.intro rfl (And.intro rfl True.intro))))))
/-- follow and branch call one another: the depth is a number -/
noncomputable def fol : Nat → Int32 → Int32 → Int64 → Int32 → St → Option (Unit × St)
  | 0, _, _, _, _, _ => none
  | n + 1, a, b, c, e, S => g_X3_follow (fun a b c e S => g_X3_branch (fol n) a b c e S) a b c e S
set_option maxRecDepth 100000 in
set_option maxHeartbeats 4000000 in
theorem m_fol : ∀ (n : Nat) (l : Launch) (D : va_G) (d : Dt) (a b : Int32) (c : Int64) (e : Int32) (S : St) (r : Unit) (S' : St), fol n a b c e S = some (r, S') → Mt l D d wlC yX3_follow cX3_follow 12 none (12 + 2 * n) [.ref (d.1 3), .int a, .int b, .long c, .int e] S (jV r) S' := by
  intro n
  induction n with
  | zero => intro l D d a b c e S r S' he; rw [fol] at he; cases he
  | succ n ih =>
    intro l D d a b c e S
    rw [fol]
    refine Mt_of wadC (by decide) (Nat.le_of_ble_eq_true rfl) (fun X hL hd => ?_)
    subst hd
    refine w_X3_follow X _ (12 + 2 * (n + 1)) (12 + 2 * n + 1) (fun a b c e S => ?_) (by omega) (by omega) a b c e S
    refine Mt_of wadC (by decide) (Nat.le_of_ble_eq_true rfl) (fun X2 hL2 hd2 => ?_)
    rw [show xa X 3 = xa X2 3 by unfold xa; rw [hd2]]
    exact w_X3_branch X2 (fol n) (12 + 2 * n + 1) (12 + 2 * n) (fun a b c e S => ih (xL X2) (xD X2) (xd X2) a b c e S) (by omega) (by omega) a b c e S
noncomputable def f_X3_follow (a b : Int32) (c : Int64) (e : Int32) (S : St) : Option (Unit × St) := fol 20 a b c e S
theorem m_X3_follow {l : Launch} {D : va_G} {d : Dt} (a b : Int32) (c : Int64) (e : Int32) (S : St) : ∀ (r : Unit) (S' : St), f_X3_follow a b c e S = some (r, S') → Mt l D d wlC yX3_follow cX3_follow 12 none 52 [.ref (d.1 3), .int a, .int b, .long c, .int e] S (jV r) S' := m_fol 20 l D d a b c e S

