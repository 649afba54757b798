/-! ===== printed by gen.py out of the bytecode: functions and walks ===== -/

/-- rounds enough for any loop; no reduction may unroll it -/
noncomputable def FU : Nat := (Classical.choice (⟨⟨4000000000, rfl⟩⟩ : Nonempty {n : Nat // n = 4000000000})).1
theorem FU_v : FU = 4000000000 := (Classical.choice (⟨⟨4000000000, rfl⟩⟩ : Nonempty {n : Nat // n = 4000000000})).2
theorem tsw_0_2 {x : Int32} (t0 : ¬ x = 0) (t1 : ¬ x = 1) (t2 : ¬ x = 2) : x.toInt < 0 ∨ 2 < x.toInt := by
  have a0 : ¬ x.toInt = 0 := fun q => t0 (Int32.toInt_inj.mp (q.trans (by decide)))
  have a1 : ¬ x.toInt = 1 := fun q => t1 (Int32.toInt_inj.mp (q.trans (by decide)))
  have a2 : ¬ x.toInt = 2 := fun q => t2 (Int32.toInt_inj.mp (q.trans (by decide)))
  omega
theorem tsw_0_3 {x : Int32} (t0 : ¬ x = 0) (t1 : ¬ x = 1) (t2 : ¬ x = 2) (t3 : ¬ x = 3) : x.toInt < 0 ∨ 3 < x.toInt := by
  have a0 : ¬ x.toInt = 0 := fun q => t0 (Int32.toInt_inj.mp (q.trans (by decide)))
  have a1 : ¬ x.toInt = 1 := fun q => t1 (Int32.toInt_inj.mp (q.trans (by decide)))
  have a2 : ¬ x.toInt = 2 := fun q => t2 (Int32.toInt_inj.mp (q.trans (by decide)))
  have a3 : ¬ x.toInt = 3 := fun q => t3 (Int32.toInt_inj.mp (q.trans (by decide)))
  omega
theorem tsw_0_4 {x : Int32} (t0 : ¬ x = 0) (t1 : ¬ x = 1) (t2 : ¬ x = 2) (t3 : ¬ x = 3) (t4 : ¬ x = 4) : x.toInt < 0 ∨ 4 < x.toInt := by
  have a0 : ¬ x.toInt = 0 := fun q => t0 (Int32.toInt_inj.mp (q.trans (by decide)))
  have a1 : ¬ x.toInt = 1 := fun q => t1 (Int32.toInt_inj.mp (q.trans (by decide)))
  have a2 : ¬ x.toInt = 2 := fun q => t2 (Int32.toInt_inj.mp (q.trans (by decide)))
  have a3 : ¬ x.toInt = 3 := fun q => t3 (Int32.toInt_inj.mp (q.trans (by decide)))
  have a4 : ¬ x.toInt = 4 := fun q => t4 (Int32.toInt_inj.mp (q.trans (by decide)))
  omega
theorem tsw_0_5 {x : Int32} (t0 : ¬ x = 0) (t1 : ¬ x = 1) (t2 : ¬ x = 2) (t3 : ¬ x = 3) (t4 : ¬ x = 4) (t5 : ¬ x = 5) : x.toInt < 0 ∨ 5 < x.toInt := by
  have a0 : ¬ x.toInt = 0 := fun q => t0 (Int32.toInt_inj.mp (q.trans (by decide)))
  have a1 : ¬ x.toInt = 1 := fun q => t1 (Int32.toInt_inj.mp (q.trans (by decide)))
  have a2 : ¬ x.toInt = 2 := fun q => t2 (Int32.toInt_inj.mp (q.trans (by decide)))
  have a3 : ¬ x.toInt = 3 := fun q => t3 (Int32.toInt_inj.mp (q.trans (by decide)))
  have a4 : ¬ x.toInt = 4 := fun q => t4 (Int32.toInt_inj.mp (q.trans (by decide)))
  have a5 : ¬ x.toInt = 5 := fun q => t5 (Int32.toInt_inj.mp (q.trans (by decide)))
  omega
theorem tsw_0_20 {x : Int32} (t0 : ¬ x = 0) (t1 : ¬ x = 1) (t2 : ¬ x = 2) (t3 : ¬ x = 3) (t4 : ¬ x = 4) (t5 : ¬ x = 5) (t6 : ¬ x = 6) (t7 : ¬ x = 7) (t8 : ¬ x = 8) (t9 : ¬ x = 9) (t10 : ¬ x = 10) (t11 : ¬ x = 11) (t12 : ¬ x = 12) (t13 : ¬ x = 13) (t14 : ¬ x = 14) (t15 : ¬ x = 15) (t16 : ¬ x = 16) (t17 : ¬ x = 17) (t18 : ¬ x = 18) (t19 : ¬ x = 19) (t20 : ¬ x = 20) : x.toInt < 0 ∨ 20 < x.toInt := by
  have a0 : ¬ x.toInt = 0 := fun q => t0 (Int32.toInt_inj.mp (q.trans (by decide)))
  have a1 : ¬ x.toInt = 1 := fun q => t1 (Int32.toInt_inj.mp (q.trans (by decide)))
  have a2 : ¬ x.toInt = 2 := fun q => t2 (Int32.toInt_inj.mp (q.trans (by decide)))
  have a3 : ¬ x.toInt = 3 := fun q => t3 (Int32.toInt_inj.mp (q.trans (by decide)))
  have a4 : ¬ x.toInt = 4 := fun q => t4 (Int32.toInt_inj.mp (q.trans (by decide)))
  have a5 : ¬ x.toInt = 5 := fun q => t5 (Int32.toInt_inj.mp (q.trans (by decide)))
  have a6 : ¬ x.toInt = 6 := fun q => t6 (Int32.toInt_inj.mp (q.trans (by decide)))
  have a7 : ¬ x.toInt = 7 := fun q => t7 (Int32.toInt_inj.mp (q.trans (by decide)))
  have a8 : ¬ x.toInt = 8 := fun q => t8 (Int32.toInt_inj.mp (q.trans (by decide)))
  have a9 : ¬ x.toInt = 9 := fun q => t9 (Int32.toInt_inj.mp (q.trans (by decide)))
  have a10 : ¬ x.toInt = 10 := fun q => t10 (Int32.toInt_inj.mp (q.trans (by decide)))
  have a11 : ¬ x.toInt = 11 := fun q => t11 (Int32.toInt_inj.mp (q.trans (by decide)))
  have a12 : ¬ x.toInt = 12 := fun q => t12 (Int32.toInt_inj.mp (q.trans (by decide)))
  have a13 : ¬ x.toInt = 13 := fun q => t13 (Int32.toInt_inj.mp (q.trans (by decide)))
  have a14 : ¬ x.toInt = 14 := fun q => t14 (Int32.toInt_inj.mp (q.trans (by decide)))
  have a15 : ¬ x.toInt = 15 := fun q => t15 (Int32.toInt_inj.mp (q.trans (by decide)))
  have a16 : ¬ x.toInt = 16 := fun q => t16 (Int32.toInt_inj.mp (q.trans (by decide)))
  have a17 : ¬ x.toInt = 17 := fun q => t17 (Int32.toInt_inj.mp (q.trans (by decide)))
  have a18 : ¬ x.toInt = 18 := fun q => t18 (Int32.toInt_inj.mp (q.trans (by decide)))
  have a19 : ¬ x.toInt = 19 := fun q => t19 (Int32.toInt_inj.mp (q.trans (by decide)))
  have a20 : ¬ x.toInt = 20 := fun q => t20 (Int32.toInt_inj.mp (q.trans (by decide)))
  omega
noncomputable def f_X0_valueOf (x0 : Int32) (x1 : Int32) (S : St) : Option (Int32 × St) := (some (((x0 >>> (((20 : Int32) - ((4 : Int32) * x1)) &&& 31)) &&& (15 : Int32)), S))
set_option maxRecDepth 100000 in
set_option maxHeartbeats 4000000 in
theorem w_X0_valueOf (X : Cx) (x0 : Int32) (x1 : Int32) (S : St) : KJ X (cX0_valueOf, RX0, 2, 1, (some .int)) wlC jI 0 [some (.int x0), some (.int x1)] [] S (f_X0_valueOf x0 x1 S) := by
  unfold f_X0_valueOf
  refine k_iload_n dX0_valueOf_0 rfl ?_
  refine k_bipush dX0_valueOf_1 cb_20 ?_
  refine k_iconst dX0_valueOf_3 ci_4 ?_
  refine k_iload_n dX0_valueOf_4 rfl ?_
  refine k_imul dX0_valueOf_5 ?_
  refine k_isub dX0_valueOf_6 ?_
  refine k_ishr dX0_valueOf_7 ?_
  refine k_bipush dX0_valueOf_8 cb_15 ?_
  refine k_iand dX0_valueOf_10 ?_
  refine k_to (pc' := 11) rfl ?_
  exact k_iret dX0_valueOf_11
theorem m_X0_valueOf {l : Launch} {D : va_G} {d : Dt} (x0 : Int32) (x1 : Int32) (S : St) : ∀ (r : Int32) (S' : St), f_X0_valueOf x0 x1 S = some (r, S') → Mt l D d wlC yX0_valueOf cX0_valueOf 2 (some .int) 1 [.int x0, .int x1] S (jI r) S' := Mt_of wadC (by decide) (Nat.le_of_ble_eq_true rfl) (fun X hL hd => by subst hd; exact w_X0_valueOf X x0 x1 S)
noncomputable def f_X0_with (x0 : Int32) (x1 : Int32) (x2 : Int32) (S : St) : Option (Int32 × St) := (nxt ((20 : Int32) - ((4 : Int32) * x1)) fun y1 => (some (((x0 &&& (((15 : Int32) <<< (y1 &&& 31)) ^^^ (-1 : Int32))) ||| (x2 <<< (y1 &&& 31))), S)))
set_option maxRecDepth 100000 in
set_option maxHeartbeats 4000000 in
theorem w_X0_with (X : Cx) (x0 : Int32) (x1 : Int32) (x2 : Int32) (S : St) : KJ X (cX0_with, RX0, 4, 1, (some .int)) wlC jI 0 [some (.int x0), some (.int x1), some (.int x2), none] [] S (f_X0_with x0 x1 x2 S) := by
  unfold f_X0_with
  refine k_bipush dX0_with_0 cb_20 ?_
  refine k_iconst dX0_with_2 ci_4 ?_
  refine k_iload_n dX0_with_3 rfl ?_
  refine k_imul dX0_with_4 ?_
  refine k_isub dX0_with_5 ?_
  refine k_ist_n3 dX0_with_6 (by decide) rfl ?_
  refine k_nxt ?_
  refine k_iload_n dX0_with_7 rfl ?_
  refine k_bipush dX0_with_8 cb_15 ?_
  refine k_iload_n dX0_with_10 rfl ?_
  refine k_to (pc' := 11) rfl ?_
  refine k_ishl dX0_with_11 ?_
  refine k_iconst dX0_with_12 ci_m1 ?_
  refine k_ixor dX0_with_13 ?_
  refine k_iand dX0_with_14 ?_
  refine k_iload_n dX0_with_15 rfl ?_
  refine k_iload_n dX0_with_16 rfl ?_
  refine k_ishl dX0_with_17 ?_
  refine k_ior dX0_with_18 ?_
  exact k_iret dX0_with_19
theorem m_X0_with {l : Launch} {D : va_G} {d : Dt} (x0 : Int32) (x1 : Int32) (x2 : Int32) (S : St) : ∀ (r : Int32) (S' : St), f_X0_with x0 x1 x2 S = some (r, S') → Mt l D d wlC yX0_with cX0_with 4 (some .int) 1 [.int x0, .int x1, .int x2] S (jI r) S' := Mt_of wadC (by decide) (Nat.le_of_ble_eq_true rfl) (fun X hL hd => by subst hd; exact w_X0_with X x0 x1 x2 S)
noncomputable def lp_X0_maskOf_4 (x0 : Int32) : Nat → Int32 → Int32 → St → Option (Int32 × St)
  | 0, _, _, _ => none
  | n + 1, x1, x2, S => (if (6 : Int32) ≤ x2 then (some (x1, S)) else (if (x0 &&& ((1 : Int32) <<< (x2 &&& 31))) = 0 then (lp_X0_maskOf_4 x0 n x1 (x2 + (1 : Int32)) S) else (nxt (x1 ||| ((15 : Int32) <<< (((20 : Int32) - ((4 : Int32) * x2)) &&& 31))) fun y1 => (lp_X0_maskOf_4 x0 n y1 (x2 + (1 : Int32)) S))))
set_option maxRecDepth 100000 in
set_option maxHeartbeats 4000000 in
theorem wlp_X0_maskOf_4 (X : Cx) (x0 : Int32) : ∀ (n : Nat) (x1 : Int32) (x2 : Int32) (S : St), KJ X (cX0_maskOf, RX0, 3, 1, (some .int)) wlC jI 4 [some (.int x0), some (.int x1), some (.int x2)] [] S (lp_X0_maskOf_4 x0 n x1 x2 S) := by
  intro n
  induction n with
  | zero => intro x1 x2 S; rw [lp_X0_maskOf_4]; exact k_none
  | succ n ih =>
    intro x1 x2 S
    rw [lp_X0_maskOf_4]
    refine k_iload_n dX0_maskOf_4 rfl ?_
    refine k_bipush dX0_maskOf_5 cb_6 ?_
    refine k_icmp_ge (tgt := 36) dX0_maskOf_7 (by decide) (fun _ => ?_) (fun _ => ?_)
    · refine k_iload_n dX0_maskOf_36 rfl ?_
      exact k_iret dX0_maskOf_37
    · refine k_to (pc' := 10) rfl ?_
      refine k_iload_n dX0_maskOf_10 rfl ?_
      refine k_iconst dX0_maskOf_11 ci_1 ?_
      refine k_iload_n dX0_maskOf_12 rfl ?_
      refine k_ishl dX0_maskOf_13 ?_
      refine k_iand dX0_maskOf_14 ?_
      refine k_if_eq (tgt := 30) dX0_maskOf_15 (by decide) (fun _ => ?_) (fun _ => ?_)
      · refine k_inc2 dX0_maskOf_30 ci_1 (by decide) rfl ?_
        refine k_goto (tgt := 4) dX0_maskOf_33 (by decide) ?_
        refine k_to (pc' := 4) rfl ?_
        exact k_weak (ih _ _ _) (And.intro rfl (And.intro rfl (And.intro rfl True.intro)))
      · refine k_to (pc' := 18) rfl ?_
        refine k_iload_n dX0_maskOf_18 rfl ?_
        refine k_bipush dX0_maskOf_19 cb_15 ?_
        refine k_bipush dX0_maskOf_21 cb_20 ?_
        refine k_iconst dX0_maskOf_23 ci_4 ?_
        refine k_iload_n dX0_maskOf_24 rfl ?_
        refine k_imul dX0_maskOf_25 ?_
        refine k_isub dX0_maskOf_26 ?_
        refine k_ishl dX0_maskOf_27 ?_
        refine k_ior dX0_maskOf_28 ?_
        refine k_to (pc' := 29) rfl ?_
        refine k_ist_n1 dX0_maskOf_29 (by decide) rfl ?_
        refine k_nxt ?_
        refine k_inc2 dX0_maskOf_30 ci_1 (by decide) rfl ?_
        refine k_goto (tgt := 4) dX0_maskOf_33 (by decide) ?_
        refine k_to (pc' := 4) rfl ?_
        exact k_weak (ih _ _ _) (And.intro rfl (And.intro rfl (And.intro rfl True.intro)))
noncomputable def f_X0_maskOf (x0 : Int32) (S : St) : Option (Int32 × St) := (lp_X0_maskOf_4 x0 FU (0 : Int32) (0 : Int32) S)
set_option maxRecDepth 100000 in
set_option maxHeartbeats 4000000 in
theorem w_X0_maskOf (X : Cx) (x0 : Int32) (S : St) : KJ X (cX0_maskOf, RX0, 3, 1, (some .int)) wlC jI 0 [some (.int x0), none, none] [] S (f_X0_maskOf x0 S) := by
  unfold f_X0_maskOf
  refine k_iconst dX0_maskOf_0 ci_0 ?_
  refine k_ist_n1 dX0_maskOf_1 (by decide) rfl ?_
  refine k_iconst dX0_maskOf_2 ci_0 ?_
  refine k_ist_n2 dX0_maskOf_3 (by decide) rfl ?_
  refine k_to (pc' := 4) rfl ?_
  exact k_weak (wlp_X0_maskOf_4 X _ FU _ _ _) (And.intro rfl (And.intro rfl (And.intro rfl True.intro)))
theorem m_X0_maskOf {l : Launch} {D : va_G} {d : Dt} (x0 : Int32) (S : St) : ∀ (r : Int32) (S' : St), f_X0_maskOf x0 S = some (r, S') → Mt l D d wlC yX0_maskOf cX0_maskOf 3 (some .int) 1 [.int x0] S (jI r) S' := Mt_of wadC (by decide) (Nat.le_of_ble_eq_true rfl) (fun X hL hd => by subst hd; exact w_X0_maskOf X x0 S)
noncomputable def lp_X0_decimal_4 (x0 : Int32) : Nat → Int32 → Int32 → St → Option (Int32 × St)
  | 0, _, _, _ => none
  | n + 1, x1, x2, S => (if (6 : Int32) ≤ x2 then (some (x1, S)) else (bnd (f_X0_valueOf x0 x2 S) fun r1 S2 => (nxt ((x1 * (10 : Int32)) + r1) fun y3 => (lp_X0_decimal_4 x0 n y3 (x2 + (1 : Int32)) S2))))
set_option maxRecDepth 100000 in
set_option maxHeartbeats 4000000 in
theorem wlp_X0_decimal_4 (X : Cx) (x0 : Int32) : ∀ (n : Nat) (x1 : Int32) (x2 : Int32) (S : St), KJ X (cX0_decimal, RX0, 3, 2, (some .int)) wlC jI 4 [some (.int x0), some (.int x1), some (.int x2)] [] S (lp_X0_decimal_4 x0 n x1 x2 S) := by
  intro n
  induction n with
  | zero => intro x1 x2 S; rw [lp_X0_decimal_4]; exact k_none
  | succ n ih =>
    intro x1 x2 S
    rw [lp_X0_decimal_4]
    refine k_iload_n dX0_decimal_4 rfl ?_
    refine k_bipush dX0_decimal_5 cb_6 ?_
    refine k_icmp_ge (tgt := 27) dX0_decimal_7 (by decide) (fun _ => ?_) (fun _ => ?_)
    · refine k_iload_n dX0_decimal_27 rfl ?_
      exact k_iret dX0_decimal_28
    · refine k_to (pc' := 10) rfl ?_
      refine k_iload_n dX0_decimal_10 rfl ?_
      refine k_bipush dX0_decimal_11 cb_10 ?_
      refine k_imul dX0_decimal_13 ?_
      refine k_iload_n dX0_decimal_14 rfl ?_
      refine k_iload_n dX0_decimal_15 rfl ?_
      refine k_cs2i wadC lkX0_11 (m_X0_valueOf _ _ _) (by decide) (Nat.le_of_ble_eq_true rfl) dX0_decimal_16 (fun r1 S2 => ?_)
      refine k_iadd dX0_decimal_19 ?_
      refine k_ist_n1 dX0_decimal_20 (by decide) rfl ?_
      refine k_nxt ?_
      refine k_inc2 dX0_decimal_21 ci_1 (by decide) rfl ?_
      refine k_to (pc' := 24) rfl ?_
      refine k_goto (tgt := 4) dX0_decimal_24 (by decide) ?_
      refine k_to (pc' := 4) rfl ?_
      exact k_weak (ih _ _ _) (And.intro rfl (And.intro rfl (And.intro rfl True.intro)))
noncomputable def f_X0_decimal (x0 : Int32) (S : St) : Option (Int32 × St) := (lp_X0_decimal_4 x0 FU (0 : Int32) (0 : Int32) S)
set_option maxRecDepth 100000 in
set_option maxHeartbeats 4000000 in
theorem w_X0_decimal (X : Cx) (x0 : Int32) (S : St) : KJ X (cX0_decimal, RX0, 3, 2, (some .int)) wlC jI 0 [some (.int x0), none, none] [] S (f_X0_decimal x0 S) := by
  unfold f_X0_decimal
  refine k_iconst dX0_decimal_0 ci_0 ?_
  refine k_ist_n1 dX0_decimal_1 (by decide) rfl ?_
  refine k_iconst dX0_decimal_2 ci_0 ?_
  refine k_ist_n2 dX0_decimal_3 (by decide) rfl ?_
  refine k_to (pc' := 4) rfl ?_
  exact k_weak (wlp_X0_decimal_4 X _ FU _ _ _) (And.intro rfl (And.intro rfl (And.intro rfl True.intro)))
theorem m_X0_decimal {l : Launch} {D : va_G} {d : Dt} (x0 : Int32) (S : St) : ∀ (r : Int32) (S' : St), f_X0_decimal x0 S = some (r, S') → Mt l D d wlC yX0_decimal cX0_decimal 3 (some .int) 2 [.int x0] S (jI r) S' := Mt_of wadC (by decide) (Nat.le_of_ble_eq_true rfl) (fun X hL hd => by subst hd; exact w_X0_decimal X x0 S)
noncomputable def f_X2_liveAt (x1 : Int32) (S : St) : Option (Int32 × St) := (if x1 < 0 then (some ((0 : Int32), S)) else (if (31 : Int32) ≤ x1 then (some ((0 : Int32), S)) else (chk (inB x1 31) (some ((gA S 10 (x1).toNatClampNeg), S)))))
set_option maxRecDepth 100000 in
set_option maxHeartbeats 4000000 in
theorem w_X2_liveAt (X : Cx) (x1 : Int32) (S : St) : KJ X (cX2_liveAt, RX2, 2, 1, (some .int)) wlC jI 0 [some (.ref (xa X 1)), some (.int x1)] [] S (f_X2_liveAt x1 S) := by
  unfold f_X2_liveAt
  refine k_iload_n dX2_liveAt_0 rfl ?_
  refine k_if_lt (tgt := 19) dX2_liveAt_1 (by decide) (fun _ => ?_) (fun _ => ?_)
  · refine k_iconst dX2_liveAt_19 ci_0 ?_
    exact k_iret dX2_liveAt_20
  · refine k_to (pc' := 4) rfl ?_
    refine k_iload_n dX2_liveAt_4 rfl ?_
    refine k_bipush dX2_liveAt_5 cb_31 ?_
    refine k_icmp_ge (tgt := 19) dX2_liveAt_7 (by decide) (fun _ => ?_) (fun _ => ?_)
    · refine k_iconst dX2_liveAt_19 ci_0 ?_
      exact k_iret dX2_liveAt_20
    · refine k_to (pc' := 10) rfl ?_
      refine k_aload_n dX2_liveAt_10 rfl ?_
      refine k_getR gX2_32 dX2_liveAt_11 ?_
      refine k_iload_n dX2_liveAt_14 rfl ?_
      refine k_iald aC_10 dX2_liveAt_15 ?_
      refine k_goto (tgt := 20) dX2_liveAt_16 (by decide) ?_
      exact k_iret dX2_liveAt_20
theorem m_X2_liveAt {l : Launch} {D : va_G} {d : Dt} (x1 : Int32) (S : St) : ∀ (r : Int32) (S' : St), f_X2_liveAt x1 S = some (r, S') → Mt l D d wlC yX2_liveAt cX2_liveAt 2 (some .int) 1 [.ref (d.1 1), .int x1] S (jI r) S' := Mt_of wadC (by decide) (Nat.le_of_ble_eq_true rfl) (fun X hL hd => by subst hd; exact w_X2_liveAt X x1 S)
noncomputable def f_X2_isStep (x1 : Int32) (S : St) : Option (Int32 × St) := (if x1 < 0 then (some ((0 : Int32), S)) else (if (gI S 208) ≤ x1 then (some ((0 : Int32), S)) else (if (30 : Int32) ≤ x1 then (some ((0 : Int32), S)) else (some ((1 : Int32), S)))))
set_option maxRecDepth 100000 in
set_option maxHeartbeats 4000000 in
theorem w_X2_isStep (X : Cx) (x1 : Int32) (S : St) : KJ X (cX2_isStep, RX2, 2, 1, (some .boolean)) wlC jI 0 [some (.ref (xa X 1)), some (.int x1)] [] S (f_X2_isStep x1 S) := by
  unfold f_X2_isStep
  refine k_iload_n dX2_isStep_0 rfl ?_
  refine k_if_lt (tgt := 22) dX2_isStep_1 (by decide) (fun _ => ?_) (fun _ => ?_)
  · refine k_iconst dX2_isStep_22 ci_0 ?_
    exact k_zret (Or.inl rfl) dX2_isStep_23
  · refine k_to (pc' := 4) rfl ?_
    refine k_iload_n dX2_isStep_4 rfl ?_
    refine k_aload_n dX2_isStep_5 rfl ?_
    refine k_getI gX2_38 dX2_isStep_6 ?_
    refine k_icmp_ge (tgt := 22) dX2_isStep_9 (by decide) (fun _ => ?_) (fun _ => ?_)
    · refine k_iconst dX2_isStep_22 ci_0 ?_
      exact k_zret (Or.inl rfl) dX2_isStep_23
    · refine k_to (pc' := 12) rfl ?_
      refine k_iload_n dX2_isStep_12 rfl ?_
      refine k_bipush dX2_isStep_13 cb_30 ?_
      refine k_icmp_ge (tgt := 22) dX2_isStep_15 (by decide) (fun _ => ?_) (fun _ => ?_)
      · refine k_iconst dX2_isStep_22 ci_0 ?_
        exact k_zret (Or.inl rfl) dX2_isStep_23
      · refine k_to (pc' := 18) rfl ?_
        refine k_iconst dX2_isStep_18 ci_1 ?_
        refine k_goto (tgt := 23) dX2_isStep_19 (by decide) ?_
        exact k_zret (Or.inr rfl) dX2_isStep_23
theorem m_X2_isStep {l : Launch} {D : va_G} {d : Dt} (x1 : Int32) (S : St) : ∀ (r : Int32) (S' : St), f_X2_isStep x1 S = some (r, S') → Mt l D d wlC yX2_isStep cX2_isStep 2 (some .boolean) 1 [.ref (d.1 1), .int x1] S (jI r) S' := Mt_of wadC (by decide) (Nat.le_of_ble_eq_true rfl) (fun X hL hd => by subst hd; exact w_X2_isStep X x1 S)
noncomputable def f_X2_placeSkippedTo (x1 : Int32) (S : St) : Option (Int32 × St) := (chk (inB x1 30) (some ((if (gI S 208) < ((x1 + (1 : Int32)) + (gA S 6 (x1).toNatClampNeg)) then (gI S 208) else ((x1 + (1 : Int32)) + (gA S 6 (x1).toNatClampNeg))), S)))
set_option maxRecDepth 100000 in
set_option maxHeartbeats 4000000 in
theorem w_X2_placeSkippedTo (X : Cx) (x1 : Int32) (S : St) : KJ X (cX2_placeSkippedTo, RX2, 2, 1, (some .int)) wlC jI 0 [some (.ref (xa X 1)), some (.int x1)] [] S (f_X2_placeSkippedTo x1 S) := by
  unfold f_X2_placeSkippedTo
  refine k_iload_n dX2_placeSkippedTo_0 rfl ?_
  refine k_iconst dX2_placeSkippedTo_1 ci_1 ?_
  refine k_iadd dX2_placeSkippedTo_2 ?_
  refine k_aload_n dX2_placeSkippedTo_3 rfl ?_
  refine k_getR gX2_18 dX2_placeSkippedTo_4 ?_
  refine k_iload_n dX2_placeSkippedTo_7 rfl ?_
  refine k_iald aC_6 dX2_placeSkippedTo_8 ?_
  refine k_iadd dX2_placeSkippedTo_9 ?_
  refine k_aload_n dX2_placeSkippedTo_10 rfl ?_
  refine k_to (pc' := 11) rfl ?_
  refine k_getI gX2_38 dX2_placeSkippedTo_11 ?_
  refine k_mmin lmX2_99 lm_min_s lm_math lm_min_c (by decide) (Nat.le_of_ble_eq_true rfl) dX2_placeSkippedTo_14 ?_
  exact k_iret dX2_placeSkippedTo_17
theorem m_X2_placeSkippedTo {l : Launch} {D : va_G} {d : Dt} (x1 : Int32) (S : St) : ∀ (r : Int32) (S' : St), f_X2_placeSkippedTo x1 S = some (r, S') → Mt l D d wlC yX2_placeSkippedTo cX2_placeSkippedTo 2 (some .int) 1 [.ref (d.1 1), .int x1] S (jI r) S' := Mt_of wadC (by decide) (Nat.le_of_ble_eq_true rfl) (fun X hL hd => by subst hd; exact w_X2_placeSkippedTo X x1 S)
noncomputable def f_X4_isVariable (x0 : Int32) (S : St) : Option (Int32 × St) := (if x0 < 0 then (some ((0 : Int32), S)) else (if (6 : Int32) ≤ x0 then (some ((0 : Int32), S)) else (some ((1 : Int32), S))))
set_option maxRecDepth 100000 in
set_option maxHeartbeats 4000000 in
theorem w_X4_isVariable (X : Cx) (x0 : Int32) (S : St) : KJ X (cX4_isVariable, RX4, 1, 1, (some .boolean)) wlC jI 0 [some (.int x0)] [] S (f_X4_isVariable x0 S) := by
  unfold f_X4_isVariable
  refine k_iload_n dX4_isVariable_0 rfl ?_
  refine k_if_lt (tgt := 14) dX4_isVariable_1 (by decide) (fun _ => ?_) (fun _ => ?_)
  · refine k_iconst dX4_isVariable_14 ci_0 ?_
    exact k_zret (Or.inl rfl) dX4_isVariable_15
  · refine k_to (pc' := 4) rfl ?_
    refine k_iload_n dX4_isVariable_4 rfl ?_
    refine k_bipush dX4_isVariable_5 cb_6 ?_
    refine k_icmp_ge (tgt := 14) dX4_isVariable_7 (by decide) (fun _ => ?_) (fun _ => ?_)
    · refine k_iconst dX4_isVariable_14 ci_0 ?_
      exact k_zret (Or.inl rfl) dX4_isVariable_15
    · refine k_to (pc' := 10) rfl ?_
      refine k_iconst dX4_isVariable_10 ci_1 ?_
      refine k_goto (tgt := 15) dX4_isVariable_11 (by decide) ?_
      exact k_zret (Or.inr rfl) dX4_isVariable_15
theorem m_X4_isVariable {l : Launch} {D : va_G} {d : Dt} (x0 : Int32) (S : St) : ∀ (r : Int32) (S' : St), f_X4_isVariable x0 S = some (r, S') → Mt l D d wlC yX4_isVariable cX4_isVariable 1 (some .boolean) 1 [.int x0] S (jI r) S' := Mt_of wadC (by decide) (Nat.le_of_ble_eq_true rfl) (fun X hL hd => by subst hd; exact w_X4_isVariable X x0 S)
noncomputable def f_X2_variableOf (x0 : Int32) (S : St) : Option (Int32 × St) := (bnd (f_X4_isVariable x0 S) fun r1 S2 => (if r1 = 0 then (some ((0 : Int32), S2)) else (some (((1 : Int32) <<< (x0 &&& 31)), S2))))
set_option maxRecDepth 100000 in
set_option maxHeartbeats 4000000 in
theorem w_X2_variableOf (X : Cx) (x0 : Int32) (S : St) : KJ X (cX2_variableOf, RX2, 1, 2, (some .int)) wlC jI 0 [some (.int x0)] [] S (f_X2_variableOf x0 S) := by
  unfold f_X2_variableOf
  refine k_iload_n dX2_variableOf_0 rfl ?_
  refine k_cs1i wadC lkX2_91 (m_X4_isVariable _ _) (by decide) (Nat.le_of_ble_eq_true rfl) dX2_variableOf_1 (fun r1 S2 => ?_)
  refine k_if_eq (tgt := 13) dX2_variableOf_4 (by decide) (fun _ => ?_) (fun _ => ?_)
  · refine k_iconst dX2_variableOf_13 ci_0 ?_
    exact k_iret dX2_variableOf_14
  · refine k_to (pc' := 7) rfl ?_
    refine k_iconst dX2_variableOf_7 ci_1 ?_
    refine k_iload_n dX2_variableOf_8 rfl ?_
    refine k_ishl dX2_variableOf_9 ?_
    refine k_goto (tgt := 14) dX2_variableOf_10 (by decide) ?_
    exact k_iret dX2_variableOf_14
theorem m_X2_variableOf {l : Launch} {D : va_G} {d : Dt} (x0 : Int32) (S : St) : ∀ (r : Int32) (S' : St), f_X2_variableOf x0 S = some (r, S') → Mt l D d wlC yX2_variableOf cX2_variableOf 1 (some .int) 2 [.int x0] S (jI r) S' := Mt_of wadC (by decide) (Nat.le_of_ble_eq_true rfl) (fun X hL hd => by subst hd; exact w_X2_variableOf X x0 S)
noncomputable def f_X2_liveAtStep (x1 : Int32) (S : St) : Option (Int32 × St) := (bnd (f_X2_liveAt (x1 + (1 : Int32)) S) fun r1 S2 => (chk (inB x1 30) (nxt (gA S2 4 (x1).toNatClampNeg) fun y3 => (chk (inB x1 30) (nxt ((1 : Int32) <<< ((gA S2 5 (x1).toNatClampNeg) &&& 31)) fun y4 => (if y3 = (4 : Int32) then (bnd (f_X2_placeSkippedTo x1 S2) fun r38 S39 => (bnd (f_X2_liveAt r38 S39) fun r40 S41 => (nxt (r1 ||| r40) fun y42 => (chk (inB x1 30) (bnd (f_X2_variableOf (gA S41 7 (x1).toNatClampNeg) S41) fun r43 S44 => (chk (inB x1 30) (bnd (f_X2_variableOf (gA S44 8 (x1).toNatClampNeg) S44) fun r45 S46 => (some (((y42 ||| r43) ||| r45), S46))))))))) else (if y3 = (1 : Int32) then (chk (inB x1 30) (if (gA S2 6 (x1).toNatClampNeg) = (6 : Int32) then (nxt (r1 ||| y4) fun y33 => (chk (inB x1 30) (bnd (f_X2_variableOf (gA S2 7 (x1).toNatClampNeg) S2) fun r34 S35 => (chk (inB x1 30) (bnd (f_X2_variableOf (gA S35 8 (x1).toNatClampNeg) S35) fun r36 S37 => (some (((y33 ||| r34) ||| r36), S37))))))) else (if y3 = (1 : Int32) then (nxt (r1 &&& (y4 ^^^ (-1 : Int32))) fun y19 => (chk (inB x1 30) (bnd (f_X2_variableOf (gA S2 7 (x1).toNatClampNeg) S2) fun r20 S21 => (chk (inB x1 30) (bnd (f_X2_variableOf (gA S21 8 (x1).toNatClampNeg) S21) fun r22 S23 => (some (((y19 ||| r20) ||| r22), S23))))))) else (if y3 = 0 then (nxt (r1 &&& (y4 ^^^ (-1 : Int32))) fun y28 => (chk (inB x1 30) (bnd (f_X2_variableOf (gA S2 7 (x1).toNatClampNeg) S2) fun r29 S30 => (chk (inB x1 30) (bnd (f_X2_variableOf (gA S30 8 (x1).toNatClampNeg) S30) fun r31 S32 => (some (((y28 ||| r29) ||| r31), S32))))))) else (chk (inB x1 30) (bnd (f_X2_variableOf (gA S2 7 (x1).toNatClampNeg) S2) fun r24 S25 => (chk (inB x1 30) (bnd (f_X2_variableOf (gA S25 8 (x1).toNatClampNeg) S25) fun r26 S27 => (some (((r1 ||| r24) ||| r26), S27)))))))))) else (if y3 = (1 : Int32) then (nxt (r1 &&& (y4 ^^^ (-1 : Int32))) fun y5 => (chk (inB x1 30) (bnd (f_X2_variableOf (gA S2 7 (x1).toNatClampNeg) S2) fun r6 S7 => (chk (inB x1 30) (bnd (f_X2_variableOf (gA S7 8 (x1).toNatClampNeg) S7) fun r8 S9 => (some (((y5 ||| r6) ||| r8), S9))))))) else (if y3 = 0 then (nxt (r1 &&& (y4 ^^^ (-1 : Int32))) fun y14 => (chk (inB x1 30) (bnd (f_X2_variableOf (gA S2 7 (x1).toNatClampNeg) S2) fun r15 S16 => (chk (inB x1 30) (bnd (f_X2_variableOf (gA S16 8 (x1).toNatClampNeg) S16) fun r17 S18 => (some (((y14 ||| r15) ||| r17), S18))))))) else (chk (inB x1 30) (bnd (f_X2_variableOf (gA S2 7 (x1).toNatClampNeg) S2) fun r10 S11 => (chk (inB x1 30) (bnd (f_X2_variableOf (gA S11 8 (x1).toNatClampNeg) S11) fun r12 S13 => (some (((r1 ||| r10) ||| r12), S13)))))))))))))))
set_option maxRecDepth 100000 in
set_option maxHeartbeats 4000000 in
theorem w_X2_liveAtStep (X : Cx) (x1 : Int32) (S : St) : KJ X (cX2_liveAtStep, RX2, 5, 3, (some .int)) wlC jI 0 [some (.ref (xa X 1)), some (.int x1), none, none, none] [] S (f_X2_liveAtStep x1 S) := by
  unfold f_X2_liveAtStep
  refine k_aload_n dX2_liveAtStep_0 rfl ?_
  refine k_iload_n dX2_liveAtStep_1 rfl ?_
  refine k_iconst dX2_liveAtStep_2 ci_1 ?_
  refine k_iadd dX2_liveAtStep_3 ?_
  refine k_cv1i wadC lkX2_82 obX2 (m_X2_liveAt _ _) (by decide) (Nat.le_of_ble_eq_true rfl) dX2_liveAtStep_4 (fun r1 S2 => ?_)
  refine k_ist_n2 dX2_liveAtStep_7 (by decide) rfl ?_
  refine k_aload_n dX2_liveAtStep_8 rfl ?_
  refine k_getR gX2_9 dX2_liveAtStep_9 ?_
  refine k_iload_n dX2_liveAtStep_12 rfl ?_
  refine k_to (pc' := 13) rfl ?_
  refine k_iald aC_4 dX2_liveAtStep_13 ?_
  refine k_ist_n3 dX2_liveAtStep_14 (by decide) rfl ?_
  refine k_nxt ?_
  refine k_iconst dX2_liveAtStep_15 ci_1 ?_
  refine k_aload_n dX2_liveAtStep_16 rfl ?_
  refine k_getR gX2_15 dX2_liveAtStep_17 ?_
  refine k_iload_n dX2_liveAtStep_20 rfl ?_
  refine k_iald aC_5 dX2_liveAtStep_21 ?_
  refine k_ishl dX2_liveAtStep_22 ?_
  refine k_ist4 dX2_liveAtStep_23 (by decide) rfl ?_
  refine k_nxt ?_
  refine k_iload_n dX2_liveAtStep_25 rfl ?_
  refine k_to (pc' := 26) rfl ?_
  refine k_iconst dX2_liveAtStep_26 ci_4 ?_
  refine k_icmp_ne (tgt := 45) dX2_liveAtStep_27 (by decide) (fun _ => ?_) (fun _ => ?_)
  · refine k_iload_n dX2_liveAtStep_45 rfl ?_
    refine k_iconst dX2_liveAtStep_46 ci_1 ?_
    refine k_icmp_ne (tgt := 69) dX2_liveAtStep_47 (by decide) (fun _ => ?_) (fun _ => ?_)
    · refine k_iload_n dX2_liveAtStep_69 rfl ?_
      refine k_iconst dX2_liveAtStep_70 ci_1 ?_
      refine k_icmp_eq (tgt := 78) dX2_liveAtStep_71 (by decide) (fun _ => ?_) (fun _ => ?_)
      · refine k_iload_n dX2_liveAtStep_78 rfl ?_
        refine k_iload dX2_liveAtStep_79 rfl ?_
        refine k_iconst dX2_liveAtStep_81 ci_m1 ?_
        refine k_ixor dX2_liveAtStep_82 ?_
        refine k_iand dX2_liveAtStep_83 ?_
        refine k_ist_n2 dX2_liveAtStep_84 (by decide) rfl ?_
        refine k_nxt ?_
        refine k_iload_n dX2_liveAtStep_85 rfl ?_
        refine k_aload_n dX2_liveAtStep_86 rfl ?_
        refine k_getR gX2_21 dX2_liveAtStep_87 ?_
        refine k_to (pc' := 90) rfl ?_
        refine k_iload_n dX2_liveAtStep_90 rfl ?_
        refine k_iald aC_7 dX2_liveAtStep_91 ?_
        refine k_cs1i wadC lkX2_88 (m_X2_variableOf _ _) (by decide) (Nat.le_of_ble_eq_true rfl) dX2_liveAtStep_92 (fun r6 S7 => ?_)
        refine k_ior dX2_liveAtStep_95 ?_
        refine k_aload_n dX2_liveAtStep_96 rfl ?_
        refine k_getR gX2_24 dX2_liveAtStep_97 ?_
        refine k_iload_n dX2_liveAtStep_100 rfl ?_
        refine k_iald aC_8 dX2_liveAtStep_101 ?_
        refine k_cs1i wadC lkX2_88 (m_X2_variableOf _ _) (by decide) (Nat.le_of_ble_eq_true rfl) dX2_liveAtStep_102 (fun r8 S9 => ?_)
        refine k_ior dX2_liveAtStep_105 ?_
        refine k_to (pc' := 106) rfl ?_
        exact k_iret dX2_liveAtStep_106
      · refine k_to (pc' := 74) rfl ?_
        refine k_iload_n dX2_liveAtStep_74 rfl ?_
        refine k_if_ne (tgt := 85) dX2_liveAtStep_75 (by decide) (fun _ => ?_) (fun _ => ?_)
        · refine k_iload_n dX2_liveAtStep_85 rfl ?_
          refine k_aload_n dX2_liveAtStep_86 rfl ?_
          refine k_getR gX2_21 dX2_liveAtStep_87 ?_
          refine k_iload_n dX2_liveAtStep_90 rfl ?_
          refine k_iald aC_7 dX2_liveAtStep_91 ?_
          refine k_cs1i wadC lkX2_88 (m_X2_variableOf _ _) (by decide) (Nat.le_of_ble_eq_true rfl) dX2_liveAtStep_92 (fun r10 S11 => ?_)
          refine k_ior dX2_liveAtStep_95 ?_
          refine k_aload_n dX2_liveAtStep_96 rfl ?_
          refine k_getR gX2_24 dX2_liveAtStep_97 ?_
          refine k_to (pc' := 100) rfl ?_
          refine k_iload_n dX2_liveAtStep_100 rfl ?_
          refine k_iald aC_8 dX2_liveAtStep_101 ?_
          refine k_cs1i wadC lkX2_88 (m_X2_variableOf _ _) (by decide) (Nat.le_of_ble_eq_true rfl) dX2_liveAtStep_102 (fun r12 S13 => ?_)
          refine k_ior dX2_liveAtStep_105 ?_
          exact k_iret dX2_liveAtStep_106
        · refine k_to (pc' := 78) rfl ?_
          refine k_iload_n dX2_liveAtStep_78 rfl ?_
          refine k_iload dX2_liveAtStep_79 rfl ?_
          refine k_iconst dX2_liveAtStep_81 ci_m1 ?_
          refine k_ixor dX2_liveAtStep_82 ?_
          refine k_iand dX2_liveAtStep_83 ?_
          refine k_ist_n2 dX2_liveAtStep_84 (by decide) rfl ?_
          refine k_nxt ?_
          refine k_iload_n dX2_liveAtStep_85 rfl ?_
          refine k_aload_n dX2_liveAtStep_86 rfl ?_
          refine k_getR gX2_21 dX2_liveAtStep_87 ?_
          refine k_to (pc' := 90) rfl ?_
          refine k_iload_n dX2_liveAtStep_90 rfl ?_
          refine k_iald aC_7 dX2_liveAtStep_91 ?_
          refine k_cs1i wadC lkX2_88 (m_X2_variableOf _ _) (by decide) (Nat.le_of_ble_eq_true rfl) dX2_liveAtStep_92 (fun r15 S16 => ?_)
          refine k_ior dX2_liveAtStep_95 ?_
          refine k_aload_n dX2_liveAtStep_96 rfl ?_
          refine k_getR gX2_24 dX2_liveAtStep_97 ?_
          refine k_iload_n dX2_liveAtStep_100 rfl ?_
          refine k_iald aC_8 dX2_liveAtStep_101 ?_
          refine k_cs1i wadC lkX2_88 (m_X2_variableOf _ _) (by decide) (Nat.le_of_ble_eq_true rfl) dX2_liveAtStep_102 (fun r17 S18 => ?_)
          refine k_ior dX2_liveAtStep_105 ?_
          refine k_to (pc' := 106) rfl ?_
          exact k_iret dX2_liveAtStep_106
    · refine k_to (pc' := 50) rfl ?_
      refine k_aload_n dX2_liveAtStep_50 rfl ?_
      refine k_getR gX2_18 dX2_liveAtStep_51 ?_
      refine k_iload_n dX2_liveAtStep_54 rfl ?_
      refine k_iald aC_6 dX2_liveAtStep_55 ?_
      refine k_bipush dX2_liveAtStep_56 cb_6 ?_
      refine k_icmp_ne (tgt := 69) dX2_liveAtStep_58 (by decide) (fun _ => ?_) (fun _ => ?_)
      · refine k_iload_n dX2_liveAtStep_69 rfl ?_
        refine k_iconst dX2_liveAtStep_70 ci_1 ?_
        refine k_icmp_eq (tgt := 78) dX2_liveAtStep_71 (by decide) (fun _ => ?_) (fun _ => ?_)
        · refine k_iload_n dX2_liveAtStep_78 rfl ?_
          refine k_iload dX2_liveAtStep_79 rfl ?_
          refine k_iconst dX2_liveAtStep_81 ci_m1 ?_
          refine k_ixor dX2_liveAtStep_82 ?_
          refine k_iand dX2_liveAtStep_83 ?_
          refine k_ist_n2 dX2_liveAtStep_84 (by decide) rfl ?_
          refine k_nxt ?_
          refine k_iload_n dX2_liveAtStep_85 rfl ?_
          refine k_aload_n dX2_liveAtStep_86 rfl ?_
          refine k_getR gX2_21 dX2_liveAtStep_87 ?_
          refine k_to (pc' := 90) rfl ?_
          refine k_iload_n dX2_liveAtStep_90 rfl ?_
          refine k_iald aC_7 dX2_liveAtStep_91 ?_
          refine k_cs1i wadC lkX2_88 (m_X2_variableOf _ _) (by decide) (Nat.le_of_ble_eq_true rfl) dX2_liveAtStep_92 (fun r20 S21 => ?_)
          refine k_ior dX2_liveAtStep_95 ?_
          refine k_aload_n dX2_liveAtStep_96 rfl ?_
          refine k_getR gX2_24 dX2_liveAtStep_97 ?_
          refine k_iload_n dX2_liveAtStep_100 rfl ?_
          refine k_iald aC_8 dX2_liveAtStep_101 ?_
          refine k_cs1i wadC lkX2_88 (m_X2_variableOf _ _) (by decide) (Nat.le_of_ble_eq_true rfl) dX2_liveAtStep_102 (fun r22 S23 => ?_)
          refine k_ior dX2_liveAtStep_105 ?_
          refine k_to (pc' := 106) rfl ?_
          exact k_iret dX2_liveAtStep_106
        · refine k_to (pc' := 74) rfl ?_
          refine k_iload_n dX2_liveAtStep_74 rfl ?_
          refine k_if_ne (tgt := 85) dX2_liveAtStep_75 (by decide) (fun _ => ?_) (fun _ => ?_)
          · refine k_iload_n dX2_liveAtStep_85 rfl ?_
            refine k_aload_n dX2_liveAtStep_86 rfl ?_
            refine k_getR gX2_21 dX2_liveAtStep_87 ?_
            refine k_iload_n dX2_liveAtStep_90 rfl ?_
            refine k_iald aC_7 dX2_liveAtStep_91 ?_
            refine k_cs1i wadC lkX2_88 (m_X2_variableOf _ _) (by decide) (Nat.le_of_ble_eq_true rfl) dX2_liveAtStep_92 (fun r24 S25 => ?_)
            refine k_ior dX2_liveAtStep_95 ?_
            refine k_aload_n dX2_liveAtStep_96 rfl ?_
            refine k_getR gX2_24 dX2_liveAtStep_97 ?_
            refine k_to (pc' := 100) rfl ?_
            refine k_iload_n dX2_liveAtStep_100 rfl ?_
            refine k_iald aC_8 dX2_liveAtStep_101 ?_
            refine k_cs1i wadC lkX2_88 (m_X2_variableOf _ _) (by decide) (Nat.le_of_ble_eq_true rfl) dX2_liveAtStep_102 (fun r26 S27 => ?_)
            refine k_ior dX2_liveAtStep_105 ?_
            exact k_iret dX2_liveAtStep_106
          · refine k_to (pc' := 78) rfl ?_
            refine k_iload_n dX2_liveAtStep_78 rfl ?_
            refine k_iload dX2_liveAtStep_79 rfl ?_
            refine k_iconst dX2_liveAtStep_81 ci_m1 ?_
            refine k_ixor dX2_liveAtStep_82 ?_
            refine k_iand dX2_liveAtStep_83 ?_
            refine k_ist_n2 dX2_liveAtStep_84 (by decide) rfl ?_
            refine k_nxt ?_
            refine k_iload_n dX2_liveAtStep_85 rfl ?_
            refine k_aload_n dX2_liveAtStep_86 rfl ?_
            refine k_getR gX2_21 dX2_liveAtStep_87 ?_
            refine k_to (pc' := 90) rfl ?_
            refine k_iload_n dX2_liveAtStep_90 rfl ?_
            refine k_iald aC_7 dX2_liveAtStep_91 ?_
            refine k_cs1i wadC lkX2_88 (m_X2_variableOf _ _) (by decide) (Nat.le_of_ble_eq_true rfl) dX2_liveAtStep_92 (fun r29 S30 => ?_)
            refine k_ior dX2_liveAtStep_95 ?_
            refine k_aload_n dX2_liveAtStep_96 rfl ?_
            refine k_getR gX2_24 dX2_liveAtStep_97 ?_
            refine k_iload_n dX2_liveAtStep_100 rfl ?_
            refine k_iald aC_8 dX2_liveAtStep_101 ?_
            refine k_cs1i wadC lkX2_88 (m_X2_variableOf _ _) (by decide) (Nat.le_of_ble_eq_true rfl) dX2_liveAtStep_102 (fun r31 S32 => ?_)
            refine k_ior dX2_liveAtStep_105 ?_
            refine k_to (pc' := 106) rfl ?_
            exact k_iret dX2_liveAtStep_106
      · refine k_to (pc' := 61) rfl ?_
        refine k_iload_n dX2_liveAtStep_61 rfl ?_
        refine k_iload dX2_liveAtStep_62 rfl ?_
        refine k_ior dX2_liveAtStep_64 ?_
        refine k_ist_n2 dX2_liveAtStep_65 (by decide) rfl ?_
        refine k_nxt ?_
        refine k_goto (tgt := 85) dX2_liveAtStep_66 (by decide) ?_
        refine k_iload_n dX2_liveAtStep_85 rfl ?_
        refine k_aload_n dX2_liveAtStep_86 rfl ?_
        refine k_getR gX2_21 dX2_liveAtStep_87 ?_
        refine k_iload_n dX2_liveAtStep_90 rfl ?_
        refine k_to (pc' := 91) rfl ?_
        refine k_iald aC_7 dX2_liveAtStep_91 ?_
        refine k_cs1i wadC lkX2_88 (m_X2_variableOf _ _) (by decide) (Nat.le_of_ble_eq_true rfl) dX2_liveAtStep_92 (fun r34 S35 => ?_)
        refine k_ior dX2_liveAtStep_95 ?_
        refine k_aload_n dX2_liveAtStep_96 rfl ?_
        refine k_getR gX2_24 dX2_liveAtStep_97 ?_
        refine k_iload_n dX2_liveAtStep_100 rfl ?_
        refine k_iald aC_8 dX2_liveAtStep_101 ?_
        refine k_cs1i wadC lkX2_88 (m_X2_variableOf _ _) (by decide) (Nat.le_of_ble_eq_true rfl) dX2_liveAtStep_102 (fun r36 S37 => ?_)
        refine k_ior dX2_liveAtStep_105 ?_
        exact k_iret dX2_liveAtStep_106
  · refine k_to (pc' := 30) rfl ?_
    refine k_iload_n dX2_liveAtStep_30 rfl ?_
    refine k_aload_n dX2_liveAtStep_31 rfl ?_
    refine k_aload_n dX2_liveAtStep_32 rfl ?_
    refine k_iload_n dX2_liveAtStep_33 rfl ?_
    refine k_cv1i wadC lkX2_85 obX2 (m_X2_placeSkippedTo _ _) (by decide) (Nat.le_of_ble_eq_true rfl) dX2_liveAtStep_34 (fun r38 S39 => ?_)
    refine k_cv1i wadC lkX2_82 obX2 (m_X2_liveAt _ _) (by decide) (Nat.le_of_ble_eq_true rfl) dX2_liveAtStep_37 (fun r40 S41 => ?_)
    refine k_ior dX2_liveAtStep_40 ?_
    refine k_ist_n2 dX2_liveAtStep_41 (by decide) rfl ?_
    refine k_nxt ?_
    refine k_goto (tgt := 85) dX2_liveAtStep_42 (by decide) ?_
    refine k_to (pc' := 85) rfl ?_
    refine k_iload_n dX2_liveAtStep_85 rfl ?_
    refine k_aload_n dX2_liveAtStep_86 rfl ?_
    refine k_getR gX2_21 dX2_liveAtStep_87 ?_
    refine k_iload_n dX2_liveAtStep_90 rfl ?_
    refine k_iald aC_7 dX2_liveAtStep_91 ?_
    refine k_cs1i wadC lkX2_88 (m_X2_variableOf _ _) (by decide) (Nat.le_of_ble_eq_true rfl) dX2_liveAtStep_92 (fun r43 S44 => ?_)
    refine k_ior dX2_liveAtStep_95 ?_
    refine k_aload_n dX2_liveAtStep_96 rfl ?_
    refine k_getR gX2_24 dX2_liveAtStep_97 ?_
    refine k_iload_n dX2_liveAtStep_100 rfl ?_
    refine k_to (pc' := 101) rfl ?_
    refine k_iald aC_8 dX2_liveAtStep_101 ?_
    refine k_cs1i wadC lkX2_88 (m_X2_variableOf _ _) (by decide) (Nat.le_of_ble_eq_true rfl) dX2_liveAtStep_102 (fun r45 S46 => ?_)
    refine k_ior dX2_liveAtStep_105 ?_
    exact k_iret dX2_liveAtStep_106
theorem m_X2_liveAtStep {l : Launch} {D : va_G} {d : Dt} (x1 : Int32) (S : St) : ∀ (r : Int32) (S' : St), f_X2_liveAtStep x1 S = some (r, S') → Mt l D d wlC yX2_liveAtStep cX2_liveAtStep 5 (some .int) 3 [.ref (d.1 1), .int x1] S (jI r) S' := Mt_of wadC (by decide) (Nat.le_of_ble_eq_true rfl) (fun X hL hd => by subst hd; exact w_X2_liveAtStep X x1 S)
noncomputable def lp_X2_markLive_5 : Nat → Int32 → St → Option (Unit × St)
  | 0, _, _ => none
  | n + 1, x1, S => (if x1 < 0 then (some ((), S)) else (if (31 : Int32) ≤ x1 then (lp_X2_markLive_5 n (x1 + (-1 : Int32)) S) else (bnd (f_X2_isStep x1 S) fun r2 S3 => (if r2 = 0 then (chk (inB x1 31) (nxt (sA S3 10 (upd (gA S3 10) (x1).toNatClampNeg (gI S3 207))) fun S4 => (lp_X2_markLive_5 n (x1 + (-1 : Int32)) S4))) else (bnd (f_X2_liveAtStep x1 S3) fun r5 S6 => (chk (inB x1 31) (nxt (sA S6 10 (upd (gA S6 10) (x1).toNatClampNeg r5)) fun S7 => (lp_X2_markLive_5 n (x1 + (-1 : Int32)) S7))))))))
set_option maxRecDepth 100000 in
set_option maxHeartbeats 4000000 in
theorem wlp_X2_markLive_5 (X : Cx) : ∀ (n : Nat) (x1 : Int32) (S : St), KJ X (cX2_markLive, RX2, 2, 4, none) wlC jV 5 [some (.ref (xa X 1)), some (.int x1)] [] S (lp_X2_markLive_5 n x1 S) := by
  intro n
  induction n with
  | zero => intro x1 S; rw [lp_X2_markLive_5]; exact k_none
  | succ n ih =>
    intro x1 S
    rw [lp_X2_markLive_5]
    refine k_iload_n dX2_markLive_5 rfl ?_
    refine k_if_lt (tgt := 47) dX2_markLive_6 (by decide) (fun _ => ?_) (fun _ => ?_)
    · exact k_vret dX2_markLive_47
    · refine k_to (pc' := 9) rfl ?_
      refine k_iload_n dX2_markLive_9 rfl ?_
      refine k_bipush dX2_markLive_10 cb_31 ?_
      refine k_icmp_ge (tgt := 41) dX2_markLive_12 (by decide) (fun _ => ?_) (fun _ => ?_)
      · refine k_inc1 dX2_markLive_41 ci_m1 (by decide) rfl ?_
        refine k_goto (tgt := 5) dX2_markLive_44 (by decide) ?_
        refine k_to (pc' := 5) rfl ?_
        exact k_weak (ih _ _) (And.intro rfl (And.intro rfl True.intro))
      · refine k_to (pc' := 15) rfl ?_
        refine k_aload_n dX2_markLive_15 rfl ?_
        refine k_getR gX2_32 dX2_markLive_16 ?_
        refine k_iload_n dX2_markLive_19 rfl ?_
        refine k_aload_n dX2_markLive_20 rfl ?_
        refine k_iload_n dX2_markLive_21 rfl ?_
        refine k_cv1i wadC lkX2_65 obX2 (m_X2_isStep _ _) (by decide) (Nat.le_of_ble_eq_true rfl) dX2_markLive_22 (fun r2 S3 => ?_)
        refine k_if_eq (tgt := 36) dX2_markLive_25 (by decide) (fun _ => ?_) (fun _ => ?_)
        · refine k_aload_n dX2_markLive_36 rfl ?_
          refine k_getI gX2_48 dX2_markLive_37 ?_
          refine k_iast aC_10 dX2_markLive_40 ?_
          refine k_nxt ?_
          refine k_inc1 dX2_markLive_41 ci_m1 (by decide) rfl ?_
          refine k_goto (tgt := 5) dX2_markLive_44 (by decide) ?_
          refine k_to (pc' := 5) rfl ?_
          exact k_weak (ih _ _) (And.intro rfl (And.intro rfl True.intro))
        · refine k_to (pc' := 28) rfl ?_
          refine k_aload_n dX2_markLive_28 rfl ?_
          refine k_iload_n dX2_markLive_29 rfl ?_
          refine k_cv1i wadC lkX2_79 obX2 (m_X2_liveAtStep _ _) (by decide) (Nat.le_of_ble_eq_true rfl) dX2_markLive_30 (fun r5 S6 => ?_)
          refine k_goto (tgt := 40) dX2_markLive_33 (by decide) ?_
          refine k_iast aC_10 dX2_markLive_40 ?_
          refine k_nxt ?_
          refine k_inc1 dX2_markLive_41 ci_m1 (by decide) rfl ?_
          refine k_goto (tgt := 5) dX2_markLive_44 (by decide) ?_
          refine k_to (pc' := 5) rfl ?_
          exact k_weak (ih _ _) (And.intro rfl (And.intro rfl True.intro))
noncomputable def f_X2_markLive (S : St) : Option (Unit × St) := (nxt (gI S 208) fun y1 => (lp_X2_markLive_5 FU y1 S))
set_option maxRecDepth 100000 in
set_option maxHeartbeats 4000000 in
theorem w_X2_markLive (X : Cx) (S : St) : KJ X (cX2_markLive, RX2, 2, 4, none) wlC jV 0 [some (.ref (xa X 1)), none] [] S (f_X2_markLive S) := by
  unfold f_X2_markLive
  refine k_aload_n dX2_markLive_0 rfl ?_
  refine k_getI gX2_38 dX2_markLive_1 ?_
  refine k_ist_n1 dX2_markLive_4 (by decide) rfl ?_
  refine k_nxt ?_
  refine k_to (pc' := 5) rfl ?_
  exact k_weak (wlp_X2_markLive_5 X FU _ _) (And.intro rfl (And.intro rfl True.intro))
theorem m_X2_markLive {l : Launch} {D : va_G} {d : Dt} (S : St) : ∀ (r : Unit) (S' : St), f_X2_markLive S = some (r, S') → Mt l D d wlC yX2_markLive cX2_markLive 2 none 4 [.ref (d.1 1)] S (jV r) S' := Mt_of wadC (by decide) (Nat.le_of_ble_eq_true rfl) (fun X hL hd => by subst hd; exact w_X2_markLive X S)
noncomputable def f_X2_combined (x0 : Int32) (x1 : Int32) (x2 : Int32) (x3 : Int32) (S : St) : Option (Int32 × St) := (if x0 = 0 then (chk (decide (¬ (10 : Int32) = 0)) (some (((x1 + x2) - (x1 + x2) / (10 : Int32) * (10 : Int32)), S))) else (if x0 = 1 then (chk (decide (¬ (10 : Int32) = 0)) (some ((((x1 - x2) + (10 : Int32)) - ((x1 - x2) + (10 : Int32)) / (10 : Int32) * (10 : Int32)), S))) else (if x0 = 2 then (chk (decide (¬ (10 : Int32) = 0)) (some (((x1 * x2) - (x1 * x2) / (10 : Int32) * (10 : Int32)), S))) else (if x0 = 3 then (some ((if x2 < x1 then x2 else x1), S)) else (if x0 = 4 then (some ((if x1 < x2 then x2 else x1), S)) else (if x0 = 5 then (if x1 = x2 then (some ((1 : Int32), S)) else (some ((0 : Int32), S))) else (if x2 = 0 then (some (x1, S)) else (some (x3, S)))))))))
set_option maxRecDepth 100000 in
set_option maxHeartbeats 4000000 in
theorem w_X2_combined (X : Cx) (x0 : Int32) (x1 : Int32) (x2 : Int32) (x3 : Int32) (S : St) : KJ X (cX2_combined, RX2, 4, 1, (some .int)) wlC jI 0 [some (.int x0), some (.int x1), some (.int x2), some (.int x3)] [] S (f_X2_combined x0 x1 x2 x3 S) := by
  unfold f_X2_combined
  refine k_iload_n dX2_combined_0 rfl ?_
  refine k_tin (tgt := 40) (v := 0) dX2_combined_1 (by decide) (by decide) rfl (by decide) (fun _ => ?_) (fun t0 => ?_)
  · refine k_iload_n dX2_combined_40 rfl ?_
    refine k_iload_n dX2_combined_41 rfl ?_
    refine k_iadd dX2_combined_42 ?_
    refine k_bipush dX2_combined_43 cb_10 ?_
    refine k_irem dX2_combined_45 ?_
    exact k_iret dX2_combined_46
  refine k_tin (tgt := 47) (v := 1) dX2_combined_1 (by decide) (by decide) rfl (by decide) (fun _ => ?_) (fun t1 => ?_)
  · refine k_iload_n dX2_combined_47 rfl ?_
    refine k_iload_n dX2_combined_48 rfl ?_
    refine k_isub dX2_combined_49 ?_
    refine k_bipush dX2_combined_50 cb_10 ?_
    refine k_iadd dX2_combined_52 ?_
    refine k_bipush dX2_combined_53 cb_10 ?_
    refine k_irem dX2_combined_55 ?_
    exact k_iret dX2_combined_56
  refine k_tin (tgt := 57) (v := 2) dX2_combined_1 (by decide) (by decide) rfl (by decide) (fun _ => ?_) (fun t2 => ?_)
  · refine k_iload_n dX2_combined_57 rfl ?_
    refine k_iload_n dX2_combined_58 rfl ?_
    refine k_imul dX2_combined_59 ?_
    refine k_bipush dX2_combined_60 cb_10 ?_
    refine k_irem dX2_combined_62 ?_
    exact k_iret dX2_combined_63
  refine k_tin (tgt := 64) (v := 3) dX2_combined_1 (by decide) (by decide) rfl (by decide) (fun _ => ?_) (fun t3 => ?_)
  · refine k_iload_n dX2_combined_64 rfl ?_
    refine k_iload_n dX2_combined_65 rfl ?_
    refine k_mmin lmX2_99 lm_min_s lm_math lm_min_c (by decide) (Nat.le_of_ble_eq_true rfl) dX2_combined_66 ?_
    exact k_iret dX2_combined_69
  refine k_tin (tgt := 70) (v := 4) dX2_combined_1 (by decide) (by decide) rfl (by decide) (fun _ => ?_) (fun t4 => ?_)
  · refine k_iload_n dX2_combined_70 rfl ?_
    refine k_iload_n dX2_combined_71 rfl ?_
    refine k_mmax lmX2_121 lm_max_s lm_math lm_max_c (by decide) (Nat.le_of_ble_eq_true rfl) dX2_combined_72 ?_
    exact k_iret dX2_combined_75
  refine k_tin (tgt := 76) (v := 5) dX2_combined_1 (by decide) (by decide) rfl (by decide) (fun _ => ?_) (fun t5 => ?_)
  · refine k_iload_n dX2_combined_76 rfl ?_
    refine k_iload_n dX2_combined_77 rfl ?_
    refine k_icmp_ne (tgt := 85) dX2_combined_78 (by decide) (fun _ => ?_) (fun _ => ?_)
    · refine k_iconst dX2_combined_85 ci_0 ?_
      exact k_iret dX2_combined_86
    · refine k_to (pc' := 81) rfl ?_
      refine k_iconst dX2_combined_81 ci_1 ?_
      refine k_goto (tgt := 86) dX2_combined_82 (by decide) ?_
      exact k_iret dX2_combined_86
  refine k_tout (tgt := 87) dX2_combined_1 (tsw_0_5 t0 t1 t2 t3 t4 t5) (by decide) ?_
  refine k_iload_n dX2_combined_87 rfl ?_
  refine k_if_ne (tgt := 95) dX2_combined_88 (by decide) (fun _ => ?_) (fun _ => ?_)
  · refine k_iload_n dX2_combined_95 rfl ?_
    exact k_iret dX2_combined_96
  · refine k_to (pc' := 91) rfl ?_
    refine k_iload_n dX2_combined_91 rfl ?_
    refine k_goto (tgt := 96) dX2_combined_92 (by decide) ?_
    exact k_iret dX2_combined_96
theorem m_X2_combined {l : Launch} {D : va_G} {d : Dt} (x0 : Int32) (x1 : Int32) (x2 : Int32) (x3 : Int32) (S : St) : ∀ (r : Int32) (S' : St), f_X2_combined x0 x1 x2 x3 S = some (r, S') → Mt l D d wlC yX2_combined cX2_combined 4 (some .int) 1 [.int x0, .int x1, .int x2, .int x3] S (jI r) S' := Mt_of wadC (by decide) (Nat.le_of_ble_eq_true rfl) (fun X hL hd => by subst hd; exact w_X2_combined X x0 x1 x2 x3 S)
noncomputable def f_X2_termValue (x0 : Int32) (x1 : Int32) (S : St) : Option (Int32 × St) := (bnd (f_X4_isVariable x0 S) fun r1 S2 => (if r1 = 0 then (some ((x0 - (10 : Int32)), S2)) else (bnd (f_X0_valueOf x1 x0 S2) fun r3 S4 => (some (r3, S4)))))
set_option maxRecDepth 100000 in
set_option maxHeartbeats 4000000 in
theorem w_X2_termValue (X : Cx) (x0 : Int32) (x1 : Int32) (S : St) : KJ X (cX2_termValue, RX2, 2, 2, (some .int)) wlC jI 0 [some (.int x0), some (.int x1)] [] S (f_X2_termValue x0 x1 S) := by
  unfold f_X2_termValue
  refine k_iload_n dX2_termValue_0 rfl ?_
  refine k_cs1i wadC lkX2_91 (m_X4_isVariable _ _) (by decide) (Nat.le_of_ble_eq_true rfl) dX2_termValue_1 (fun r1 S2 => ?_)
  refine k_if_eq (tgt := 15) dX2_termValue_4 (by decide) (fun _ => ?_) (fun _ => ?_)
  · refine k_iload_n dX2_termValue_15 rfl ?_
    refine k_bipush dX2_termValue_16 cb_10 ?_
    refine k_isub dX2_termValue_18 ?_
    exact k_iret dX2_termValue_19
  · refine k_to (pc' := 7) rfl ?_
    refine k_iload_n dX2_termValue_7 rfl ?_
    refine k_iload_n dX2_termValue_8 rfl ?_
    refine k_cs2i wadC lkX2_94 (m_X0_valueOf _ _ _) (by decide) (Nat.le_of_ble_eq_true rfl) dX2_termValue_9 (fun r3 S4 => ?_)
    refine k_goto (tgt := 19) dX2_termValue_12 (by decide) ?_
    exact k_iret dX2_termValue_19
theorem m_X2_termValue {l : Launch} {D : va_G} {d : Dt} (x0 : Int32) (x1 : Int32) (S : St) : ∀ (r : Int32) (S' : St), f_X2_termValue x0 x1 S = some (r, S') → Mt l D d wlC yX2_termValue cX2_termValue 2 (some .int) 2 [.int x0, .int x1] S (jI r) S' := Mt_of wadC (by decide) (Nat.le_of_ble_eq_true rfl) (fun X hL hd => by subst hd; exact w_X2_termValue X x0 x1 S)
noncomputable def f_X2_heldBehind (x1 : Int32) (x2 : Int32) (x3 : Int32) (S : St) : Option (Int32 × St) := (bnd (f_X2_isStep x1 S) fun r1 S2 => (if r1 = 0 then (some (x3, S2)) else (chk (inB x1 30) (nxt (gA S2 5 (x1).toNatClampNeg) fun y3 => (chk (inB x1 30) (if (gA S2 4 (x1).toNatClampNeg) = 0 then (bnd (f_X0_with x3 y3 x2 S2) fun r14 S15 => (some (r14, S15))) else (chk (inB x1 30) (if (gA S2 4 (x1).toNatClampNeg) = (1 : Int32) then (chk (inB x1 30) (bnd (f_X2_termValue (gA S2 7 (x1).toNatClampNeg) x3 S2) fun r4 S5 => (chk (inB x1 30) (bnd (f_X2_termValue (gA S5 8 (x1).toNatClampNeg) x3 S5) fun r6 S7 => (bnd (f_X0_valueOf x3 y3 S7) fun r8 S9 => (chk (inB x1 30) (bnd (f_X2_combined (gA S9 6 (x1).toNatClampNeg) r4 r6 r8 S9) fun r10 S11 => (bnd (f_X0_with x3 y3 r10 S11) fun r12 S13 => (some (r12, S13)))))))))) else (some (x3, S2))))))))))
set_option maxRecDepth 100000 in
set_option maxHeartbeats 4000000 in
theorem w_X2_heldBehind (X : Cx) (x1 : Int32) (x2 : Int32) (x3 : Int32) (S : St) : KJ X (cX2_heldBehind, RX2, 8, 3, (some .int)) wlC jI 0 [some (.ref (xa X 1)), some (.int x1), some (.int x2), some (.int x3), none, none, none, none] [] S (f_X2_heldBehind x1 x2 x3 S) := by
  unfold f_X2_heldBehind
  refine k_aload_n dX2_heldBehind_0 rfl ?_
  refine k_iload_n dX2_heldBehind_1 rfl ?_
  refine k_cv1i wadC lkX2_65 obX2 (m_X2_isStep _ _) (by decide) (Nat.le_of_ble_eq_true rfl) dX2_heldBehind_2 (fun r1 S2 => ?_)
  refine k_if_ne (tgt := 10) dX2_heldBehind_5 (by decide) (fun _ => ?_) (fun _ => ?_)
  · refine k_aload_n dX2_heldBehind_10 rfl ?_
    refine k_getR gX2_15 dX2_heldBehind_11 ?_
    refine k_iload_n dX2_heldBehind_14 rfl ?_
    refine k_iald aC_5 dX2_heldBehind_15 ?_
    refine k_ist4 dX2_heldBehind_16 (by decide) rfl ?_
    refine k_nxt ?_
    refine k_aload_n dX2_heldBehind_18 rfl ?_
    refine k_getR gX2_9 dX2_heldBehind_19 ?_
    refine k_iload_n dX2_heldBehind_22 rfl ?_
    refine k_iald aC_4 dX2_heldBehind_23 ?_
    refine k_to (pc' := 24) rfl ?_
    refine k_if_ne (tgt := 35) dX2_heldBehind_24 (by decide) (fun _ => ?_) (fun _ => ?_)
    · refine k_aload_n dX2_heldBehind_35 rfl ?_
      refine k_getR gX2_9 dX2_heldBehind_36 ?_
      refine k_iload_n dX2_heldBehind_39 rfl ?_
      refine k_iald aC_4 dX2_heldBehind_40 ?_
      refine k_iconst dX2_heldBehind_41 ci_1 ?_
      refine k_icmp_eq (tgt := 47) dX2_heldBehind_42 (by decide) (fun _ => ?_) (fun _ => ?_)
      · refine k_aload_n dX2_heldBehind_47 rfl ?_
        refine k_getR gX2_21 dX2_heldBehind_48 ?_
        refine k_iload_n dX2_heldBehind_51 rfl ?_
        refine k_iald aC_7 dX2_heldBehind_52 ?_
        refine k_iload_n dX2_heldBehind_53 rfl ?_
        refine k_cs2i wadC lkX2_104 (m_X2_termValue _ _ _) (by decide) (Nat.le_of_ble_eq_true rfl) dX2_heldBehind_54 (fun r4 S5 => ?_)
        refine k_ist5 dX2_heldBehind_57 (by decide) rfl ?_
        refine k_aload_n dX2_heldBehind_59 rfl ?_
        refine k_getR gX2_24 dX2_heldBehind_60 ?_
        refine k_to (pc' := 63) rfl ?_
        refine k_iload_n dX2_heldBehind_63 rfl ?_
        refine k_iald aC_8 dX2_heldBehind_64 ?_
        refine k_iload_n dX2_heldBehind_65 rfl ?_
        refine k_cs2i wadC lkX2_104 (m_X2_termValue _ _ _) (by decide) (Nat.le_of_ble_eq_true rfl) dX2_heldBehind_66 (fun r6 S7 => ?_)
        refine k_ist6 dX2_heldBehind_69 (by decide) rfl ?_
        refine k_iload_n dX2_heldBehind_71 rfl ?_
        refine k_iload dX2_heldBehind_72 rfl ?_
        refine k_cs2i wadC lkX2_94 (m_X0_valueOf _ _ _) (by decide) (Nat.le_of_ble_eq_true rfl) dX2_heldBehind_74 (fun r8 S9 => ?_)
        refine k_ist7 dX2_heldBehind_77 (by decide) rfl ?_
        refine k_iload_n dX2_heldBehind_79 rfl ?_
        refine k_to (pc' := 80) rfl ?_
        refine k_iload dX2_heldBehind_80 rfl ?_
        refine k_aload_n dX2_heldBehind_82 rfl ?_
        refine k_getR gX2_18 dX2_heldBehind_83 ?_
        refine k_iload_n dX2_heldBehind_86 rfl ?_
        refine k_iald aC_6 dX2_heldBehind_87 ?_
        refine k_iload dX2_heldBehind_88 rfl ?_
        refine k_iload dX2_heldBehind_90 rfl ?_
        refine k_iload dX2_heldBehind_92 rfl ?_
        refine k_cs4i wadC lkX2_117 (m_X2_combined _ _ _ _ _) (by decide) (Nat.le_of_ble_eq_true rfl) dX2_heldBehind_94 (fun r10 S11 => ?_)
        refine k_cs3i wadC lkX2_113 (m_X0_with _ _ _ _) (by decide) (Nat.le_of_ble_eq_true rfl) dX2_heldBehind_97 (fun r12 S13 => ?_)
        refine k_to (pc' := 100) rfl ?_
        exact k_iret dX2_heldBehind_100
      · refine k_to (pc' := 45) rfl ?_
        refine k_iload_n dX2_heldBehind_45 rfl ?_
        exact k_iret dX2_heldBehind_46
    · refine k_to (pc' := 27) rfl ?_
      refine k_iload_n dX2_heldBehind_27 rfl ?_
      refine k_iload dX2_heldBehind_28 rfl ?_
      refine k_iload_n dX2_heldBehind_30 rfl ?_
      refine k_cs3i wadC lkX2_113 (m_X0_with _ _ _ _) (by decide) (Nat.le_of_ble_eq_true rfl) dX2_heldBehind_31 (fun r14 S15 => ?_)
      exact k_iret dX2_heldBehind_34
  · refine k_to (pc' := 8) rfl ?_
    refine k_iload_n dX2_heldBehind_8 rfl ?_
    exact k_iret dX2_heldBehind_9
theorem m_X2_heldBehind {l : Launch} {D : va_G} {d : Dt} (x1 : Int32) (x2 : Int32) (x3 : Int32) (S : St) : ∀ (r : Int32) (S' : St), f_X2_heldBehind x1 x2 x3 S = some (r, S') → Mt l D d wlC yX2_heldBehind cX2_heldBehind 8 (some .int) 3 [.ref (d.1 1), .int x1, .int x2, .int x3] S (jI r) S' := Mt_of wadC (by decide) (Nat.le_of_ble_eq_true rfl) (fun X hL hd => by subst hd; exact w_X2_heldBehind X x1 x2 x3 S)
noncomputable def f_X2_isSeen (x0 : Int32) (x1 : Int32) (x2 : Int32) (S : St) : Option (Int32 × St) := (if x0 = 0 then (if x1 = x2 then (some ((1 : Int32), S)) else (some ((0 : Int32), S))) else (if x0 = 1 then (if x1 = x2 then (some ((0 : Int32), S)) else (some ((1 : Int32), S))) else (if x0 = 2 then (if x2 ≤ x1 then (some ((0 : Int32), S)) else (some ((1 : Int32), S))) else (if x1 ≤ x2 then (some ((0 : Int32), S)) else (some ((1 : Int32), S))))))
set_option maxRecDepth 100000 in
set_option maxHeartbeats 4000000 in
theorem w_X2_isSeen (X : Cx) (x0 : Int32) (x1 : Int32) (x2 : Int32) (S : St) : KJ X (cX2_isSeen, RX2, 3, 1, (some .boolean)) wlC jI 0 [some (.int x0), some (.int x1), some (.int x2)] [] S (f_X2_isSeen x0 x1 x2 S) := by
  unfold f_X2_isSeen
  refine k_iload_n dX2_isSeen_0 rfl ?_
  refine k_tin (tgt := 28) (v := 0) dX2_isSeen_1 (by decide) (by decide) rfl (by decide) (fun _ => ?_) (fun t0 => ?_)
  · refine k_iload_n dX2_isSeen_28 rfl ?_
    refine k_iload_n dX2_isSeen_29 rfl ?_
    refine k_icmp_ne (tgt := 37) dX2_isSeen_30 (by decide) (fun _ => ?_) (fun _ => ?_)
    · refine k_iconst dX2_isSeen_37 ci_0 ?_
      exact k_zret (Or.inl rfl) dX2_isSeen_38
    · refine k_to (pc' := 33) rfl ?_
      refine k_iconst dX2_isSeen_33 ci_1 ?_
      refine k_goto (tgt := 38) dX2_isSeen_34 (by decide) ?_
      exact k_zret (Or.inr rfl) dX2_isSeen_38
  refine k_tin (tgt := 39) (v := 1) dX2_isSeen_1 (by decide) (by decide) rfl (by decide) (fun _ => ?_) (fun t1 => ?_)
  · refine k_iload_n dX2_isSeen_39 rfl ?_
    refine k_iload_n dX2_isSeen_40 rfl ?_
    refine k_icmp_eq (tgt := 48) dX2_isSeen_41 (by decide) (fun _ => ?_) (fun _ => ?_)
    · refine k_iconst dX2_isSeen_48 ci_0 ?_
      exact k_zret (Or.inl rfl) dX2_isSeen_49
    · refine k_to (pc' := 44) rfl ?_
      refine k_iconst dX2_isSeen_44 ci_1 ?_
      refine k_goto (tgt := 49) dX2_isSeen_45 (by decide) ?_
      exact k_zret (Or.inr rfl) dX2_isSeen_49
  refine k_tin (tgt := 50) (v := 2) dX2_isSeen_1 (by decide) (by decide) rfl (by decide) (fun _ => ?_) (fun t2 => ?_)
  · refine k_iload_n dX2_isSeen_50 rfl ?_
    refine k_iload_n dX2_isSeen_51 rfl ?_
    refine k_icmp_ge (tgt := 59) dX2_isSeen_52 (by decide) (fun _ => ?_) (fun _ => ?_)
    · refine k_iconst dX2_isSeen_59 ci_0 ?_
      exact k_zret (Or.inl rfl) dX2_isSeen_60
    · refine k_to (pc' := 55) rfl ?_
      refine k_iconst dX2_isSeen_55 ci_1 ?_
      refine k_goto (tgt := 60) dX2_isSeen_56 (by decide) ?_
      exact k_zret (Or.inr rfl) dX2_isSeen_60
  refine k_tout (tgt := 61) dX2_isSeen_1 (tsw_0_2 t0 t1 t2) (by decide) ?_
  refine k_iload_n dX2_isSeen_61 rfl ?_
  refine k_iload_n dX2_isSeen_62 rfl ?_
  refine k_icmp_le (tgt := 70) dX2_isSeen_63 (by decide) (fun _ => ?_) (fun _ => ?_)
  · refine k_iconst dX2_isSeen_70 ci_0 ?_
    exact k_zret (Or.inl rfl) dX2_isSeen_71
  · refine k_to (pc' := 66) rfl ?_
    refine k_iconst dX2_isSeen_66 ci_1 ?_
    refine k_goto (tgt := 71) dX2_isSeen_67 (by decide) ?_
    exact k_zret (Or.inr rfl) dX2_isSeen_71
theorem m_X2_isSeen {l : Launch} {D : va_G} {d : Dt} (x0 : Int32) (x1 : Int32) (x2 : Int32) (S : St) : ∀ (r : Int32) (S' : St), f_X2_isSeen x0 x1 x2 S = some (r, S') → Mt l D d wlC yX2_isSeen cX2_isSeen 3 (some .boolean) 1 [.int x0, .int x1, .int x2] S (jI r) S' := Mt_of wadC (by decide) (Nat.le_of_ble_eq_true rfl) (fun X hL hd => by subst hd; exact w_X2_isSeen X x0 x1 x2 S)
noncomputable def f_X4_isRow (x0 : Int32) (S : St) : Option (Int32 × St) := (if x0 < 0 then (some ((0 : Int32), S)) else (if (4 : Int32) ≤ x0 then (some ((0 : Int32), S)) else (some ((1 : Int32), S))))
set_option maxRecDepth 100000 in
set_option maxHeartbeats 4000000 in
theorem w_X4_isRow (X : Cx) (x0 : Int32) (S : St) : KJ X (cX4_isRow, RX4, 1, 1, (some .boolean)) wlC jI 0 [some (.int x0)] [] S (f_X4_isRow x0 S) := by
  unfold f_X4_isRow
  refine k_iload_n dX4_isRow_0 rfl ?_
  refine k_if_lt (tgt := 13) dX4_isRow_1 (by decide) (fun _ => ?_) (fun _ => ?_)
  · refine k_iconst dX4_isRow_13 ci_0 ?_
    exact k_zret (Or.inl rfl) dX4_isRow_14
  · refine k_to (pc' := 4) rfl ?_
    refine k_iload_n dX4_isRow_4 rfl ?_
    refine k_iconst dX4_isRow_5 ci_4 ?_
    refine k_icmp_ge (tgt := 13) dX4_isRow_6 (by decide) (fun _ => ?_) (fun _ => ?_)
    · refine k_iconst dX4_isRow_13 ci_0 ?_
      exact k_zret (Or.inl rfl) dX4_isRow_14
    · refine k_to (pc' := 9) rfl ?_
      refine k_iconst dX4_isRow_9 ci_1 ?_
      refine k_goto (tgt := 14) dX4_isRow_10 (by decide) ?_
      exact k_zret (Or.inr rfl) dX4_isRow_14
theorem m_X4_isRow {l : Launch} {D : va_G} {d : Dt} (x0 : Int32) (S : St) : ∀ (r : Int32) (S' : St), f_X4_isRow x0 S = some (r, S') → Mt l D d wlC yX4_isRow cX4_isRow 1 (some .boolean) 1 [.int x0] S (jI r) S' := Mt_of wadC (by decide) (Nat.le_of_ble_eq_true rfl) (fun X hL hd => by subst hd; exact w_X4_isRow X x0 S)
noncomputable def f_X4_isValue (x0 : Int32) (S : St) : Option (Int32 × St) := (if x0 < 0 then (some ((0 : Int32), S)) else (if (10 : Int32) ≤ x0 then (some ((0 : Int32), S)) else (some ((1 : Int32), S))))
set_option maxRecDepth 100000 in
set_option maxHeartbeats 4000000 in
theorem w_X4_isValue (X : Cx) (x0 : Int32) (S : St) : KJ X (cX4_isValue, RX4, 1, 1, (some .boolean)) wlC jI 0 [some (.int x0)] [] S (f_X4_isValue x0 S) := by
  unfold f_X4_isValue
  refine k_iload_n dX4_isValue_0 rfl ?_
  refine k_if_lt (tgt := 14) dX4_isValue_1 (by decide) (fun _ => ?_) (fun _ => ?_)
  · refine k_iconst dX4_isValue_14 ci_0 ?_
    exact k_zret (Or.inl rfl) dX4_isValue_15
  · refine k_to (pc' := 4) rfl ?_
    refine k_iload_n dX4_isValue_4 rfl ?_
    refine k_bipush dX4_isValue_5 cb_10 ?_
    refine k_icmp_ge (tgt := 14) dX4_isValue_7 (by decide) (fun _ => ?_) (fun _ => ?_)
    · refine k_iconst dX4_isValue_14 ci_0 ?_
      exact k_zret (Or.inl rfl) dX4_isValue_15
    · refine k_to (pc' := 10) rfl ?_
      refine k_iconst dX4_isValue_10 ci_1 ?_
      refine k_goto (tgt := 15) dX4_isValue_11 (by decide) ?_
      exact k_zret (Or.inr rfl) dX4_isValue_15
theorem m_X4_isValue {l : Launch} {D : va_G} {d : Dt} (x0 : Int32) (S : St) : ∀ (r : Int32) (S' : St), f_X4_isValue x0 S = some (r, S') → Mt l D d wlC yX4_isValue cX4_isValue 1 (some .boolean) 1 [.int x0] S (jI r) S' := Mt_of wadC (by decide) (Nat.le_of_ble_eq_true rfl) (fun X hL hd => by subst hd; exact w_X4_isValue X x0 S)
noncomputable def f_X2_weightOf (x1 : Int32) (x2 : Int32) (S : St) : Option (Int32 × St) := (bnd (f_X4_isRow x1 S) fun r1 S2 => (if r1 = 0 then (some ((0 : Int32), S2)) else (bnd (f_X4_isValue x2 S2) fun r3 S4 => (if r3 = 0 then (some ((0 : Int32), S4)) else (chk (inB x1 4) (chk (inB x2 10) (some ((gA S4 (19 + (x1).toNatClampNeg) (x2).toNatClampNeg), S4))))))))
set_option maxRecDepth 100000 in
set_option maxHeartbeats 4000000 in
theorem w_X2_weightOf (X : Cx) (x1 : Int32) (x2 : Int32) (S : St) : KJ X (cX2_weightOf, RX2, 3, 2, (some .int)) wlC jI 0 [some (.ref (xa X 1)), some (.int x1), some (.int x2)] [] S (f_X2_weightOf x1 x2 S) := by
  unfold f_X2_weightOf
  refine k_iload_n dX2_weightOf_0 rfl ?_
  refine k_cs1i wadC lkX2_51 (m_X4_isRow _ _) (by decide) (Nat.le_of_ble_eq_true rfl) dX2_weightOf_1 (fun r1 S2 => ?_)
  refine k_if_eq (tgt := 25) dX2_weightOf_4 (by decide) (fun _ => ?_) (fun _ => ?_)
  · refine k_iconst dX2_weightOf_25 ci_0 ?_
    exact k_iret dX2_weightOf_26
  · refine k_to (pc' := 7) rfl ?_
    refine k_iload_n dX2_weightOf_7 rfl ?_
    refine k_cs1i wadC lkX2_55 (m_X4_isValue _ _) (by decide) (Nat.le_of_ble_eq_true rfl) dX2_weightOf_8 (fun r3 S4 => ?_)
    refine k_if_eq (tgt := 25) dX2_weightOf_11 (by decide) (fun _ => ?_) (fun _ => ?_)
    · refine k_iconst dX2_weightOf_25 ci_0 ?_
      exact k_iret dX2_weightOf_26
    · refine k_to (pc' := 14) rfl ?_
      refine k_aload_n dX2_weightOf_14 rfl ?_
      refine k_getR gX2_29 dX2_weightOf_15 ?_
      refine k_iload_n dX2_weightOf_18 rfl ?_
      refine k_aald arC_9 dX2_weightOf_19 (fun h5 => ?_)
      refine k_iload_n dX2_weightOf_20 rfl ?_
      refine k_iald (roC_9 h5) dX2_weightOf_21 ?_
      refine k_goto (tgt := 26) dX2_weightOf_22 (by decide) ?_
      exact k_iret dX2_weightOf_26
theorem m_X2_weightOf {l : Launch} {D : va_G} {d : Dt} (x1 : Int32) (x2 : Int32) (S : St) : ∀ (r : Int32) (S' : St), f_X2_weightOf x1 x2 S = some (r, S') → Mt l D d wlC yX2_weightOf cX2_weightOf 3 (some .int) 2 [.ref (d.1 1), .int x1, .int x2] S (jI r) S' := Mt_of wadC (by decide) (Nat.le_of_ble_eq_true rfl) (fun X hL hd => by subst hd; exact w_X2_weightOf X x1 x2 S)
noncomputable def f_X2_massBehind (x1 : Int32) (x2 : Int32) (x3 : Int32) (x4 : Int64) (S : St) : Option (Int64 × St) := (bnd (f_X2_isStep x1 S) fun r1 S2 => (if r1 = 0 then (some (x4, S2)) else (chk (inB x1 30) (bnd (f_X2_termValue (gA S2 7 (x1).toNatClampNeg) x3 S2) fun r3 S4 => (chk (inB x1 30) (if (gA S4 4 (x1).toNatClampNeg) = 0 then (chk (inB x1 30) (bnd (f_X2_weightOf (gA S4 6 (x1).toNatClampNeg) x2 S4) fun r5 S6 => (chk (decide (¬ (60 : Int64) = 0)) (some (((x4 * (r5).toInt64) / (60 : Int64)), S6))))) else (if (gA S4 4 (x1).toNatClampNeg) = 1 then (some (x4, S4)) else (if (gA S4 4 (x1).toNatClampNeg) = 2 then (chk (inB x1 30) (chk (inB x1 30) (bnd (f_X2_termValue (gA S4 8 (x1).toNatClampNeg) x3 S4) fun r7 S8 => (bnd (f_X2_isSeen (gA S4 6 (x1).toNatClampNeg) r3 r7 S8) fun r9 S10 => (if r9 = 0 then (some ((0 : Int64), S10)) else (some (x4, S10))))))) else (if (gA S4 4 (x1).toNatClampNeg) = 3 then (some ((x4 * (r3).toInt64), S4)) else (some (x4, S4)))))))))))
set_option maxRecDepth 100000 in
set_option maxHeartbeats 4000000 in
theorem w_X2_massBehind (X : Cx) (x1 : Int32) (x2 : Int32) (x3 : Int32) (x4 : Int64) (S : St) : KJ X (cX2_massBehind, RX2, 7, 3, (some .long)) wlC jL 0 [some (.ref (xa X 1)), some (.int x1), some (.int x2), some (.int x3), some (.long x4), none, none] [] S (f_X2_massBehind x1 x2 x3 x4 S) := by
  unfold f_X2_massBehind
  refine k_aload_n dX2_massBehind_0 rfl ?_
  refine k_iload_n dX2_massBehind_1 rfl ?_
  refine k_cv1i wadC lkX2_65 obX2 (m_X2_isStep _ _) (by decide) (Nat.le_of_ble_eq_true rfl) dX2_massBehind_2 (fun r1 S2 => ?_)
  refine k_if_ne (tgt := 11) dX2_massBehind_5 (by decide) (fun _ => ?_) (fun _ => ?_)
  · refine k_aload_n dX2_massBehind_11 rfl ?_
    refine k_getR gX2_21 dX2_massBehind_12 ?_
    refine k_iload_n dX2_massBehind_15 rfl ?_
    refine k_iald aC_7 dX2_massBehind_16 ?_
    refine k_iload_n dX2_massBehind_17 rfl ?_
    refine k_cs2i wadC lkX2_104 (m_X2_termValue _ _ _) (by decide) (Nat.le_of_ble_eq_true rfl) dX2_massBehind_18 (fun r3 S4 => ?_)
    refine k_ist6 dX2_massBehind_21 (by decide) rfl ?_
    refine k_aload_n dX2_massBehind_23 rfl ?_
    refine k_getR gX2_9 dX2_massBehind_24 ?_
    refine k_to (pc' := 27) rfl ?_
    refine k_iload_n dX2_massBehind_27 rfl ?_
    refine k_iald aC_4 dX2_massBehind_28 ?_
    refine k_tin (tgt := 60) (v := 0) dX2_massBehind_29 (by decide) (by decide) rfl (by decide) (fun _ => ?_) (fun t0 => ?_)
    · refine k_lload dX2_massBehind_60 rfl ?_
      refine k_aload_n dX2_massBehind_62 rfl ?_
      refine k_aload_n dX2_massBehind_63 rfl ?_
      refine k_getR gX2_18 dX2_massBehind_64 ?_
      refine k_iload_n dX2_massBehind_67 rfl ?_
      refine k_iald aC_6 dX2_massBehind_68 ?_
      refine k_iload_n dX2_massBehind_69 rfl ?_
      refine k_cv2i wadC lkX2_75 obX2 (m_X2_weightOf _ _ _) (by decide) (Nat.le_of_ble_eq_true rfl) dX2_massBehind_70 (fun r5 S6 => ?_)
      refine k_i2l dX2_massBehind_73 ?_
      refine k_to (pc' := 74) rfl ?_
      refine k_lmul dX2_massBehind_74 ?_
      refine k_ldc2 dX2_massBehind_75 klX2_107 ?_
      refine k_ldiv dX2_massBehind_78 ?_
      exact k_lret dX2_massBehind_79
    refine k_tin (tgt := 118) (v := 1) dX2_massBehind_29 (by decide) (by decide) rfl (by decide) (fun _ => ?_) (fun t1 => ?_)
    · refine k_lload dX2_massBehind_118 rfl ?_
      exact k_lret dX2_massBehind_120
    refine k_tin (tgt := 80) (v := 2) dX2_massBehind_29 (by decide) (by decide) rfl (by decide) (fun _ => ?_) (fun t2 => ?_)
    · refine k_aload_n dX2_massBehind_80 rfl ?_
      refine k_getR gX2_18 dX2_massBehind_81 ?_
      refine k_iload_n dX2_massBehind_84 rfl ?_
      refine k_iald aC_6 dX2_massBehind_85 ?_
      refine k_iload dX2_massBehind_86 rfl ?_
      refine k_aload_n dX2_massBehind_88 rfl ?_
      refine k_getR gX2_24 dX2_massBehind_89 ?_
      refine k_iload_n dX2_massBehind_92 rfl ?_
      refine k_iald aC_8 dX2_massBehind_93 ?_
      refine k_to (pc' := 94) rfl ?_
      refine k_iload_n dX2_massBehind_94 rfl ?_
      refine k_cs2i wadC lkX2_104 (m_X2_termValue _ _ _) (by decide) (Nat.le_of_ble_eq_true rfl) dX2_massBehind_95 (fun r7 S8 => ?_)
      refine k_cs3i wadC lkX2_109 (m_X2_isSeen _ _ _ _) (by decide) (Nat.le_of_ble_eq_true rfl) dX2_massBehind_98 (fun r9 S10 => ?_)
      refine k_if_eq (tgt := 109) dX2_massBehind_101 (by decide) (fun _ => ?_) (fun _ => ?_)
      · refine k_lconst dX2_massBehind_109 cl_0 ?_
        exact k_lret dX2_massBehind_110
      · refine k_to (pc' := 104) rfl ?_
        refine k_lload dX2_massBehind_104 rfl ?_
        refine k_goto (tgt := 110) dX2_massBehind_106 (by decide) ?_
        exact k_lret dX2_massBehind_110
    refine k_tin (tgt := 111) (v := 3) dX2_massBehind_29 (by decide) (by decide) rfl (by decide) (fun _ => ?_) (fun t3 => ?_)
    · refine k_lload dX2_massBehind_111 rfl ?_
      refine k_iload dX2_massBehind_113 rfl ?_
      refine k_i2l dX2_massBehind_115 ?_
      refine k_lmul dX2_massBehind_116 ?_
      exact k_lret dX2_massBehind_117
    refine k_tout (tgt := 118) dX2_massBehind_29 (tsw_0_3 t0 t1 t2 t3) (by decide) ?_
    refine k_lload dX2_massBehind_118 rfl ?_
    exact k_lret dX2_massBehind_120
  · refine k_to (pc' := 8) rfl ?_
    refine k_lload dX2_massBehind_8 rfl ?_
    exact k_lret dX2_massBehind_10
theorem m_X2_massBehind {l : Launch} {D : va_G} {d : Dt} (x1 : Int32) (x2 : Int32) (x3 : Int32) (x4 : Int64) (S : St) : ∀ (r : Int64) (S' : St), f_X2_massBehind x1 x2 x3 x4 S = some (r, S') → Mt l D d wlC yX2_massBehind cX2_massBehind 7 (some .long) 3 [.ref (d.1 1), .int x1, .int x2, .int x3, .long x4] S (jL r) S' := Mt_of wadC (by decide) (Nat.le_of_ble_eq_true rfl) (fun X hL hd => by subst hd; exact w_X2_massBehind X x1 x2 x3 x4 S)
noncomputable def f_X2_isDraw (x1 : Int32) (S : St) : Option (Int32 × St) := (bnd (f_X2_isStep x1 S) fun r1 S2 => (if r1 = 0 then (some ((0 : Int32), S2)) else (chk (inB x1 30) (if (gA S2 4 (x1).toNatClampNeg) = 0 then (some ((1 : Int32), S2)) else (some ((0 : Int32), S2))))))
set_option maxRecDepth 100000 in
set_option maxHeartbeats 4000000 in
theorem w_X2_isDraw (X : Cx) (x1 : Int32) (S : St) : KJ X (cX2_isDraw, RX2, 2, 2, (some .boolean)) wlC jI 0 [some (.ref (xa X 1)), some (.int x1)] [] S (f_X2_isDraw x1 S) := by
  unfold f_X2_isDraw
  refine k_aload_n dX2_isDraw_0 rfl ?_
  refine k_iload_n dX2_isDraw_1 rfl ?_
  refine k_cv1i wadC lkX2_65 obX2 (m_X2_isStep _ _) (by decide) (Nat.le_of_ble_eq_true rfl) dX2_isDraw_2 (fun r1 S2 => ?_)
  refine k_if_eq (tgt := 21) dX2_isDraw_5 (by decide) (fun _ => ?_) (fun _ => ?_)
  · refine k_iconst dX2_isDraw_21 ci_0 ?_
    exact k_zret (Or.inl rfl) dX2_isDraw_22
  · refine k_to (pc' := 8) rfl ?_
    refine k_aload_n dX2_isDraw_8 rfl ?_
    refine k_getR gX2_9 dX2_isDraw_9 ?_
    refine k_iload_n dX2_isDraw_12 rfl ?_
    refine k_iald aC_4 dX2_isDraw_13 ?_
    refine k_if_ne (tgt := 21) dX2_isDraw_14 (by decide) (fun _ => ?_) (fun _ => ?_)
    · refine k_iconst dX2_isDraw_21 ci_0 ?_
      exact k_zret (Or.inl rfl) dX2_isDraw_22
    · refine k_to (pc' := 17) rfl ?_
      refine k_iconst dX2_isDraw_17 ci_1 ?_
      refine k_goto (tgt := 22) dX2_isDraw_18 (by decide) ?_
      exact k_zret (Or.inr rfl) dX2_isDraw_22
theorem m_X2_isDraw {l : Launch} {D : va_G} {d : Dt} (x1 : Int32) (S : St) : ∀ (r : Int32) (S' : St), f_X2_isDraw x1 S = some (r, S') → Mt l D d wlC yX2_isDraw cX2_isDraw 2 (some .boolean) 2 [.ref (d.1 1), .int x1] S (jI r) S' := Mt_of wadC (by decide) (Nat.le_of_ble_eq_true rfl) (fun X hL hd => by subst hd; exact w_X2_isDraw X x1 S)
noncomputable def f_X2_ways (x1 : Int32) (S : St) : Option (Int32 × St) := (bnd (f_X2_isDraw x1 S) fun r1 S2 => (if r1 = 0 then (some ((1 : Int32), S2)) else (some ((10 : Int32), S2))))
set_option maxRecDepth 100000 in
set_option maxHeartbeats 4000000 in
theorem w_X2_ways (X : Cx) (x1 : Int32) (S : St) : KJ X (cX2_ways, RX2, 2, 3, (some .int)) wlC jI 0 [some (.ref (xa X 1)), some (.int x1)] [] S (f_X2_ways x1 S) := by
  unfold f_X2_ways
  refine k_aload_n dX2_ways_0 rfl ?_
  refine k_iload_n dX2_ways_1 rfl ?_
  refine k_cv1i wadC lkX2_68 obX2 (m_X2_isDraw _ _) (by decide) (Nat.le_of_ble_eq_true rfl) dX2_ways_2 (fun r1 S2 => ?_)
  refine k_if_eq (tgt := 13) dX2_ways_5 (by decide) (fun _ => ?_) (fun _ => ?_)
  · refine k_iconst dX2_ways_13 ci_1 ?_
    exact k_iret dX2_ways_14
  · refine k_to (pc' := 8) rfl ?_
    refine k_bipush dX2_ways_8 cb_10 ?_
    refine k_goto (tgt := 14) dX2_ways_10 (by decide) ?_
    exact k_iret dX2_ways_14
theorem m_X2_ways {l : Launch} {D : va_G} {d : Dt} (x1 : Int32) (S : St) : ∀ (r : Int32) (S' : St), f_X2_ways x1 S = some (r, S') → Mt l D d wlC yX2_ways cX2_ways 2 (some .int) 3 [.ref (d.1 1), .int x1] S (jI r) S' := Mt_of wadC (by decide) (Nat.le_of_ble_eq_true rfl) (fun X hL hd => by subst hd; exact w_X2_ways X x1 S)
noncomputable def f_X2_placeBehind (x1 : Int32) (x2 : Int32) (S : St) : Option (Int32 × St) := (bnd (f_X2_isStep x1 S) fun r1 S2 => (if r1 = 0 then (some ((x1 + (1 : Int32)), S2)) else (chk (inB x1 30) (if (gA S2 4 (x1).toNatClampNeg) = (4 : Int32) then (chk (inB x1 30) (bnd (f_X2_termValue (gA S2 7 (x1).toNatClampNeg) x2 S2) fun r3 S4 => (if r3 = 0 then (bnd (f_X2_placeSkippedTo x1 S4) fun r5 S6 => (some (r5, S6))) else (some ((x1 + (1 : Int32)), S4))))) else (some ((x1 + (1 : Int32)), S2))))))
set_option maxRecDepth 100000 in
set_option maxHeartbeats 4000000 in
theorem w_X2_placeBehind (X : Cx) (x1 : Int32) (x2 : Int32) (S : St) : KJ X (cX2_placeBehind, RX2, 3, 3, (some .int)) wlC jI 0 [some (.ref (xa X 1)), some (.int x1), some (.int x2)] [] S (f_X2_placeBehind x1 x2 S) := by
  unfold f_X2_placeBehind
  refine k_aload_n dX2_placeBehind_0 rfl ?_
  refine k_iload_n dX2_placeBehind_1 rfl ?_
  refine k_cv1i wadC lkX2_65 obX2 (m_X2_isStep _ _) (by decide) (Nat.le_of_ble_eq_true rfl) dX2_placeBehind_2 (fun r1 S2 => ?_)
  refine k_if_eq (tgt := 37) dX2_placeBehind_5 (by decide) (fun _ => ?_) (fun _ => ?_)
  · refine k_iload_n dX2_placeBehind_37 rfl ?_
    refine k_iconst dX2_placeBehind_38 ci_1 ?_
    refine k_iadd dX2_placeBehind_39 ?_
    exact k_iret dX2_placeBehind_40
  · refine k_to (pc' := 8) rfl ?_
    refine k_aload_n dX2_placeBehind_8 rfl ?_
    refine k_getR gX2_9 dX2_placeBehind_9 ?_
    refine k_iload_n dX2_placeBehind_12 rfl ?_
    refine k_iald aC_4 dX2_placeBehind_13 ?_
    refine k_iconst dX2_placeBehind_14 ci_4 ?_
    refine k_icmp_ne (tgt := 37) dX2_placeBehind_15 (by decide) (fun _ => ?_) (fun _ => ?_)
    · refine k_iload_n dX2_placeBehind_37 rfl ?_
      refine k_iconst dX2_placeBehind_38 ci_1 ?_
      refine k_iadd dX2_placeBehind_39 ?_
      exact k_iret dX2_placeBehind_40
    · refine k_to (pc' := 18) rfl ?_
      refine k_aload_n dX2_placeBehind_18 rfl ?_
      refine k_getR gX2_21 dX2_placeBehind_19 ?_
      refine k_iload_n dX2_placeBehind_22 rfl ?_
      refine k_iald aC_7 dX2_placeBehind_23 ?_
      refine k_iload_n dX2_placeBehind_24 rfl ?_
      refine k_cs2i wadC lkX2_104 (m_X2_termValue _ _ _) (by decide) (Nat.le_of_ble_eq_true rfl) dX2_placeBehind_25 (fun r3 S4 => ?_)
      refine k_if_ne (tgt := 37) dX2_placeBehind_28 (by decide) (fun _ => ?_) (fun _ => ?_)
      · refine k_iload_n dX2_placeBehind_37 rfl ?_
        refine k_iconst dX2_placeBehind_38 ci_1 ?_
        refine k_iadd dX2_placeBehind_39 ?_
        exact k_iret dX2_placeBehind_40
      · refine k_to (pc' := 31) rfl ?_
        refine k_aload_n dX2_placeBehind_31 rfl ?_
        refine k_iload_n dX2_placeBehind_32 rfl ?_
        refine k_cv1i wadC lkX2_85 obX2 (m_X2_placeSkippedTo _ _) (by decide) (Nat.le_of_ble_eq_true rfl) dX2_placeBehind_33 (fun r5 S6 => ?_)
        exact k_iret dX2_placeBehind_36
theorem m_X2_placeBehind {l : Launch} {D : va_G} {d : Dt} (x1 : Int32) (x2 : Int32) (S : St) : ∀ (r : Int32) (S' : St), f_X2_placeBehind x1 x2 S = some (r, S') → Mt l D d wlC yX2_placeBehind cX2_placeBehind 3 (some .int) 3 [.ref (d.1 1), .int x1, .int x2] S (jI r) S' := Mt_of wadC (by decide) (Nat.le_of_ble_eq_true rfl) (fun X hL hd => by subst hd; exact w_X2_placeBehind X x1 x2 S)
noncomputable def lp_X2_reset_29 (x1 : Int32) (k22 : Int32 → St → Option (Unit × St)) : Nat → Int32 → St → Option (Unit × St)
  | 0, _, _ => none
  | n + 1, x2, S => (if (10 : Int32) ≤ x2 then (k22 (x1 + (1 : Int32)) S) else (chk (inB x1 4) (if x2 = 0 then (chk (inB x2 10) (nxt (sA S (19 + (x1).toNatClampNeg) (upd (gA S (19 + (x1).toNatClampNeg)) (x2).toNatClampNeg (60 : Int32))) fun S7 => (lp_X2_reset_29 x1 k22 n (x2 + (1 : Int32)) S7))) else (chk (inB x2 10) (nxt (sA S (19 + (x1).toNatClampNeg) (upd (gA S (19 + (x1).toNatClampNeg)) (x2).toNatClampNeg (0 : Int32))) fun S6 => (lp_X2_reset_29 x1 k22 n (x2 + (1 : Int32)) S6))))))
set_option maxRecDepth 100000 in
set_option maxHeartbeats 4000000 in
theorem wlp_X2_reset_29 (X : Cx) (x1 : Int32) (k22 : Int32 → St → Option (Unit × St)) (hk22 : ∀ (x1 : Int32) (S : St), KJ X (cX2_reset, RX2, 3, 1, none) wlC jV 22 [some (.ref (xa X 1)), some (.int x1), none] [] S (k22 x1 S)) : ∀ (n : Nat) (x2 : Int32) (S : St), KJ X (cX2_reset, RX2, 3, 1, none) wlC jV 29 [some (.ref (xa X 1)), some (.int x1), some (.int x2)] [] S (lp_X2_reset_29 x1 k22 n x2 S) := by
  intro n
  induction n with
  | zero => intro x2 S; rw [lp_X2_reset_29]; exact k_none
  | succ n ih =>
    intro x2 S
    rw [lp_X2_reset_29]
    refine k_iload_n dX2_reset_29 rfl ?_
    refine k_bipush dX2_reset_30 cb_10 ?_
    refine k_icmp_ge (tgt := 59) dX2_reset_32 (by decide) (fun _ => ?_) (fun _ => ?_)
    · refine k_inc1 dX2_reset_59 ci_1 (by decide) rfl ?_
      refine k_goto (tgt := 22) dX2_reset_62 (by decide) ?_
      refine k_to (pc' := 22) rfl ?_
      exact k_weak (hk22 _ _) (And.intro rfl (And.intro rfl True.intro))
    · refine k_to (pc' := 35) rfl ?_
      refine k_aload_n dX2_reset_35 rfl ?_
      refine k_getR gX2_29 dX2_reset_36 ?_
      refine k_iload_n dX2_reset_39 rfl ?_
      refine k_aald arC_9 dX2_reset_40 (fun h5 => ?_)
      refine k_iload_n dX2_reset_41 rfl ?_
      refine k_iload_n dX2_reset_42 rfl ?_
      refine k_if_ne (tgt := 51) dX2_reset_43 (by decide) (fun _ => ?_) (fun _ => ?_)
      · refine k_iconst dX2_reset_51 ci_0 ?_
        refine k_iast (roC_9 h5) dX2_reset_52 ?_
        refine k_nxt ?_
        refine k_inc2 dX2_reset_53 ci_1 (by decide) rfl ?_
        refine k_goto (tgt := 29) dX2_reset_56 (by decide) ?_
        refine k_to (pc' := 29) rfl ?_
        exact k_weak (ih _ _) (And.intro rfl (And.intro rfl (And.intro rfl True.intro)))
      · refine k_to (pc' := 46) rfl ?_
        refine k_bipush dX2_reset_46 cb_60 ?_
        refine k_goto (tgt := 52) dX2_reset_48 (by decide) ?_
        refine k_iast (roC_9 h5) dX2_reset_52 ?_
        refine k_nxt ?_
        refine k_inc2 dX2_reset_53 ci_1 (by decide) rfl ?_
        refine k_goto (tgt := 29) dX2_reset_56 (by decide) ?_
        refine k_to (pc' := 29) rfl ?_
        exact k_weak (ih _ _) (And.intro rfl (And.intro rfl (And.intro rfl True.intro)))
noncomputable def lp_X2_reset_22 : Nat → Int32 → St → Option (Unit × St)
  | 0, _, _ => none
  | n + 1, x1, S => (if (4 : Int32) ≤ x1 then (some ((), S)) else (lp_X2_reset_29 x1 (lp_X2_reset_22 n) FU (0 : Int32) S))
set_option maxRecDepth 100000 in
set_option maxHeartbeats 4000000 in
theorem wlp_X2_reset_22 (X : Cx) : ∀ (n : Nat) (x1 : Int32) (S : St), KJ X (cX2_reset, RX2, 3, 1, none) wlC jV 22 [some (.ref (xa X 1)), some (.int x1), none] [] S (lp_X2_reset_22 n x1 S) := by
  intro n
  induction n with
  | zero => intro x1 S; rw [lp_X2_reset_22]; exact k_none
  | succ n ih =>
    intro x1 S
    rw [lp_X2_reset_22]
    refine k_iload_n dX2_reset_22 rfl ?_
    refine k_iconst dX2_reset_23 ci_4 ?_
    refine k_icmp_ge (tgt := 65) dX2_reset_24 (by decide) (fun _ => ?_) (fun _ => ?_)
    · exact k_vret dX2_reset_65
    · refine k_to (pc' := 27) rfl ?_
      refine k_iconst dX2_reset_27 ci_0 ?_
      refine k_ist_n2 dX2_reset_28 (by decide) rfl ?_
      refine k_to (pc' := 29) rfl ?_
      exact k_weak (wlp_X2_reset_29 X _ _ ih FU _ _) (And.intro rfl (And.intro rfl (And.intro rfl True.intro)))
noncomputable def f_X2_reset (S : St) : Option (Unit × St) := (nxt (sI S 208 (0 : Int32)) fun S1 => (nxt (sI S1 209 (0 : Int32)) fun S2 => (nxt (sI S2 210 (0 : Int32)) fun S3 => (nxt (sI S3 207 (0 : Int32)) fun S4 => (lp_X2_reset_22 FU (0 : Int32) S4)))))
set_option maxRecDepth 100000 in
set_option maxHeartbeats 4000000 in
theorem w_X2_reset (X : Cx) (S : St) : KJ X (cX2_reset, RX2, 3, 1, none) wlC jV 0 [some (.ref (xa X 1)), none, none] [] S (f_X2_reset S) := by
  unfold f_X2_reset
  refine k_aload_n dX2_reset_0 rfl ?_
  refine k_iconst dX2_reset_1 ci_0 ?_
  refine k_putI pX2_38 dX2_reset_2 ?_
  refine k_nxt ?_
  refine k_aload_n dX2_reset_5 rfl ?_
  refine k_iconst dX2_reset_6 ci_0 ?_
  refine k_putI pX2_42 dX2_reset_7 ?_
  refine k_nxt ?_
  refine k_aload_n dX2_reset_10 rfl ?_
  refine k_iconst dX2_reset_11 ci_0 ?_
  refine k_putI pX2_45 dX2_reset_12 ?_
  refine k_nxt ?_
  refine k_to (pc' := 15) rfl ?_
  refine k_aload_n dX2_reset_15 rfl ?_
  refine k_iconst dX2_reset_16 ci_0 ?_
  refine k_putI pX2_48 dX2_reset_17 ?_
  refine k_nxt ?_
  refine k_iconst dX2_reset_20 ci_0 ?_
  refine k_ist_n1 dX2_reset_21 (by decide) rfl ?_
  refine k_to (pc' := 22) rfl ?_
  exact k_weak (wlp_X2_reset_22 X FU _ _) (And.intro rfl (And.intro rfl True.intro))
theorem m_X2_reset {l : Launch} {D : va_G} {d : Dt} (S : St) : ∀ (r : Unit) (S' : St), f_X2_reset S = some (r, S') → Mt l D d wlC yX2_reset cX2_reset 3 none 1 [.ref (d.1 1)] S (jV r) S' := Mt_of wadC (by decide) (Nat.le_of_ble_eq_true rfl) (fun X hL hd => by subst hd; exact w_X2_reset X S)
noncomputable def f_X2_swapWeight (x1 : Int32) (x2 : Int32) (x3 : Int32) (S : St) : Option (Int32 × St) := (bnd (f_X4_isRow x1 S) fun r1 S2 => (if r1 = 0 then (some ((-1 : Int32), S2)) else (bnd (f_X4_isValue x2 S2) fun r3 S4 => (if r3 = 0 then (some ((-1 : Int32), S4)) else (chk (inB x1 4) (chk (inB x2 10) (nxt (gA S4 (19 + (x1).toNatClampNeg) (x2).toNatClampNeg) fun y6 => (chk (inB x1 4) (chk (inB x2 10) (nxt (sA S4 (19 + (x1).toNatClampNeg) (upd (gA S4 (19 + (x1).toNatClampNeg)) (x2).toNatClampNeg x3)) fun S8 => (some (y6, S8))))))))))))
set_option maxRecDepth 100000 in
set_option maxHeartbeats 4000000 in
theorem w_X2_swapWeight (X : Cx) (x1 : Int32) (x2 : Int32) (x3 : Int32) (S : St) : KJ X (cX2_swapWeight, RX2, 5, 2, (some .int)) wlC jI 0 [some (.ref (xa X 1)), some (.int x1), some (.int x2), some (.int x3), none] [] S (f_X2_swapWeight x1 x2 x3 S) := by
  unfold f_X2_swapWeight
  refine k_iload_n dX2_swapWeight_0 rfl ?_
  refine k_cs1i wadC lkX2_51 (m_X4_isRow _ _) (by decide) (Nat.le_of_ble_eq_true rfl) dX2_swapWeight_1 (fun r1 S2 => ?_)
  refine k_if_eq (tgt := 14) dX2_swapWeight_4 (by decide) (fun _ => ?_) (fun _ => ?_)
  · refine k_iconst dX2_swapWeight_14 ci_m1 ?_
    exact k_iret dX2_swapWeight_15
  · refine k_to (pc' := 7) rfl ?_
    refine k_iload_n dX2_swapWeight_7 rfl ?_
    refine k_cs1i wadC lkX2_55 (m_X4_isValue _ _) (by decide) (Nat.le_of_ble_eq_true rfl) dX2_swapWeight_8 (fun r3 S4 => ?_)
    refine k_if_ne (tgt := 16) dX2_swapWeight_11 (by decide) (fun _ => ?_) (fun _ => ?_)
    · refine k_aload_n dX2_swapWeight_16 rfl ?_
      refine k_getR gX2_29 dX2_swapWeight_17 ?_
      refine k_iload_n dX2_swapWeight_20 rfl ?_
      refine k_aald arC_9 dX2_swapWeight_21 (fun h5 => ?_)
      refine k_iload_n dX2_swapWeight_22 rfl ?_
      refine k_iald (roC_9 h5) dX2_swapWeight_23 ?_
      refine k_ist4 dX2_swapWeight_24 (by decide) rfl ?_
      refine k_nxt ?_
      refine k_aload_n dX2_swapWeight_26 rfl ?_
      refine k_getR gX2_29 dX2_swapWeight_27 ?_
      refine k_to (pc' := 30) rfl ?_
      refine k_iload_n dX2_swapWeight_30 rfl ?_
      refine k_aald arC_9 dX2_swapWeight_31 (fun h7 => ?_)
      refine k_iload_n dX2_swapWeight_32 rfl ?_
      refine k_iload_n dX2_swapWeight_33 rfl ?_
      refine k_iast (roC_9 h7) dX2_swapWeight_34 ?_
      refine k_nxt ?_
      refine k_iload dX2_swapWeight_35 rfl ?_
      exact k_iret dX2_swapWeight_37
    · refine k_to (pc' := 14) rfl ?_
      refine k_iconst dX2_swapWeight_14 ci_m1 ?_
      exact k_iret dX2_swapWeight_15
theorem m_X2_swapWeight {l : Launch} {D : va_G} {d : Dt} (x1 : Int32) (x2 : Int32) (x3 : Int32) (S : St) : ∀ (r : Int32) (S' : St), f_X2_swapWeight x1 x2 x3 S = some (r, S') → Mt l D d wlC yX2_swapWeight cX2_swapWeight 5 (some .int) 2 [.ref (d.1 1), .int x1, .int x2, .int x3] S (jI r) S' := Mt_of wadC (by decide) (Nat.le_of_ble_eq_true rfl) (fun X hL hd => by subst hd; exact w_X2_swapWeight X x1 x2 x3 S)
noncomputable def f_X2_isAsked (x1 : Int32) (S : St) : Option (Int32 × St) := (if ((gI S 207) &&& ((1 : Int32) <<< (x1 &&& 31))) = 0 then (some ((0 : Int32), S)) else (some ((1 : Int32), S)))
set_option maxRecDepth 100000 in
set_option maxHeartbeats 4000000 in
theorem w_X2_isAsked (X : Cx) (x1 : Int32) (S : St) : KJ X (cX2_isAsked, RX2, 2, 1, (some .boolean)) wlC jI 0 [some (.ref (xa X 1)), some (.int x1)] [] S (f_X2_isAsked x1 S) := by
  unfold f_X2_isAsked
  refine k_aload_n dX2_isAsked_0 rfl ?_
  refine k_getI gX2_48 dX2_isAsked_1 ?_
  refine k_iconst dX2_isAsked_4 ci_1 ?_
  refine k_iload_n dX2_isAsked_5 rfl ?_
  refine k_ishl dX2_isAsked_6 ?_
  refine k_iand dX2_isAsked_7 ?_
  refine k_if_eq (tgt := 15) dX2_isAsked_8 (by decide) (fun _ => ?_) (fun _ => ?_)
  · refine k_iconst dX2_isAsked_15 ci_0 ?_
    exact k_zret (Or.inl rfl) dX2_isAsked_16
  · refine k_to (pc' := 11) rfl ?_
    refine k_iconst dX2_isAsked_11 ci_1 ?_
    refine k_goto (tgt := 16) dX2_isAsked_12 (by decide) ?_
    exact k_zret (Or.inr rfl) dX2_isAsked_16
theorem m_X2_isAsked {l : Launch} {D : va_G} {d : Dt} (x1 : Int32) (S : St) : ∀ (r : Int32) (S' : St), f_X2_isAsked x1 S = some (r, S') → Mt l D d wlC yX2_isAsked cX2_isAsked 2 (some .boolean) 1 [.ref (d.1 1), .int x1] S (jI r) S' := Mt_of wadC (by decide) (Nat.le_of_ble_eq_true rfl) (fun X hL hd => by subst hd; exact w_X2_isAsked X x1 S)
noncomputable def f_X2_swapAsked (x1 : Int32) (x2 : Int32) (S : St) : Option (Int32 × St) := (bnd (f_X2_isAsked x1 S) fun r1 S2 => (if x2 = 0 then (nxt (sI S2 207 ((gI S2 207) &&& (((1 : Int32) <<< (x1 &&& 31)) ^^^ (-1 : Int32)))) fun S3 => (chk (isB r1) (some (r1, S3)))) else (nxt (sI S2 207 ((gI S2 207) ||| ((1 : Int32) <<< (x1 &&& 31)))) fun S4 => (chk (isB r1) (some (r1, S4))))))
set_option maxRecDepth 100000 in
set_option maxHeartbeats 4000000 in
theorem w_X2_swapAsked (X : Cx) (x1 : Int32) (x2 : Int32) (S : St) : KJ X (cX2_swapAsked, RX2, 4, 2, (some .boolean)) wlC jI 0 [some (.ref (xa X 1)), some (.int x1), some (.int x2), none] [] S (f_X2_swapAsked x1 x2 S) := by
  unfold f_X2_swapAsked
  refine k_aload_n dX2_swapAsked_0 rfl ?_
  refine k_iload_n dX2_swapAsked_1 rfl ?_
  refine k_cv1i wadC lkX2_58 obX2 (m_X2_isAsked _ _) (by decide) (Nat.le_of_ble_eq_true rfl) dX2_swapAsked_2 (fun r1 S2 => ?_)
  refine k_ist_n3 dX2_swapAsked_5 (by decide) rfl ?_
  refine k_aload_n dX2_swapAsked_6 rfl ?_
  refine k_iload_n dX2_swapAsked_7 rfl ?_
  refine k_if_eq (tgt := 22) dX2_swapAsked_8 (by decide) (fun _ => ?_) (fun _ => ?_)
  · refine k_aload_n dX2_swapAsked_22 rfl ?_
    refine k_getI gX2_48 dX2_swapAsked_23 ?_
    refine k_iconst dX2_swapAsked_26 ci_1 ?_
    refine k_iload_n dX2_swapAsked_27 rfl ?_
    refine k_ishl dX2_swapAsked_28 ?_
    refine k_iconst dX2_swapAsked_29 ci_m1 ?_
    refine k_ixor dX2_swapAsked_30 ?_
    refine k_iand dX2_swapAsked_31 ?_
    refine k_putI pX2_48 dX2_swapAsked_32 ?_
    refine k_nxt ?_
    refine k_to (pc' := 35) rfl ?_
    refine k_iload_n dX2_swapAsked_35 rfl ?_
    exact k_zretB dX2_swapAsked_36
  · refine k_to (pc' := 11) rfl ?_
    refine k_aload_n dX2_swapAsked_11 rfl ?_
    refine k_getI gX2_48 dX2_swapAsked_12 ?_
    refine k_iconst dX2_swapAsked_15 ci_1 ?_
    refine k_iload_n dX2_swapAsked_16 rfl ?_
    refine k_ishl dX2_swapAsked_17 ?_
    refine k_ior dX2_swapAsked_18 ?_
    refine k_goto (tgt := 32) dX2_swapAsked_19 (by decide) ?_
    refine k_putI pX2_48 dX2_swapAsked_32 ?_
    refine k_nxt ?_
    refine k_iload_n dX2_swapAsked_35 rfl ?_
    refine k_to (pc' := 36) rfl ?_
    exact k_zretB dX2_swapAsked_36
theorem m_X2_swapAsked {l : Launch} {D : va_G} {d : Dt} (x1 : Int32) (x2 : Int32) (S : St) : ∀ (r : Int32) (S' : St), f_X2_swapAsked x1 x2 S = some (r, S') → Mt l D d wlC yX2_swapAsked cX2_swapAsked 4 (some .boolean) 2 [.ref (d.1 1), .int x1, .int x2] S (jI r) S' := Mt_of wadC (by decide) (Nat.le_of_ble_eq_true rfl) (fun X hL hd => by subst hd; exact w_X2_swapAsked X x1 x2 S)
noncomputable def f_X2_isFullFor (x1 : Int32) (S : St) : Option (Int32 × St) := (if (30 : Int32) ≤ (gI S 208) then (some ((1 : Int32), S)) else (if x1 = 0 then (if (8 : Int32) ≤ (gI S 209) then (some ((1 : Int32), S)) else (if x1 = (3 : Int32) then (if (gI S 210) < (3 : Int32) then (some ((0 : Int32), S)) else (some ((1 : Int32), S))) else (some ((0 : Int32), S)))) else (if x1 = (3 : Int32) then (if (gI S 210) < (3 : Int32) then (some ((0 : Int32), S)) else (some ((1 : Int32), S))) else (some ((0 : Int32), S)))))
set_option maxRecDepth 100000 in
set_option maxHeartbeats 4000000 in
theorem w_X2_isFullFor (X : Cx) (x1 : Int32) (S : St) : KJ X (cX2_isFullFor, RX2, 2, 1, (some .boolean)) wlC jI 0 [some (.ref (xa X 1)), some (.int x1)] [] S (f_X2_isFullFor x1 S) := by
  unfold f_X2_isFullFor
  refine k_aload_n dX2_isFullFor_0 rfl ?_
  refine k_getI gX2_38 dX2_isFullFor_1 ?_
  refine k_bipush dX2_isFullFor_4 cb_30 ?_
  refine k_icmp_ge (tgt := 35) dX2_isFullFor_6 (by decide) (fun _ => ?_) (fun _ => ?_)
  · refine k_iconst dX2_isFullFor_35 ci_1 ?_
    refine k_goto (tgt := 40) dX2_isFullFor_36 (by decide) ?_
    exact k_zret (Or.inr rfl) dX2_isFullFor_40
  · refine k_to (pc' := 9) rfl ?_
    refine k_iload_n dX2_isFullFor_9 rfl ?_
    refine k_if_ne (tgt := 22) dX2_isFullFor_10 (by decide) (fun _ => ?_) (fun _ => ?_)
    · refine k_iload_n dX2_isFullFor_22 rfl ?_
      refine k_iconst dX2_isFullFor_23 ci_3 ?_
      refine k_icmp_ne (tgt := 39) dX2_isFullFor_24 (by decide) (fun _ => ?_) (fun _ => ?_)
      · refine k_iconst dX2_isFullFor_39 ci_0 ?_
        exact k_zret (Or.inl rfl) dX2_isFullFor_40
      · refine k_to (pc' := 27) rfl ?_
        refine k_aload_n dX2_isFullFor_27 rfl ?_
        refine k_getI gX2_45 dX2_isFullFor_28 ?_
        refine k_iconst dX2_isFullFor_31 ci_3 ?_
        refine k_icmp_lt (tgt := 39) dX2_isFullFor_32 (by decide) (fun _ => ?_) (fun _ => ?_)
        · refine k_iconst dX2_isFullFor_39 ci_0 ?_
          exact k_zret (Or.inl rfl) dX2_isFullFor_40
        · refine k_to (pc' := 35) rfl ?_
          refine k_iconst dX2_isFullFor_35 ci_1 ?_
          refine k_goto (tgt := 40) dX2_isFullFor_36 (by decide) ?_
          exact k_zret (Or.inr rfl) dX2_isFullFor_40
    · refine k_to (pc' := 13) rfl ?_
      refine k_aload_n dX2_isFullFor_13 rfl ?_
      refine k_getI gX2_42 dX2_isFullFor_14 ?_
      refine k_bipush dX2_isFullFor_17 cb_8 ?_
      refine k_icmp_ge (tgt := 35) dX2_isFullFor_19 (by decide) (fun _ => ?_) (fun _ => ?_)
      · refine k_iconst dX2_isFullFor_35 ci_1 ?_
        refine k_goto (tgt := 40) dX2_isFullFor_36 (by decide) ?_
        exact k_zret (Or.inr rfl) dX2_isFullFor_40
      · refine k_to (pc' := 22) rfl ?_
        refine k_iload_n dX2_isFullFor_22 rfl ?_
        refine k_iconst dX2_isFullFor_23 ci_3 ?_
        refine k_icmp_ne (tgt := 39) dX2_isFullFor_24 (by decide) (fun _ => ?_) (fun _ => ?_)
        · refine k_iconst dX2_isFullFor_39 ci_0 ?_
          exact k_zret (Or.inl rfl) dX2_isFullFor_40
        · refine k_to (pc' := 27) rfl ?_
          refine k_aload_n dX2_isFullFor_27 rfl ?_
          refine k_getI gX2_45 dX2_isFullFor_28 ?_
          refine k_iconst dX2_isFullFor_31 ci_3 ?_
          refine k_icmp_lt (tgt := 39) dX2_isFullFor_32 (by decide) (fun _ => ?_) (fun _ => ?_)
          · refine k_iconst dX2_isFullFor_39 ci_0 ?_
            exact k_zret (Or.inl rfl) dX2_isFullFor_40
          · refine k_to (pc' := 35) rfl ?_
            refine k_iconst dX2_isFullFor_35 ci_1 ?_
            refine k_goto (tgt := 40) dX2_isFullFor_36 (by decide) ?_
            exact k_zret (Or.inr rfl) dX2_isFullFor_40
theorem m_X2_isFullFor {l : Launch} {D : va_G} {d : Dt} (x1 : Int32) (S : St) : ∀ (r : Int32) (S' : St), f_X2_isFullFor x1 S = some (r, S') → Mt l D d wlC yX2_isFullFor cX2_isFullFor 2 (some .boolean) 1 [.ref (d.1 1), .int x1] S (jI r) S' := Mt_of wadC (by decide) (Nat.le_of_ble_eq_true rfl) (fun X hL hd => by subst hd; exact w_X2_isFullFor X x1 S)
noncomputable def f_X2_countKind (x1 : Int32) (x2 : Int32) (S : St) : Option (Unit × St) := (if x1 = 0 then (nxt (sI S 209 ((gI S 209) + x2)) fun S2 => (some ((), S2))) else (if x1 = (3 : Int32) then (nxt (sI S 210 ((gI S 210) + x2)) fun S1 => (some ((), S1))) else (some ((), S))))
set_option maxRecDepth 100000 in
set_option maxHeartbeats 4000000 in
theorem w_X2_countKind (X : Cx) (x1 : Int32) (x2 : Int32) (S : St) : KJ X (cX2_countKind, RX2, 3, 1, none) wlC jV 0 [some (.ref (xa X 1)), some (.int x1), some (.int x2)] [] S (f_X2_countKind x1 x2 S) := by
  unfold f_X2_countKind
  refine k_iload_n dX2_countKind_0 rfl ?_
  refine k_if_ne (tgt := 17) dX2_countKind_1 (by decide) (fun _ => ?_) (fun _ => ?_)
  · refine k_iload_n dX2_countKind_17 rfl ?_
    refine k_iconst dX2_countKind_18 ci_3 ?_
    refine k_icmp_ne (tgt := 32) dX2_countKind_19 (by decide) (fun _ => ?_) (fun _ => ?_)
    · exact k_vret dX2_countKind_32
    · refine k_to (pc' := 22) rfl ?_
      refine k_aload_n dX2_countKind_22 rfl ?_
      refine k_dup dX2_countKind_23 rfl ?_
      refine k_getI gX2_45 dX2_countKind_24 ?_
      refine k_iload_n dX2_countKind_27 rfl ?_
      refine k_iadd dX2_countKind_28 ?_
      refine k_putI pX2_45 dX2_countKind_29 ?_
      refine k_nxt ?_
      exact k_vret dX2_countKind_32
  · refine k_to (pc' := 4) rfl ?_
    refine k_aload_n dX2_countKind_4 rfl ?_
    refine k_dup dX2_countKind_5 rfl ?_
    refine k_getI gX2_42 dX2_countKind_6 ?_
    refine k_iload_n dX2_countKind_9 rfl ?_
    refine k_iadd dX2_countKind_10 ?_
    refine k_putI pX2_42 dX2_countKind_11 ?_
    refine k_nxt ?_
    refine k_goto (tgt := 32) dX2_countKind_14 (by decide) ?_
    exact k_vret dX2_countKind_32
theorem m_X2_countKind {l : Launch} {D : va_G} {d : Dt} (x1 : Int32) (x2 : Int32) (S : St) : ∀ (r : Unit) (S' : St), f_X2_countKind x1 x2 S = some (r, S') → Mt l D d wlC yX2_countKind cX2_countKind 3 none 1 [.ref (d.1 1), .int x1, .int x2] S (jV r) S' := Mt_of wadC (by decide) (Nat.le_of_ble_eq_true rfl) (fun X hL hd => by subst hd; exact w_X2_countKind X x1 x2 S)
noncomputable def f_X2_append (x1 : Int32) (x2 : Int32) (x3 : Int32) (x4 : Int32) (x5 : Int32) (S : St) : Option (Int32 × St) := (nxt (gI S 208) fun y1 => (if y1 < 0 then (some ((-2 : Int32), S)) else (if y1 < (30 : Int32) then (chk (inB y1 30) (nxt (sA S 4 (upd (gA S 4) (y1).toNatClampNeg x1)) fun S2 => (chk (inB y1 30) (nxt (sA S2 5 (upd (gA S2 5) (y1).toNatClampNeg x2)) fun S3 => (chk (inB y1 30) (nxt (sA S3 6 (upd (gA S3 6) (y1).toNatClampNeg x3)) fun S4 => (chk (inB y1 30) (nxt (sA S4 7 (upd (gA S4 7) (y1).toNatClampNeg x4)) fun S5 => (chk (inB y1 30) (nxt (sA S5 8 (upd (gA S5 8) (y1).toNatClampNeg x5)) fun S6 => (nxt (sI S6 208 (y1 + (1 : Int32))) fun S7 => (bnd (f_X2_countKind x1 (1 : Int32) S7) fun r8 S9 => (some (y1, S9)))))))))))))) else (some ((-2 : Int32), S)))))
set_option maxRecDepth 100000 in
set_option maxHeartbeats 4000000 in
theorem w_X2_append (X : Cx) (x1 : Int32) (x2 : Int32) (x3 : Int32) (x4 : Int32) (x5 : Int32) (S : St) : KJ X (cX2_append, RX2, 7, 2, (some .int)) wlC jI 0 [some (.ref (xa X 1)), some (.int x1), some (.int x2), some (.int x3), some (.int x4), some (.int x5), none] [] S (f_X2_append x1 x2 x3 x4 x5 S) := by
  unfold f_X2_append
  refine k_aload_n dX2_append_0 rfl ?_
  refine k_getI gX2_38 dX2_append_1 ?_
  refine k_ist6 dX2_append_4 (by decide) rfl ?_
  refine k_nxt ?_
  refine k_iload dX2_append_6 rfl ?_
  refine k_if_lt (tgt := 18) dX2_append_8 (by decide) (fun _ => ?_) (fun _ => ?_)
  · refine k_bipush dX2_append_18 cb_m2 ?_
    exact k_iret dX2_append_20
  · refine k_to (pc' := 11) rfl ?_
    refine k_iload dX2_append_11 rfl ?_
    refine k_bipush dX2_append_13 cb_30 ?_
    refine k_icmp_lt (tgt := 21) dX2_append_15 (by decide) (fun _ => ?_) (fun _ => ?_)
    · refine k_aload_n dX2_append_21 rfl ?_
      refine k_getR gX2_9 dX2_append_22 ?_
      refine k_iload dX2_append_25 rfl ?_
      refine k_iload_n dX2_append_27 rfl ?_
      refine k_iast aC_4 dX2_append_28 ?_
      refine k_nxt ?_
      refine k_aload_n dX2_append_29 rfl ?_
      refine k_getR gX2_15 dX2_append_30 ?_
      refine k_iload dX2_append_33 rfl ?_
      refine k_iload_n dX2_append_35 rfl ?_
      refine k_to (pc' := 36) rfl ?_
      refine k_iast aC_5 dX2_append_36 ?_
      refine k_nxt ?_
      refine k_aload_n dX2_append_37 rfl ?_
      refine k_getR gX2_18 dX2_append_38 ?_
      refine k_iload dX2_append_41 rfl ?_
      refine k_iload_n dX2_append_43 rfl ?_
      refine k_iast aC_6 dX2_append_44 ?_
      refine k_nxt ?_
      refine k_aload_n dX2_append_45 rfl ?_
      refine k_getR gX2_21 dX2_append_46 ?_
      refine k_iload dX2_append_49 rfl ?_
      refine k_iload dX2_append_51 rfl ?_
      refine k_to (pc' := 53) rfl ?_
      refine k_iast aC_7 dX2_append_53 ?_
      refine k_nxt ?_
      refine k_aload_n dX2_append_54 rfl ?_
      refine k_getR gX2_24 dX2_append_55 ?_
      refine k_iload dX2_append_58 rfl ?_
      refine k_iload dX2_append_60 rfl ?_
      refine k_iast aC_8 dX2_append_62 ?_
      refine k_nxt ?_
      refine k_aload_n dX2_append_63 rfl ?_
      refine k_iload dX2_append_64 rfl ?_
      refine k_iconst dX2_append_66 ci_1 ?_
      refine k_iadd dX2_append_67 ?_
      refine k_to (pc' := 68) rfl ?_
      refine k_putI pX2_38 dX2_append_68 ?_
      refine k_nxt ?_
      refine k_aload_n dX2_append_71 rfl ?_
      refine k_iload_n dX2_append_72 rfl ?_
      refine k_iconst dX2_append_73 ci_1 ?_
      refine k_cv2v wadC lkX2_61 obX2 (m_X2_countKind _ _ _) (by decide) (Nat.le_of_ble_eq_true rfl) dX2_append_74 (fun r8 S9 => ?_)
      refine k_iload dX2_append_77 rfl ?_
      exact k_iret dX2_append_79
    · refine k_to (pc' := 18) rfl ?_
      refine k_bipush dX2_append_18 cb_m2 ?_
      exact k_iret dX2_append_20
theorem m_X2_append {l : Launch} {D : va_G} {d : Dt} (x1 : Int32) (x2 : Int32) (x3 : Int32) (x4 : Int32) (x5 : Int32) (S : St) : ∀ (r : Int32) (S' : St), f_X2_append x1 x2 x3 x4 x5 S = some (r, S') → Mt l D d wlC yX2_append cX2_append 7 (some .int) 2 [.ref (d.1 1), .int x1, .int x2, .int x3, .int x4, .int x5] S (jI r) S' := Mt_of wadC (by decide) (Nat.le_of_ble_eq_true rfl) (fun X hL hd => by subst hd; exact w_X2_append X x1 x2 x3 x4 x5 S)
noncomputable def f_X2_removeLast (S : St) : Option (Int32 × St) := (nxt ((gI S 208) - (1 : Int32)) fun y1 => (bnd (f_X2_isStep y1 S) fun r2 S3 => (if r2 = 0 then (some ((-3 : Int32), S3)) else (chk (inB y1 30) (bnd (f_X2_countKind (gA S3 4 (y1).toNatClampNeg) (-1 : Int32) S3) fun r4 S5 => (nxt (sI S5 208 y1) fun S6 => (some (y1, S6))))))))
set_option maxRecDepth 100000 in
set_option maxHeartbeats 4000000 in
theorem w_X2_removeLast (X : Cx) (S : St) : KJ X (cX2_removeLast, RX2, 2, 2, (some .int)) wlC jI 0 [some (.ref (xa X 1)), none] [] S (f_X2_removeLast S) := by
  unfold f_X2_removeLast
  refine k_aload_n dX2_removeLast_0 rfl ?_
  refine k_getI gX2_38 dX2_removeLast_1 ?_
  refine k_iconst dX2_removeLast_4 ci_1 ?_
  refine k_isub dX2_removeLast_5 ?_
  refine k_ist_n1 dX2_removeLast_6 (by decide) rfl ?_
  refine k_nxt ?_
  refine k_aload_n dX2_removeLast_7 rfl ?_
  refine k_iload_n dX2_removeLast_8 rfl ?_
  refine k_cv1i wadC lkX2_65 obX2 (m_X2_isStep _ _) (by decide) (Nat.le_of_ble_eq_true rfl) dX2_removeLast_9 (fun r2 S3 => ?_)
  refine k_if_ne (tgt := 18) dX2_removeLast_12 (by decide) (fun _ => ?_) (fun _ => ?_)
  · refine k_aload_n dX2_removeLast_18 rfl ?_
    refine k_aload_n dX2_removeLast_19 rfl ?_
    refine k_getR gX2_9 dX2_removeLast_20 ?_
    refine k_iload_n dX2_removeLast_23 rfl ?_
    refine k_iald aC_4 dX2_removeLast_24 ?_
    refine k_iconst dX2_removeLast_25 ci_m1 ?_
    refine k_cv2v wadC lkX2_61 obX2 (m_X2_countKind _ _ _) (by decide) (Nat.le_of_ble_eq_true rfl) dX2_removeLast_26 (fun r4 S5 => ?_)
    refine k_aload_n dX2_removeLast_29 rfl ?_
    refine k_iload_n dX2_removeLast_30 rfl ?_
    refine k_to (pc' := 31) rfl ?_
    refine k_putI pX2_38 dX2_removeLast_31 ?_
    refine k_nxt ?_
    refine k_iload_n dX2_removeLast_34 rfl ?_
    exact k_iret dX2_removeLast_35
  · refine k_to (pc' := 15) rfl ?_
    refine k_bipush dX2_removeLast_15 cb_m3 ?_
    exact k_iret dX2_removeLast_17
theorem m_X2_removeLast {l : Launch} {D : va_G} {d : Dt} (S : St) : ∀ (r : Int32) (S' : St), f_X2_removeLast S = some (r, S') → Mt l D d wlC yX2_removeLast cX2_removeLast 2 (some .int) 2 [.ref (d.1 1)] S (jI r) S' := Mt_of wadC (by decide) (Nat.le_of_ble_eq_true rfl) (fun X hL hd => by subst hd; exact w_X2_removeLast X S)
noncomputable def lp_X2_rowTotal_4 (x1 : Int32) : Nat → Int32 → Int32 → St → Option (Int32 × St)
  | 0, _, _, _ => none
  | n + 1, x2, x3, S => (if (10 : Int32) ≤ x3 then (some (x2, S)) else (bnd (f_X2_weightOf x1 x3 S) fun r1 S2 => (nxt (x2 + r1) fun y3 => (lp_X2_rowTotal_4 x1 n y3 (x3 + (1 : Int32)) S2))))
set_option maxRecDepth 100000 in
set_option maxHeartbeats 4000000 in
theorem wlp_X2_rowTotal_4 (X : Cx) (x1 : Int32) : ∀ (n : Nat) (x2 : Int32) (x3 : Int32) (S : St), KJ X (cX2_rowTotal, RX2, 4, 3, (some .int)) wlC jI 4 [some (.ref (xa X 1)), some (.int x1), some (.int x2), some (.int x3)] [] S (lp_X2_rowTotal_4 x1 n x2 x3 S) := by
  intro n
  induction n with
  | zero => intro x2 x3 S; rw [lp_X2_rowTotal_4]; exact k_none
  | succ n ih =>
    intro x2 x3 S
    rw [lp_X2_rowTotal_4]
    refine k_iload_n dX2_rowTotal_4 rfl ?_
    refine k_bipush dX2_rowTotal_5 cb_10 ?_
    refine k_icmp_ge (tgt := 25) dX2_rowTotal_7 (by decide) (fun _ => ?_) (fun _ => ?_)
    · refine k_iload_n dX2_rowTotal_25 rfl ?_
      exact k_iret dX2_rowTotal_26
    · refine k_to (pc' := 10) rfl ?_
      refine k_iload_n dX2_rowTotal_10 rfl ?_
      refine k_aload_n dX2_rowTotal_11 rfl ?_
      refine k_iload_n dX2_rowTotal_12 rfl ?_
      refine k_iload_n dX2_rowTotal_13 rfl ?_
      refine k_cv2i wadC lkX2_75 obX2 (m_X2_weightOf _ _ _) (by decide) (Nat.le_of_ble_eq_true rfl) dX2_rowTotal_14 (fun r1 S2 => ?_)
      refine k_iadd dX2_rowTotal_17 ?_
      refine k_ist_n2 dX2_rowTotal_18 (by decide) rfl ?_
      refine k_nxt ?_
      refine k_inc3 dX2_rowTotal_19 ci_1 (by decide) rfl ?_
      refine k_goto (tgt := 4) dX2_rowTotal_22 (by decide) ?_
      refine k_to (pc' := 4) rfl ?_
      exact k_weak (ih _ _ _) (And.intro rfl (And.intro rfl (And.intro rfl (And.intro rfl True.intro))))
noncomputable def f_X2_rowTotal (x1 : Int32) (S : St) : Option (Int32 × St) := (lp_X2_rowTotal_4 x1 FU (0 : Int32) (0 : Int32) S)
set_option maxRecDepth 100000 in
set_option maxHeartbeats 4000000 in
theorem w_X2_rowTotal (X : Cx) (x1 : Int32) (S : St) : KJ X (cX2_rowTotal, RX2, 4, 3, (some .int)) wlC jI 0 [some (.ref (xa X 1)), some (.int x1), none, none] [] S (f_X2_rowTotal x1 S) := by
  unfold f_X2_rowTotal
  refine k_iconst dX2_rowTotal_0 ci_0 ?_
  refine k_ist_n2 dX2_rowTotal_1 (by decide) rfl ?_
  refine k_iconst dX2_rowTotal_2 ci_0 ?_
  refine k_ist_n3 dX2_rowTotal_3 (by decide) rfl ?_
  refine k_to (pc' := 4) rfl ?_
  exact k_weak (wlp_X2_rowTotal_4 X _ FU _ _ _) (And.intro rfl (And.intro rfl (And.intro rfl (And.intro rfl True.intro))))
theorem m_X2_rowTotal {l : Launch} {D : va_G} {d : Dt} (x1 : Int32) (S : St) : ∀ (r : Int32) (S' : St), f_X2_rowTotal x1 S = some (r, S') → Mt l D d wlC yX2_rowTotal cX2_rowTotal 4 (some .int) 3 [.ref (d.1 1), .int x1] S (jI r) S' := Mt_of wadC (by decide) (Nat.le_of_ble_eq_true rfl) (fun X hL hd => by subst hd; exact w_X2_rowTotal X x1 S)
noncomputable def lp_X2_isUneven_2 : Nat → Int32 → St → Option (Int32 × St)
  | 0, _, _ => none
  | n + 1, x1, S => (if (gI S 208) ≤ x1 then (some ((0 : Int32), S)) else (bnd (f_X2_isDraw x1 S) fun r1 S2 => (if r1 = 0 then (lp_X2_isUneven_2 n (x1 + (1 : Int32)) S2) else (chk (inB x1 30) (bnd (f_X2_rowTotal (gA S2 6 (x1).toNatClampNeg) S2) fun r3 S4 => (if r3 = (60 : Int32) then (lp_X2_isUneven_2 n (x1 + (1 : Int32)) S4) else (some ((1 : Int32), S4))))))))
set_option maxRecDepth 100000 in
set_option maxHeartbeats 4000000 in
theorem wlp_X2_isUneven_2 (X : Cx) : ∀ (n : Nat) (x1 : Int32) (S : St), KJ X (cX2_isUneven, RX2, 2, 4, (some .boolean)) wlC jI 2 [some (.ref (xa X 1)), some (.int x1)] [] S (lp_X2_isUneven_2 n x1 S) := by
  intro n
  induction n with
  | zero => intro x1 S; rw [lp_X2_isUneven_2]; exact k_none
  | succ n ih =>
    intro x1 S
    rw [lp_X2_isUneven_2]
    refine k_iload_n dX2_isUneven_2 rfl ?_
    refine k_aload_n dX2_isUneven_3 rfl ?_
    refine k_getI gX2_38 dX2_isUneven_4 ?_
    refine k_icmp_ge (tgt := 41) dX2_isUneven_7 (by decide) (fun _ => ?_) (fun _ => ?_)
    · refine k_iconst dX2_isUneven_41 ci_0 ?_
      exact k_zret (Or.inl rfl) dX2_isUneven_42
    · refine k_to (pc' := 10) rfl ?_
      refine k_aload_n dX2_isUneven_10 rfl ?_
      refine k_iload_n dX2_isUneven_11 rfl ?_
      refine k_cv1i wadC lkX2_68 obX2 (m_X2_isDraw _ _) (by decide) (Nat.le_of_ble_eq_true rfl) dX2_isUneven_12 (fun r1 S2 => ?_)
      refine k_if_eq (tgt := 35) dX2_isUneven_15 (by decide) (fun _ => ?_) (fun _ => ?_)
      · refine k_inc1 dX2_isUneven_35 ci_1 (by decide) rfl ?_
        refine k_goto (tgt := 2) dX2_isUneven_38 (by decide) ?_
        refine k_to (pc' := 2) rfl ?_
        exact k_weak (ih _ _) (And.intro rfl (And.intro rfl True.intro))
      · refine k_to (pc' := 18) rfl ?_
        refine k_aload_n dX2_isUneven_18 rfl ?_
        refine k_aload_n dX2_isUneven_19 rfl ?_
        refine k_getR gX2_18 dX2_isUneven_20 ?_
        refine k_iload_n dX2_isUneven_23 rfl ?_
        refine k_iald aC_6 dX2_isUneven_24 ?_
        refine k_cv1i wadC lkX2_71 obX2 (m_X2_rowTotal _ _) (by decide) (Nat.le_of_ble_eq_true rfl) dX2_isUneven_25 (fun r3 S4 => ?_)
        refine k_bipush dX2_isUneven_28 cb_60 ?_
        refine k_icmp_eq (tgt := 35) dX2_isUneven_30 (by decide) (fun _ => ?_) (fun _ => ?_)
        · refine k_inc1 dX2_isUneven_35 ci_1 (by decide) rfl ?_
          refine k_goto (tgt := 2) dX2_isUneven_38 (by decide) ?_
          refine k_to (pc' := 2) rfl ?_
          exact k_weak (ih _ _) (And.intro rfl (And.intro rfl True.intro))
        · refine k_to (pc' := 33) rfl ?_
          refine k_iconst dX2_isUneven_33 ci_1 ?_
          exact k_zret (Or.inr rfl) dX2_isUneven_34
noncomputable def f_X2_isUneven (S : St) : Option (Int32 × St) := (lp_X2_isUneven_2 FU (0 : Int32) S)
set_option maxRecDepth 100000 in
set_option maxHeartbeats 4000000 in
theorem w_X2_isUneven (X : Cx) (S : St) : KJ X (cX2_isUneven, RX2, 2, 4, (some .boolean)) wlC jI 0 [some (.ref (xa X 1)), none] [] S (f_X2_isUneven S) := by
  unfold f_X2_isUneven
  refine k_iconst dX2_isUneven_0 ci_0 ?_
  refine k_ist_n1 dX2_isUneven_1 (by decide) rfl ?_
  refine k_to (pc' := 2) rfl ?_
  exact k_weak (wlp_X2_isUneven_2 X FU _ _) (And.intro rfl (And.intro rfl True.intro))
theorem m_X2_isUneven {l : Launch} {D : va_G} {d : Dt} (S : St) : ∀ (r : Int32) (S' : St), f_X2_isUneven S = some (r, S') → Mt l D d wlC yX2_isUneven cX2_isUneven 2 (some .boolean) 4 [.ref (d.1 1)] S (jI r) S' := Mt_of wadC (by decide) (Nat.le_of_ble_eq_true rfl) (fun X hL hd => by subst hd; exact w_X2_isUneven X S)
