/-! ===== printed by gen.py out of the bytecode: functions and walks ===== -/

noncomputable def f_X1_end (S : St) : Option (Unit × St) := (nxt (sI S 108 (0 : Int32)) fun S1 => (some ((), S1)))
set_option maxRecDepth 100000 in
set_option maxHeartbeats 4000000 in
theorem w_X1_end (X : Cx) (S : St) : KJ X (cX1_end, RX1, 1, 1, none) wlC jV 0 [some (.ref (xa X 2))] [] S (f_X1_end S) := by
  unfold f_X1_end
  refine k_aload_n dX1_end_0 rfl ?_
  refine k_iconst dX1_end_1 ci_0 ?_
  refine k_putZ pX1_41 (Or.inl rfl) dX1_end_2 ?_
  refine k_nxt ?_
  exact k_vret dX1_end_5
theorem m_X1_end {l : Launch} {D : va_G} {d : Dt} (S : St) : ∀ (r : Unit) (S' : St), f_X1_end S = some (r, S') → Mt l D d wlC yX1_end cX1_end 1 none 1 [.ref (d.1 2)] S (jV r) S' := Mt_of wadC (by decide) (Nat.le_of_ble_eq_true rfl) (fun X hL hd => by subst hd; exact w_X1_end X S)
noncomputable def f_X1_insert (x1 : Int32) (x2 : Int32) (x3 : Int32) (x4 : Int64) (S : St) : Option (Unit × St) := (chk (inB x1 31) (nxt (gA S 14 (x1).toNatClampNeg) fun y1 => (if x2 < 0 then (some ((), S)) else (if y1 < x2 then (some ((), S)) else (if y1 < (200 : Int32) then (chk (inB x1 31) (chk (inB x1 31) (chk (cpB x2 (x2 + (1 : Int32)) (y1 - x2) 200 200) (nxt (sA S (23 + (x1).toNatClampNeg) (va_cpy (gA S (23 + (x1).toNatClampNeg)) (gA S (23 + (x1).toNatClampNeg)) (x2).toNatClampNeg ((x2 + (1 : Int32))).toNatClampNeg ((y1 - x2)).toNatClampNeg)) fun S4 => (chk (inB x1 31) (chk (inB x1 31) (chk (cpB x2 (x2 + (1 : Int32)) (y1 - x2) 200 200) (nxt (sB S4 (54 + (x1).toNatClampNeg) (va_cpy (gB S4 (54 + (x1).toNatClampNeg)) (gB S4 (54 + (x1).toNatClampNeg)) (x2).toNatClampNeg ((x2 + (1 : Int32))).toNatClampNeg ((y1 - x2)).toNatClampNeg)) fun S7 => (chk (inB x1 31) (chk (inB x2 200) (nxt (sA S7 (23 + (x1).toNatClampNeg) (upd (gA S7 (23 + (x1).toNatClampNeg)) (x2).toNatClampNeg x3)) fun S9 => (chk (inB x1 31) (chk (inB x2 200) (nxt (sB S9 (54 + (x1).toNatClampNeg) (vp_updL (gB S9 (54 + (x1).toNatClampNeg)) (x2).toNatClampNeg x4)) fun S11 => (chk (inB x1 31) (nxt (sA S11 14 (upd (gA S11 14) (x1).toNatClampNeg (y1 + (1 : Int32)))) fun S12 => (some ((), S12)))))))))))))))))) else (some ((), S)))))))
set_option maxRecDepth 100000 in
set_option maxHeartbeats 4000000 in
theorem w_X1_insert (X : Cx) (x1 : Int32) (x2 : Int32) (x3 : Int32) (x4 : Int64) (S : St) : KJ X (cX1_insert, RX1, 7, 1, none) wlC jV 0 [some (.ref (xa X 2)), some (.int x1), some (.int x2), some (.int x3), some (.long x4), none, none] [] S (f_X1_insert x1 x2 x3 x4 S) := by
  unfold f_X1_insert
  refine k_aload_n dX1_insert_0 rfl ?_
  refine k_getR gX1_25 dX1_insert_1 ?_
  refine k_iload_n dX1_insert_4 rfl ?_
  refine k_iald aC_14 dX1_insert_5 ?_
  refine k_ist6 dX1_insert_6 (by decide) rfl ?_
  refine k_nxt ?_
  refine k_iload_n dX1_insert_8 rfl ?_
  refine k_if_lt (tgt := 26) dX1_insert_9 (by decide) (fun _ => ?_) (fun _ => ?_)
  · exact k_vret dX1_insert_26
  · refine k_to (pc' := 12) rfl ?_
    refine k_iload_n dX1_insert_12 rfl ?_
    refine k_iload dX1_insert_13 rfl ?_
    refine k_icmp_gt (tgt := 26) dX1_insert_15 (by decide) (fun _ => ?_) (fun _ => ?_)
    · exact k_vret dX1_insert_26
    · refine k_to (pc' := 18) rfl ?_
      refine k_iload dX1_insert_18 rfl ?_
      refine k_sipush dX1_insert_20 cs_200 ?_
      refine k_icmp_lt (tgt := 27) dX1_insert_23 (by decide) (fun _ => ?_) (fun _ => ?_)
      · refine k_aload_n dX1_insert_27 rfl ?_
        refine k_getR gX1_11 dX1_insert_28 ?_
        refine k_iload_n dX1_insert_31 rfl ?_
        refine k_aald arC_11 dX1_insert_32 (fun h2 => ?_)
        refine k_iload_n dX1_insert_33 rfl ?_
        refine k_aload_n dX1_insert_34 rfl ?_
        refine k_getR gX1_11 dX1_insert_35 ?_
        refine k_iload_n dX1_insert_38 rfl ?_
        refine k_aald arC_11 dX1_insert_39 (fun h3 => ?_)
        refine k_to (pc' := 40) rfl ?_
        refine k_iload_n dX1_insert_40 rfl ?_
        refine k_iconst dX1_insert_41 ci_1 ?_
        refine k_iadd dX1_insert_42 ?_
        refine k_iload dX1_insert_43 rfl ?_
        refine k_iload_n dX1_insert_45 rfl ?_
        refine k_isub dX1_insert_46 ?_
        refine k_copyi (roC_11 h3) lmX1_141 lm_ac_n lm_ac_s lm_sys (by decide) (Nat.le_of_ble_eq_true rfl) dX1_insert_47 ?_
        refine k_nxt ?_
        refine k_aload_n dX1_insert_50 rfl ?_
        refine k_getR gX1_18 dX1_insert_51 ?_
        refine k_iload_n dX1_insert_54 rfl ?_
        refine k_to (pc' := 55) rfl ?_
        refine k_aald arC_12 dX1_insert_55 (fun h5 => ?_)
        refine k_iload_n dX1_insert_56 rfl ?_
        refine k_aload_n dX1_insert_57 rfl ?_
        refine k_getR gX1_18 dX1_insert_58 ?_
        refine k_iload_n dX1_insert_61 rfl ?_
        refine k_aald arC_12 dX1_insert_62 (fun h6 => ?_)
        refine k_iload_n dX1_insert_63 rfl ?_
        refine k_iconst dX1_insert_64 ci_1 ?_
        refine k_iadd dX1_insert_65 ?_
        refine k_iload dX1_insert_66 rfl ?_
        refine k_to (pc' := 68) rfl ?_
        refine k_iload_n dX1_insert_68 rfl ?_
        refine k_isub dX1_insert_69 ?_
        refine k_copyl (roC_12 h6) lmX1_141 lm_ac_n lm_ac_s lm_sys (by decide) (Nat.le_of_ble_eq_true rfl) dX1_insert_70 ?_
        refine k_nxt ?_
        refine k_aload_n dX1_insert_73 rfl ?_
        refine k_getR gX1_11 dX1_insert_74 ?_
        refine k_iload_n dX1_insert_77 rfl ?_
        refine k_aald arC_11 dX1_insert_78 (fun h8 => ?_)
        refine k_iload_n dX1_insert_79 rfl ?_
        refine k_iload_n dX1_insert_80 rfl ?_
        refine k_iast (roC_11 h8) dX1_insert_81 ?_
        refine k_nxt ?_
        refine k_to (pc' := 82) rfl ?_
        refine k_aload_n dX1_insert_82 rfl ?_
        refine k_getR gX1_18 dX1_insert_83 ?_
        refine k_iload_n dX1_insert_86 rfl ?_
        refine k_aald arC_12 dX1_insert_87 (fun h10 => ?_)
        refine k_iload_n dX1_insert_88 rfl ?_
        refine k_lload dX1_insert_89 rfl ?_
        refine k_last (roC_12 h10) dX1_insert_91 ?_
        refine k_nxt ?_
        refine k_aload_n dX1_insert_92 rfl ?_
        refine k_getR gX1_25 dX1_insert_93 ?_
        refine k_iload_n dX1_insert_96 rfl ?_
        refine k_to (pc' := 97) rfl ?_
        refine k_iload dX1_insert_97 rfl ?_
        refine k_iconst dX1_insert_99 ci_1 ?_
        refine k_iadd dX1_insert_100 ?_
        refine k_iast aC_14 dX1_insert_101 ?_
        refine k_nxt ?_
        exact k_vret dX1_insert_102
      · refine k_to (pc' := 26) rfl ?_
        exact k_vret dX1_insert_26
theorem m_X1_insert {l : Launch} {D : va_G} {d : Dt} (x1 : Int32) (x2 : Int32) (x3 : Int32) (x4 : Int64) (S : St) : ∀ (r : Unit) (S' : St), f_X1_insert x1 x2 x3 x4 S = some (r, S') → Mt l D d wlC yX1_insert cX1_insert 7 none 1 [.ref (d.1 2), .int x1, .int x2, .int x3, .long x4] S (jV r) S' := Mt_of wadC (by decide) (Nat.le_of_ble_eq_true rfl) (fun X hL hd => by subst hd; exact w_X1_insert X x1 x2 x3 x4 S)
noncomputable def f_X1_isThere (x1 : Int32) (x2 : Int32) (x3 : Int32) (S : St) : Option (Int32 × St) := (if x3 < 0 then (some ((0 : Int32), S)) else (chk (inB x1 31) (if (gA S 14 (x1).toNatClampNeg) ≤ x3 then (some ((0 : Int32), S)) else (chk (inB x1 31) (chk (inB x3 200) (if (gA S (23 + (x1).toNatClampNeg) (x3).toNatClampNeg) = x2 then (some ((1 : Int32), S)) else (some ((0 : Int32), S))))))))
set_option maxRecDepth 100000 in
set_option maxHeartbeats 4000000 in
theorem w_X1_isThere (X : Cx) (x1 : Int32) (x2 : Int32) (x3 : Int32) (S : St) : KJ X (cX1_isThere, RX1, 4, 1, (some .boolean)) wlC jI 0 [some (.ref (xa X 2)), some (.int x1), some (.int x2), some (.int x3)] [] S (f_X1_isThere x1 x2 x3 S) := by
  unfold f_X1_isThere
  refine k_iload_n dX1_isThere_0 rfl ?_
  refine k_if_lt (tgt := 30) dX1_isThere_1 (by decide) (fun _ => ?_) (fun _ => ?_)
  · refine k_iconst dX1_isThere_30 ci_0 ?_
    exact k_zret (Or.inl rfl) dX1_isThere_31
  · refine k_to (pc' := 4) rfl ?_
    refine k_iload_n dX1_isThere_4 rfl ?_
    refine k_aload_n dX1_isThere_5 rfl ?_
    refine k_getR gX1_25 dX1_isThere_6 ?_
    refine k_iload_n dX1_isThere_9 rfl ?_
    refine k_iald aC_14 dX1_isThere_10 ?_
    refine k_icmp_ge (tgt := 30) dX1_isThere_11 (by decide) (fun _ => ?_) (fun _ => ?_)
    · refine k_iconst dX1_isThere_30 ci_0 ?_
      exact k_zret (Or.inl rfl) dX1_isThere_31
    · refine k_to (pc' := 14) rfl ?_
      refine k_aload_n dX1_isThere_14 rfl ?_
      refine k_getR gX1_11 dX1_isThere_15 ?_
      refine k_iload_n dX1_isThere_18 rfl ?_
      refine k_aald arC_11 dX1_isThere_19 (fun h1 => ?_)
      refine k_iload_n dX1_isThere_20 rfl ?_
      refine k_iald (roC_11 h1) dX1_isThere_21 ?_
      refine k_iload_n dX1_isThere_22 rfl ?_
      refine k_icmp_ne (tgt := 30) dX1_isThere_23 (by decide) (fun _ => ?_) (fun _ => ?_)
      · refine k_iconst dX1_isThere_30 ci_0 ?_
        exact k_zret (Or.inl rfl) dX1_isThere_31
      · refine k_to (pc' := 26) rfl ?_
        refine k_iconst dX1_isThere_26 ci_1 ?_
        refine k_goto (tgt := 31) dX1_isThere_27 (by decide) ?_
        exact k_zret (Or.inr rfl) dX1_isThere_31
theorem m_X1_isThere {l : Launch} {D : va_G} {d : Dt} (x1 : Int32) (x2 : Int32) (x3 : Int32) (S : St) : ∀ (r : Int32) (S' : St), f_X1_isThere x1 x2 x3 S = some (r, S') → Mt l D d wlC yX1_isThere cX1_isThere 4 (some .boolean) 1 [.ref (d.1 2), .int x1, .int x2, .int x3] S (jI r) S' := Mt_of wadC (by decide) (Nat.le_of_ble_eq_true rfl) (fun X hL hd => by subst hd; exact w_X1_isThere X x1 x2 x3 S)
noncomputable def lp_X1_seat_18 (x1 : Int32) (x2 : Int32) : Nat → Int32 → Int32 → Int32 → St → Option (Int32 × St)
  | 0, _, _, _, _ => none
  | n + 1, x3, x4, x5, S => (if (200 : Int32) ≤ x5 then (some (x3, S)) else (if x4 ≤ x3 then (some (x3, S)) else (nxt ((x3 + x4) >>> ((1 : Int32) &&& 31)) fun y3 => (chk (inB x1 31) (chk (inB y3 200) (if x2 ≤ (gA S (23 + (x1).toNatClampNeg) (y3).toNatClampNeg) then (lp_X1_seat_18 x1 x2 n x3 y3 (x5 + (1 : Int32)) S) else (nxt (y3 + (1 : Int32)) fun y5 => (lp_X1_seat_18 x1 x2 n y5 x4 (x5 + (1 : Int32)) S))))))))
set_option maxRecDepth 100000 in
set_option maxHeartbeats 4000000 in
theorem wlp_X1_seat_18 (X : Cx) (x1 : Int32) (x2 : Int32) : ∀ (n : Nat) (x3 : Int32) (x4 : Int32) (x5 : Int32) (S : St), KJ X (cX1_seat, RX1, 7, 1, (some .int)) wlC jI 18 [some (.ref (xa X 2)), some (.int x1), some (.int x2), some (.int x3), some (.int x4), some (.int x5), none] [] S (lp_X1_seat_18 x1 x2 n x3 x4 x5 S) := by
  intro n
  induction n with
  | zero => intro x3 x4 x5 S; rw [lp_X1_seat_18]; exact k_none
  | succ n ih =>
    intro x3 x4 x5 S
    rw [lp_X1_seat_18]
    refine k_iload dX1_seat_18 rfl ?_
    refine k_sipush dX1_seat_20 cs_200 ?_
    refine k_icmp_ge (tgt := 71) dX1_seat_23 (by decide) (fun _ => ?_) (fun _ => ?_)
    · refine k_iload_n dX1_seat_71 rfl ?_
      exact k_iret dX1_seat_72
    · refine k_to (pc' := 26) rfl ?_
      refine k_iload_n dX1_seat_26 rfl ?_
      refine k_iload dX1_seat_27 rfl ?_
      refine k_icmp_ge (tgt := 71) dX1_seat_29 (by decide) (fun _ => ?_) (fun _ => ?_)
      · refine k_iload_n dX1_seat_71 rfl ?_
        exact k_iret dX1_seat_72
      · refine k_to (pc' := 32) rfl ?_
        refine k_iload_n dX1_seat_32 rfl ?_
        refine k_iload dX1_seat_33 rfl ?_
        refine k_iadd dX1_seat_35 ?_
        refine k_iconst dX1_seat_36 ci_1 ?_
        refine k_ishr dX1_seat_37 ?_
        refine k_ist6 dX1_seat_38 (by decide) rfl ?_
        refine k_nxt ?_
        refine k_aload_n dX1_seat_40 rfl ?_
        refine k_getR gX1_11 dX1_seat_41 ?_
        refine k_iload_n dX1_seat_44 rfl ?_
        refine k_to (pc' := 45) rfl ?_
        refine k_aald arC_11 dX1_seat_45 (fun h4 => ?_)
        refine k_iload dX1_seat_46 rfl ?_
        refine k_iald (roC_11 h4) dX1_seat_48 ?_
        refine k_iload_n dX1_seat_49 rfl ?_
        refine k_icmp_ge (tgt := 61) dX1_seat_50 (by decide) (fun _ => ?_) (fun _ => ?_)
        · refine k_iload dX1_seat_61 rfl ?_
          refine k_ist4 dX1_seat_63 (by decide) rfl ?_
          refine k_inc5 dX1_seat_65 ci_1 (by decide) rfl ?_
          refine k_goto (tgt := 18) dX1_seat_68 (by decide) ?_
          refine k_to (pc' := 18) rfl ?_
          exact k_weak (ih _ _ _ _) (And.intro rfl (And.intro rfl (And.intro rfl (And.intro rfl (And.intro rfl (And.intro rfl True.intro))))))
        · refine k_to (pc' := 53) rfl ?_
          refine k_iload dX1_seat_53 rfl ?_
          refine k_iconst dX1_seat_55 ci_1 ?_
          refine k_iadd dX1_seat_56 ?_
          refine k_ist_n3 dX1_seat_57 (by decide) rfl ?_
          refine k_nxt ?_
          refine k_goto (tgt := 65) dX1_seat_58 (by decide) ?_
          refine k_inc5 dX1_seat_65 ci_1 (by decide) rfl ?_
          refine k_goto (tgt := 18) dX1_seat_68 (by decide) ?_
          refine k_to (pc' := 18) rfl ?_
          exact k_weak (ih _ _ _ _) (And.intro rfl (And.intro rfl (And.intro rfl (And.intro rfl (And.intro rfl (And.intro rfl True.intro))))))
noncomputable def f_X1_seat (x1 : Int32) (x2 : Int32) (S : St) : Option (Int32 × St) := (chk (inB x1 31) (nxt (gA S 13 (x1).toNatClampNeg) fun y1 => (chk (inB x1 31) (nxt (gA S 14 (x1).toNatClampNeg) fun y2 => (lp_X1_seat_18 x1 x2 FU y1 y2 (0 : Int32) S)))))
set_option maxRecDepth 100000 in
set_option maxHeartbeats 4000000 in
theorem w_X1_seat (X : Cx) (x1 : Int32) (x2 : Int32) (S : St) : KJ X (cX1_seat, RX1, 7, 1, (some .int)) wlC jI 0 [some (.ref (xa X 2)), some (.int x1), some (.int x2), none, none, none, none] [] S (f_X1_seat x1 x2 S) := by
  unfold f_X1_seat
  refine k_aload_n dX1_seat_0 rfl ?_
  refine k_getR gX1_21 dX1_seat_1 ?_
  refine k_iload_n dX1_seat_4 rfl ?_
  refine k_iald aC_13 dX1_seat_5 ?_
  refine k_ist_n3 dX1_seat_6 (by decide) rfl ?_
  refine k_nxt ?_
  refine k_aload_n dX1_seat_7 rfl ?_
  refine k_getR gX1_25 dX1_seat_8 ?_
  refine k_iload_n dX1_seat_11 rfl ?_
  refine k_iald aC_14 dX1_seat_12 ?_
  refine k_to (pc' := 13) rfl ?_
  refine k_ist4 dX1_seat_13 (by decide) rfl ?_
  refine k_nxt ?_
  refine k_iconst dX1_seat_15 ci_0 ?_
  refine k_ist5 dX1_seat_16 (by decide) rfl ?_
  refine k_to (pc' := 18) rfl ?_
  exact k_weak (wlp_X1_seat_18 X _ _ FU _ _ _ _) (And.intro rfl (And.intro rfl (And.intro rfl (And.intro rfl (And.intro rfl (And.intro rfl True.intro))))))
theorem m_X1_seat {l : Launch} {D : va_G} {d : Dt} (x1 : Int32) (x2 : Int32) (S : St) : ∀ (r : Int32) (S' : St), f_X1_seat x1 x2 S = some (r, S') → Mt l D d wlC yX1_seat cX1_seat 7 (some .int) 1 [.ref (d.1 2), .int x1, .int x2] S (jI r) S' := Mt_of wadC (by decide) (Nat.le_of_ble_eq_true rfl) (fun X hL hd => by subst hd; exact w_X1_seat X x1 x2 S)
noncomputable def f_X1_come (x1 : Int32) (x2 : Int32) (x3 : Int64) (S : St) : Option (Unit × St) := (if x1 < 0 then (some ((), S)) else (if x1 < (31 : Int32) then (chk (inB x1 31) (nxt (x2 &&& (gA S 17 (x1).toNatClampNeg)) fun y1 => (bnd (f_X1_seat x1 y1 S) fun r2 S3 => (chk (inB x1 31) (chk (inB x1 31) (nxt (sA S3 15 (upd (gA S3 15) (x1).toNatClampNeg ((gA S3 15 (x1).toNatClampNeg) + (1 : Int32)))) fun S4 => (bnd (f_X1_isThere x1 y1 r2 S4) fun r5 S6 => (if r5 = 0 then (bnd (f_X1_insert x1 r2 y1 x3 S6) fun r7 S8 => (some ((), S8))) else (chk (inB x1 31) (chk (inB r2 200) (chk (inB r2 200) (nxt (sB S6 (54 + (x1).toNatClampNeg) (vp_updL (gB S6 (54 + (x1).toNatClampNeg)) (r2).toNatClampNeg ((gB S6 (54 + (x1).toNatClampNeg) (r2).toNatClampNeg) + x3))) fun S10 => (chk (inB x1 31) (chk (inB x1 31) (nxt (sA S10 16 (upd (gA S10 16) (x1).toNatClampNeg ((gA S10 16 (x1).toNatClampNeg) + (1 : Int32)))) fun S11 => (some ((), S11))))))))))))))))) else (some ((), S))))
set_option maxRecDepth 100000 in
set_option maxHeartbeats 4000000 in
theorem w_X1_come (X : Cx) (x1 : Int32) (x2 : Int32) (x3 : Int64) (S : St) : KJ X (cX1_come, RX1, 7, 2, none) wlC jV 0 [some (.ref (xa X 2)), some (.int x1), some (.int x2), some (.long x3), none, none, none] [] S (f_X1_come x1 x2 x3 S) := by
  unfold f_X1_come
  refine k_iload_n dX1_come_0 rfl ?_
  refine k_if_lt (tgt := 10) dX1_come_1 (by decide) (fun _ => ?_) (fun _ => ?_)
  · exact k_vret dX1_come_10
  · refine k_to (pc' := 4) rfl ?_
    refine k_iload_n dX1_come_4 rfl ?_
    refine k_bipush dX1_come_5 cb_31 ?_
    refine k_icmp_lt (tgt := 11) dX1_come_7 (by decide) (fun _ => ?_) (fun _ => ?_)
    · refine k_iload_n dX1_come_11 rfl ?_
      refine k_aload_n dX1_come_12 rfl ?_
      refine k_getR gX1_34 dX1_come_13 ?_
      refine k_iload_n dX1_come_16 rfl ?_
      refine k_iald aC_17 dX1_come_17 ?_
      refine k_iand dX1_come_18 ?_
      refine k_ist5 dX1_come_19 (by decide) rfl ?_
      refine k_nxt ?_
      refine k_aload_n dX1_come_21 rfl ?_
      refine k_iload_n dX1_come_22 rfl ?_
      refine k_to (pc' := 23) rfl ?_
      refine k_iload dX1_come_23 rfl ?_
      refine k_cv2i wadC lkX1_127 obX1 (m_X1_seat _ _ _) (by decide) (Nat.le_of_ble_eq_true rfl) dX1_come_25 (fun r2 S3 => ?_)
      refine k_ist6 dX1_come_28 (by decide) rfl ?_
      refine k_aload_n dX1_come_30 rfl ?_
      refine k_getR gX1_28 dX1_come_31 ?_
      refine k_iload_n dX1_come_34 rfl ?_
      refine k_dup2 dX1_come_35 rfl rfl ?_
      refine k_iald aC_15 dX1_come_36 ?_
      refine k_iconst dX1_come_37 ci_1 ?_
      refine k_iadd dX1_come_38 ?_
      refine k_to (pc' := 39) rfl ?_
      refine k_iast aC_15 dX1_come_39 ?_
      refine k_nxt ?_
      refine k_aload_n dX1_come_40 rfl ?_
      refine k_iload_n dX1_come_41 rfl ?_
      refine k_iload dX1_come_42 rfl ?_
      refine k_iload dX1_come_44 rfl ?_
      refine k_cv3i wadC lkX1_130 obX1 (m_X1_isThere _ _ _ _) (by decide) (Nat.le_of_ble_eq_true rfl) dX1_come_46 (fun r5 S6 => ?_)
      refine k_if_eq (tgt := 78) dX1_come_49 (by decide) (fun _ => ?_) (fun _ => ?_)
      · refine k_aload_n dX1_come_78 rfl ?_
        refine k_iload_n dX1_come_79 rfl ?_
        refine k_iload dX1_come_80 rfl ?_
        refine k_iload dX1_come_82 rfl ?_
        refine k_lload_n dX1_come_84 rfl ?_
        refine k_cv4v wadC lkX1_137 obX1 (m_X1_insert _ _ _ _ _) (by decide) (Nat.le_of_ble_eq_true rfl) dX1_come_85 (fun r7 S8 => ?_)
        exact k_vret dX1_come_88
      · refine k_to (pc' := 52) rfl ?_
        refine k_aload_n dX1_come_52 rfl ?_
        refine k_getR gX1_18 dX1_come_53 ?_
        refine k_iload_n dX1_come_56 rfl ?_
        refine k_aald arC_12 dX1_come_57 (fun h9 => ?_)
        refine k_iload dX1_come_58 rfl ?_
        refine k_dup2 dX1_come_60 rfl rfl ?_
        refine k_lald (roC_12 h9) dX1_come_61 ?_
        refine k_lload_n dX1_come_62 rfl ?_
        refine k_ladd dX1_come_63 ?_
        refine k_to (pc' := 64) rfl ?_
        refine k_last (roC_12 h9) dX1_come_64 ?_
        refine k_nxt ?_
        refine k_aload_n dX1_come_65 rfl ?_
        refine k_getR gX1_31 dX1_come_66 ?_
        refine k_iload_n dX1_come_69 rfl ?_
        refine k_dup2 dX1_come_70 rfl rfl ?_
        refine k_iald aC_16 dX1_come_71 ?_
        refine k_iconst dX1_come_72 ci_1 ?_
        refine k_iadd dX1_come_73 ?_
        refine k_iast aC_16 dX1_come_74 ?_
        refine k_nxt ?_
        refine k_goto (tgt := 88) dX1_come_75 (by decide) ?_
        refine k_to (pc' := 88) rfl ?_
        exact k_vret dX1_come_88
    · refine k_to (pc' := 10) rfl ?_
      exact k_vret dX1_come_10
theorem m_X1_come {l : Launch} {D : va_G} {d : Dt} (x1 : Int32) (x2 : Int32) (x3 : Int64) (S : St) : ∀ (r : Unit) (S' : St), f_X1_come x1 x2 x3 S = some (r, S') → Mt l D d wlC yX1_come cX1_come 7 none 2 [.ref (d.1 2), .int x1, .int x2, .long x3] S (jV r) S' := Mt_of wadC (by decide) (Nat.le_of_ble_eq_true rfl) (fun X hL hd => by subst hd; exact w_X1_come X x1 x2 x3 S)
noncomputable def lp_X1_start_9 : Nat → Int32 → St → Option (Unit × St)
  | 0, _, _ => none
  | n + 1, x1, S => (if (31 : Int32) ≤ x1 then (nxt (sI S 108 (1 : Int32)) fun S3 => (nxt (sL S3 109 (0 : Int64)) fun S4 => (nxt (sI S4 110 (0 : Int32)) fun S5 => (bnd (f_X1_come (0 : Int32) (0 : Int32) (167961600000000 : Int64) S5) fun r6 S7 => (some ((), S7)))))) else (chk (inB x1 31) (nxt (sA S 13 (upd (gA S 13) (x1).toNatClampNeg (0 : Int32))) fun S8 => (chk (inB x1 31) (nxt (sA S8 14 (upd (gA S8 14) (x1).toNatClampNeg (0 : Int32))) fun S9 => (chk (inB x1 31) (nxt (sA S9 15 (upd (gA S9 15) (x1).toNatClampNeg (0 : Int32))) fun S10 => (chk (inB x1 31) (nxt (sA S10 16 (upd (gA S10 16) (x1).toNatClampNeg (0 : Int32))) fun S11 => (bnd (f_X2_liveAt x1 S11) fun r12 S13 => (bnd (f_X0_maskOf r12 S13) fun r14 S15 => (chk (inB x1 31) (nxt (sA S15 17 (upd (gA S15 17) (x1).toNatClampNeg r14)) fun S16 => (lp_X1_start_9 n (x1 + (1 : Int32)) S16))))))))))))))
set_option maxRecDepth 100000 in
set_option maxHeartbeats 4000000 in
theorem wlp_X1_start_9 (X : Cx) : ∀ (n : Nat) (x1 : Int32) (S : St), KJ X (cX1_start, RX1, 2, 5, none) wlC jV 9 [some (.ref (xa X 2)), some (.int x1)] [] S (lp_X1_start_9 n x1 S) := by
  intro n
  induction n with
  | zero => intro x1 S; rw [lp_X1_start_9]; exact k_none
  | succ n ih =>
    intro x1 S
    rw [lp_X1_start_9]
    refine k_iload_n dX1_start_9 rfl ?_
    refine k_bipush dX1_start_10 cb_31 ?_
    refine k_icmp_ge (tgt := 66) dX1_start_12 (by decide) (fun _ => ?_) (fun _ => ?_)
    · refine k_aload_n dX1_start_66 rfl ?_
      refine k_iconst dX1_start_67 ci_1 ?_
      refine k_putZ pX1_41 (Or.inr rfl) dX1_start_68 ?_
      refine k_nxt ?_
      refine k_aload_n dX1_start_71 rfl ?_
      refine k_lconst dX1_start_72 cl_0 ?_
      refine k_putL pX1_59 dX1_start_73 ?_
      refine k_nxt ?_
      refine k_aload_n dX1_start_76 rfl ?_
      refine k_iconst dX1_start_77 ci_0 ?_
      refine k_putI pX1_63 dX1_start_78 ?_
      refine k_nxt ?_
      refine k_to (pc' := 81) rfl ?_
      refine k_aload_n dX1_start_81 rfl ?_
      refine k_iconst dX1_start_82 ci_0 ?_
      refine k_iconst dX1_start_83 ci_0 ?_
      refine k_ldc2 dX1_start_84 klX1_67 ?_
      refine k_cv3v wadC lkX1_69 obX1 (m_X1_come _ _ _ _) (by decide) (Nat.le_of_ble_eq_true rfl) dX1_start_87 (fun r6 S7 => ?_)
      exact k_vret dX1_start_90
    · refine k_to (pc' := 15) rfl ?_
      refine k_aload_n dX1_start_15 rfl ?_
      refine k_getR gX1_21 dX1_start_16 ?_
      refine k_iload_n dX1_start_19 rfl ?_
      refine k_iconst dX1_start_20 ci_0 ?_
      refine k_iast aC_13 dX1_start_21 ?_
      refine k_nxt ?_
      refine k_aload_n dX1_start_22 rfl ?_
      refine k_getR gX1_25 dX1_start_23 ?_
      refine k_iload_n dX1_start_26 rfl ?_
      refine k_iconst dX1_start_27 ci_0 ?_
      refine k_to (pc' := 28) rfl ?_
      refine k_iast aC_14 dX1_start_28 ?_
      refine k_nxt ?_
      refine k_aload_n dX1_start_29 rfl ?_
      refine k_getR gX1_28 dX1_start_30 ?_
      refine k_iload_n dX1_start_33 rfl ?_
      refine k_iconst dX1_start_34 ci_0 ?_
      refine k_iast aC_15 dX1_start_35 ?_
      refine k_nxt ?_
      refine k_aload_n dX1_start_36 rfl ?_
      refine k_getR gX1_31 dX1_start_37 ?_
      refine k_iload_n dX1_start_40 rfl ?_
      refine k_iconst dX1_start_41 ci_0 ?_
      refine k_to (pc' := 42) rfl ?_
      refine k_iast aC_16 dX1_start_42 ?_
      refine k_nxt ?_
      refine k_aload_n dX1_start_43 rfl ?_
      refine k_getR gX1_34 dX1_start_44 ?_
      refine k_iload_n dX1_start_47 rfl ?_
      refine k_aload_n dX1_start_48 rfl ?_
      refine k_getR gX1_37 dX1_start_49 ?_
      refine k_iload_n dX1_start_52 rfl ?_
      refine k_cv1i wadC lkX1_50 obX2 (m_X2_liveAt _ _) (by decide) (Nat.le_of_ble_eq_true rfl) dX1_start_53 (fun r12 S13 => ?_)
      refine k_cs1i wadC lkX1_54 (m_X0_maskOf _ _) (by decide) (Nat.le_of_ble_eq_true rfl) dX1_start_56 (fun r14 S15 => ?_)
      refine k_iast aC_17 dX1_start_59 ?_
      refine k_nxt ?_
      refine k_to (pc' := 60) rfl ?_
      refine k_inc1 dX1_start_60 ci_1 (by decide) rfl ?_
      refine k_goto (tgt := 9) dX1_start_63 (by decide) ?_
      refine k_to (pc' := 9) rfl ?_
      exact k_weak (ih _ _) (And.intro rfl (And.intro rfl True.intro))
noncomputable def f_X1_start (S : St) : Option (Unit × St) := (bnd (f_X2_markLive S) fun r1 S2 => (lp_X1_start_9 FU (0 : Int32) S2))
set_option maxRecDepth 100000 in
set_option maxHeartbeats 4000000 in
theorem w_X1_start (X : Cx) (S : St) : KJ X (cX1_start, RX1, 2, 5, none) wlC jV 0 [some (.ref (xa X 2)), none] [] S (f_X1_start S) := by
  unfold f_X1_start
  refine k_aload_n dX1_start_0 rfl ?_
  refine k_getR gX1_37 dX1_start_1 ?_
  refine k_cv0v wadC lkX1_45 obX2 (m_X2_markLive _) (by decide) (Nat.le_of_ble_eq_true rfl) dX1_start_4 (fun r1 S2 => ?_)
  refine k_iconst dX1_start_7 ci_0 ?_
  refine k_ist_n1 dX1_start_8 (by decide) rfl ?_
  refine k_to (pc' := 9) rfl ?_
  exact k_weak (wlp_X1_start_9 X FU _ _) (And.intro rfl (And.intro rfl True.intro))
theorem m_X1_start {l : Launch} {D : va_G} {d : Dt} (S : St) : ∀ (r : Unit) (S' : St), f_X1_start S = some (r, S') → Mt l D d wlC yX1_start cX1_start 2 none 5 [.ref (d.1 2)] S (jV r) S' := Mt_of wadC (by decide) (Nat.le_of_ble_eq_true rfl) (fun X hL hd => by subst hd; exact w_X1_start X S)
noncomputable def f_X1_size (x1 : Int32) (S : St) : Option (Int32 × St) := (if x1 < 0 then (some ((0 : Int32), S)) else (if (31 : Int32) ≤ x1 then (some ((0 : Int32), S)) else (chk (inB x1 31) (chk (inB x1 31) (some (((gA S 14 (x1).toNatClampNeg) - (gA S 13 (x1).toNatClampNeg)), S))))))
set_option maxRecDepth 100000 in
set_option maxHeartbeats 4000000 in
theorem w_X1_size (X : Cx) (x1 : Int32) (S : St) : KJ X (cX1_size, RX1, 2, 1, (some .int)) wlC jI 0 [some (.ref (xa X 2)), some (.int x1)] [] S (f_X1_size x1 S) := by
  unfold f_X1_size
  refine k_iload_n dX1_size_0 rfl ?_
  refine k_if_lt (tgt := 26) dX1_size_1 (by decide) (fun _ => ?_) (fun _ => ?_)
  · refine k_iconst dX1_size_26 ci_0 ?_
    exact k_iret dX1_size_27
  · refine k_to (pc' := 4) rfl ?_
    refine k_iload_n dX1_size_4 rfl ?_
    refine k_bipush dX1_size_5 cb_31 ?_
    refine k_icmp_ge (tgt := 26) dX1_size_7 (by decide) (fun _ => ?_) (fun _ => ?_)
    · refine k_iconst dX1_size_26 ci_0 ?_
      exact k_iret dX1_size_27
    · refine k_to (pc' := 10) rfl ?_
      refine k_aload_n dX1_size_10 rfl ?_
      refine k_getR gX1_25 dX1_size_11 ?_
      refine k_iload_n dX1_size_14 rfl ?_
      refine k_iald aC_14 dX1_size_15 ?_
      refine k_aload_n dX1_size_16 rfl ?_
      refine k_getR gX1_21 dX1_size_17 ?_
      refine k_iload_n dX1_size_20 rfl ?_
      refine k_iald aC_13 dX1_size_21 ?_
      refine k_isub dX1_size_22 ?_
      refine k_to (pc' := 23) rfl ?_
      refine k_goto (tgt := 27) dX1_size_23 (by decide) ?_
      exact k_iret dX1_size_27
theorem m_X1_size {l : Launch} {D : va_G} {d : Dt} (x1 : Int32) (S : St) : ∀ (r : Int32) (S' : St), f_X1_size x1 S = some (r, S') → Mt l D d wlC yX1_size cX1_size 2 (some .int) 1 [.ref (d.1 2), .int x1] S (jI r) S' := Mt_of wadC (by decide) (Nat.le_of_ble_eq_true rfl) (fun X hL hd => by subst hd; exact w_X1_size X x1 S)
noncomputable def f_X1_has (x1 : Int32) (x2 : Int32) (S : St) : Option (Int32 × St) := (if x2 < 0 then (some ((0 : Int32), S)) else (bnd (f_X1_size x1 S) fun r1 S2 => (if r1 ≤ x2 then (some ((0 : Int32), S2)) else (some ((1 : Int32), S2)))))
set_option maxRecDepth 100000 in
set_option maxHeartbeats 4000000 in
theorem w_X1_has (X : Cx) (x1 : Int32) (x2 : Int32) (S : St) : KJ X (cX1_has, RX1, 3, 2, (some .boolean)) wlC jI 0 [some (.ref (xa X 2)), some (.int x1), some (.int x2)] [] S (f_X1_has x1 x2 S) := by
  unfold f_X1_has
  refine k_iload_n dX1_has_0 rfl ?_
  refine k_if_lt (tgt := 17) dX1_has_1 (by decide) (fun _ => ?_) (fun _ => ?_)
  · refine k_iconst dX1_has_17 ci_0 ?_
    exact k_zret (Or.inl rfl) dX1_has_18
  · refine k_to (pc' := 4) rfl ?_
    refine k_iload_n dX1_has_4 rfl ?_
    refine k_aload_n dX1_has_5 rfl ?_
    refine k_iload_n dX1_has_6 rfl ?_
    refine k_cv1i wadC lkX1_73 obX1 (m_X1_size _ _) (by decide) (Nat.le_of_ble_eq_true rfl) dX1_has_7 (fun r1 S2 => ?_)
    refine k_icmp_ge (tgt := 17) dX1_has_10 (by decide) (fun _ => ?_) (fun _ => ?_)
    · refine k_iconst dX1_has_17 ci_0 ?_
      exact k_zret (Or.inl rfl) dX1_has_18
    · refine k_to (pc' := 13) rfl ?_
      refine k_iconst dX1_has_13 ci_1 ?_
      refine k_goto (tgt := 18) dX1_has_14 (by decide) ?_
      exact k_zret (Or.inr rfl) dX1_has_18
theorem m_X1_has {l : Launch} {D : va_G} {d : Dt} (x1 : Int32) (x2 : Int32) (S : St) : ∀ (r : Int32) (S' : St), f_X1_has x1 x2 S = some (r, S') → Mt l D d wlC yX1_has cX1_has 3 (some .boolean) 2 [.ref (d.1 2), .int x1, .int x2] S (jI r) S' := Mt_of wadC (by decide) (Nat.le_of_ble_eq_true rfl) (fun X hL hd => by subst hd; exact w_X1_has X x1 x2 S)
noncomputable def f_X1_heldAt (x1 : Int32) (x2 : Int32) (S : St) : Option (Int32 × St) := (bnd (f_X1_has x1 x2 S) fun r1 S2 => (if r1 = 0 then (some ((0 : Int32), S2)) else (chk (inB x1 31) (chk (inB x1 31) (chk (inB ((gA S2 13 (x1).toNatClampNeg) + x2) 200) (some ((gA S2 (23 + (x1).toNatClampNeg) (((gA S2 13 (x1).toNatClampNeg) + x2)).toNatClampNeg), S2)))))))
set_option maxRecDepth 100000 in
set_option maxHeartbeats 4000000 in
theorem w_X1_heldAt (X : Cx) (x1 : Int32) (x2 : Int32) (S : St) : KJ X (cX1_heldAt, RX1, 3, 3, (some .int)) wlC jI 0 [some (.ref (xa X 2)), some (.int x1), some (.int x2)] [] S (f_X1_heldAt x1 x2 S) := by
  unfold f_X1_heldAt
  refine k_aload_n dX1_heldAt_0 rfl ?_
  refine k_iload_n dX1_heldAt_1 rfl ?_
  refine k_iload_n dX1_heldAt_2 rfl ?_
  refine k_cv2i wadC lkX1_76 obX1 (m_X1_has _ _ _) (by decide) (Nat.le_of_ble_eq_true rfl) dX1_heldAt_3 (fun r1 S2 => ?_)
  refine k_if_eq (tgt := 27) dX1_heldAt_6 (by decide) (fun _ => ?_) (fun _ => ?_)
  · refine k_iconst dX1_heldAt_27 ci_0 ?_
    exact k_iret dX1_heldAt_28
  · refine k_to (pc' := 9) rfl ?_
    refine k_aload_n dX1_heldAt_9 rfl ?_
    refine k_getR gX1_11 dX1_heldAt_10 ?_
    refine k_iload_n dX1_heldAt_13 rfl ?_
    refine k_aald arC_11 dX1_heldAt_14 (fun h3 => ?_)
    refine k_aload_n dX1_heldAt_15 rfl ?_
    refine k_getR gX1_21 dX1_heldAt_16 ?_
    refine k_iload_n dX1_heldAt_19 rfl ?_
    refine k_iald aC_13 dX1_heldAt_20 ?_
    refine k_iload_n dX1_heldAt_21 rfl ?_
    refine k_to (pc' := 22) rfl ?_
    refine k_iadd dX1_heldAt_22 ?_
    refine k_iald (roC_11 h3) dX1_heldAt_23 ?_
    refine k_goto (tgt := 28) dX1_heldAt_24 (by decide) ?_
    exact k_iret dX1_heldAt_28
theorem m_X1_heldAt {l : Launch} {D : va_G} {d : Dt} (x1 : Int32) (x2 : Int32) (S : St) : ∀ (r : Int32) (S' : St), f_X1_heldAt x1 x2 S = some (r, S') → Mt l D d wlC yX1_heldAt cX1_heldAt 3 (some .int) 3 [.ref (d.1 2), .int x1, .int x2] S (jI r) S' := Mt_of wadC (by decide) (Nat.le_of_ble_eq_true rfl) (fun X hL hd => by subst hd; exact w_X1_heldAt X x1 x2 S)
noncomputable def f_X1_massAt (x1 : Int32) (x2 : Int32) (S : St) : Option (Int64 × St) := (bnd (f_X1_has x1 x2 S) fun r1 S2 => (if r1 = 0 then (some ((0 : Int64), S2)) else (chk (inB x1 31) (chk (inB x1 31) (chk (inB ((gA S2 13 (x1).toNatClampNeg) + x2) 200) (some ((gB S2 (54 + (x1).toNatClampNeg) (((gA S2 13 (x1).toNatClampNeg) + x2)).toNatClampNeg), S2)))))))
set_option maxRecDepth 100000 in
set_option maxHeartbeats 4000000 in
theorem w_X1_massAt (X : Cx) (x1 : Int32) (x2 : Int32) (S : St) : KJ X (cX1_massAt, RX1, 3, 3, (some .long)) wlC jL 0 [some (.ref (xa X 2)), some (.int x1), some (.int x2)] [] S (f_X1_massAt x1 x2 S) := by
  unfold f_X1_massAt
  refine k_aload_n dX1_massAt_0 rfl ?_
  refine k_iload_n dX1_massAt_1 rfl ?_
  refine k_iload_n dX1_massAt_2 rfl ?_
  refine k_cv2i wadC lkX1_76 obX1 (m_X1_has _ _ _) (by decide) (Nat.le_of_ble_eq_true rfl) dX1_massAt_3 (fun r1 S2 => ?_)
  refine k_if_eq (tgt := 27) dX1_massAt_6 (by decide) (fun _ => ?_) (fun _ => ?_)
  · refine k_lconst dX1_massAt_27 cl_0 ?_
    exact k_lret dX1_massAt_28
  · refine k_to (pc' := 9) rfl ?_
    refine k_aload_n dX1_massAt_9 rfl ?_
    refine k_getR gX1_18 dX1_massAt_10 ?_
    refine k_iload_n dX1_massAt_13 rfl ?_
    refine k_aald arC_12 dX1_massAt_14 (fun h3 => ?_)
    refine k_aload_n dX1_massAt_15 rfl ?_
    refine k_getR gX1_21 dX1_massAt_16 ?_
    refine k_iload_n dX1_massAt_19 rfl ?_
    refine k_iald aC_13 dX1_massAt_20 ?_
    refine k_iload_n dX1_massAt_21 rfl ?_
    refine k_to (pc' := 22) rfl ?_
    refine k_iadd dX1_massAt_22 ?_
    refine k_lald (roC_12 h3) dX1_massAt_23 ?_
    refine k_goto (tgt := 28) dX1_massAt_24 (by decide) ?_
    exact k_lret dX1_massAt_28
theorem m_X1_massAt {l : Launch} {D : va_G} {d : Dt} (x1 : Int32) (x2 : Int32) (S : St) : ∀ (r : Int64) (S' : St), f_X1_massAt x1 x2 S = some (r, S') → Mt l D d wlC yX1_massAt cX1_massAt 3 (some .long) 3 [.ref (d.1 2), .int x1, .int x2] S (jL r) S' := Mt_of wadC (by decide) (Nat.le_of_ble_eq_true rfl) (fun X hL hd => by subst hd; exact w_X1_massAt X x1 x2 S)
noncomputable def lp_X1_total_13 (x1 : Int32) (x2 : Int32) (x3 : Int32) (x6 : Int32) : Nat → Int64 → Int32 → St → Option (Int64 × St)
  | 0, _, _, _ => none
  | n + 1, x4, x7, S => (if x6 ≤ x7 then (some (x4, S)) else (if x2 = (-1 : Int32) then (bnd (f_X1_massAt x1 x7 S) fun r3 S4 => (nxt (x4 + r3) fun y5 => (lp_X1_total_13 x1 x2 x3 x6 n y5 (x7 + (1 : Int32)) S4))) else (bnd (f_X1_heldAt x1 x7 S) fun r6 S7 => (bnd (f_X0_valueOf r6 x2 S7) fun r8 S9 => (if r8 = x3 then (bnd (f_X1_massAt x1 x7 S9) fun r10 S11 => (nxt (x4 + r10) fun y12 => (lp_X1_total_13 x1 x2 x3 x6 n y12 (x7 + (1 : Int32)) S11))) else (lp_X1_total_13 x1 x2 x3 x6 n x4 (x7 + (1 : Int32)) S9))))))
set_option maxRecDepth 100000 in
set_option maxHeartbeats 4000000 in
theorem wlp_X1_total_13 (X : Cx) (x1 : Int32) (x2 : Int32) (x3 : Int32) (x6 : Int32) : ∀ (n : Nat) (x4 : Int64) (x7 : Int32) (S : St), KJ X (cX1_total, RX1, 8, 4, (some .long)) wlC jL 13 [some (.ref (xa X 2)), some (.int x1), some (.int x2), some (.int x3), some (.long x4), none, some (.int x6), some (.int x7)] [] S (lp_X1_total_13 x1 x2 x3 x6 n x4 x7 S) := by
  intro n
  induction n with
  | zero => intro x4 x7 S; rw [lp_X1_total_13]; exact k_none
  | succ n ih =>
    intro x4 x7 S
    rw [lp_X1_total_13]
    refine k_iload dX1_total_13 rfl ?_
    refine k_iload dX1_total_15 rfl ?_
    refine k_icmp_ge (tgt := 58) dX1_total_17 (by decide) (fun _ => ?_) (fun _ => ?_)
    · refine k_lload dX1_total_58 rfl ?_
      exact k_lret dX1_total_60
    · refine k_to (pc' := 20) rfl ?_
      refine k_iload_n dX1_total_20 rfl ?_
      refine k_iconst dX1_total_21 ci_m1 ?_
      refine k_icmp_eq (tgt := 40) dX1_total_22 (by decide) (fun _ => ?_) (fun _ => ?_)
      · refine k_lload dX1_total_40 rfl ?_
        refine k_aload_n dX1_total_42 rfl ?_
        refine k_iload_n dX1_total_43 rfl ?_
        refine k_iload dX1_total_44 rfl ?_
        refine k_cv2l wadC lkX1_87 obX1 (m_X1_massAt _ _ _) (by decide) (Nat.le_of_ble_eq_true rfl) dX1_total_46 (fun r3 S4 => ?_)
        refine k_ladd dX1_total_49 ?_
        refine k_lst4 dX1_total_50 (by decide) rfl ?_
        refine k_nxt ?_
        refine k_inc7 dX1_total_52 ci_1 (by decide) rfl ?_
        refine k_goto (tgt := 13) dX1_total_55 (by decide) ?_
        refine k_to (pc' := 13) rfl ?_
        exact k_weak (ih _ _ _) (And.intro rfl (And.intro rfl (And.intro rfl (And.intro rfl (And.intro rfl (And.intro rfl (And.intro rfl True.intro)))))))
      · refine k_to (pc' := 25) rfl ?_
        refine k_aload_n dX1_total_25 rfl ?_
        refine k_iload_n dX1_total_26 rfl ?_
        refine k_iload dX1_total_27 rfl ?_
        refine k_cv2i wadC lkX1_80 obX1 (m_X1_heldAt _ _ _) (by decide) (Nat.le_of_ble_eq_true rfl) dX1_total_29 (fun r6 S7 => ?_)
        refine k_iload_n dX1_total_32 rfl ?_
        refine k_cs2i wadC lkX1_84 (m_X0_valueOf _ _ _) (by decide) (Nat.le_of_ble_eq_true rfl) dX1_total_33 (fun r8 S9 => ?_)
        refine k_iload_n dX1_total_36 rfl ?_
        refine k_icmp_ne (tgt := 52) dX1_total_37 (by decide) (fun _ => ?_) (fun _ => ?_)
        · refine k_inc7 dX1_total_52 ci_1 (by decide) rfl ?_
          refine k_goto (tgt := 13) dX1_total_55 (by decide) ?_
          refine k_to (pc' := 13) rfl ?_
          exact k_weak (ih _ _ _) (And.intro rfl (And.intro rfl (And.intro rfl (And.intro rfl (And.intro rfl (And.intro rfl (And.intro rfl True.intro)))))))
        · refine k_to (pc' := 40) rfl ?_
          refine k_lload dX1_total_40 rfl ?_
          refine k_aload_n dX1_total_42 rfl ?_
          refine k_iload_n dX1_total_43 rfl ?_
          refine k_iload dX1_total_44 rfl ?_
          refine k_cv2l wadC lkX1_87 obX1 (m_X1_massAt _ _ _) (by decide) (Nat.le_of_ble_eq_true rfl) dX1_total_46 (fun r10 S11 => ?_)
          refine k_ladd dX1_total_49 ?_
          refine k_lst4 dX1_total_50 (by decide) rfl ?_
          refine k_nxt ?_
          refine k_inc7 dX1_total_52 ci_1 (by decide) rfl ?_
          refine k_goto (tgt := 13) dX1_total_55 (by decide) ?_
          refine k_to (pc' := 13) rfl ?_
          exact k_weak (ih _ _ _) (And.intro rfl (And.intro rfl (And.intro rfl (And.intro rfl (And.intro rfl (And.intro rfl (And.intro rfl True.intro)))))))
noncomputable def f_X1_total (x1 : Int32) (x2 : Int32) (x3 : Int32) (S : St) : Option (Int64 × St) := (bnd (f_X1_size x1 S) fun r1 S2 => (lp_X1_total_13 x1 x2 x3 r1 FU (0 : Int64) (0 : Int32) S2))
set_option maxRecDepth 100000 in
set_option maxHeartbeats 4000000 in
theorem w_X1_total (X : Cx) (x1 : Int32) (x2 : Int32) (x3 : Int32) (S : St) : KJ X (cX1_total, RX1, 8, 4, (some .long)) wlC jL 0 [some (.ref (xa X 2)), some (.int x1), some (.int x2), some (.int x3), none, none, none, none] [] S (f_X1_total x1 x2 x3 S) := by
  unfold f_X1_total
  refine k_lconst dX1_total_0 cl_0 ?_
  refine k_lst4 dX1_total_1 (by decide) rfl ?_
  refine k_aload_n dX1_total_3 rfl ?_
  refine k_iload_n dX1_total_4 rfl ?_
  refine k_cv1i wadC lkX1_73 obX1 (m_X1_size _ _) (by decide) (Nat.le_of_ble_eq_true rfl) dX1_total_5 (fun r1 S2 => ?_)
  refine k_ist6 dX1_total_8 (by decide) rfl ?_
  refine k_iconst dX1_total_10 ci_0 ?_
  refine k_ist7 dX1_total_11 (by decide) rfl ?_
  refine k_to (pc' := 13) rfl ?_
  exact k_weak (wlp_X1_total_13 X _ _ _ _ FU _ _ _) (And.intro rfl (And.intro rfl (And.intro rfl (And.intro rfl (And.intro rfl (And.intro rfl (And.intro rfl True.intro)))))))
theorem m_X1_total {l : Launch} {D : va_G} {d : Dt} (x1 : Int32) (x2 : Int32) (x3 : Int32) (S : St) : ∀ (r : Int64) (S' : St), f_X1_total x1 x2 x3 S = some (r, S') → Mt l D d wlC yX1_total cX1_total 8 (some .long) 4 [.ref (d.1 2), .int x1, .int x2, .int x3] S (jL r) S' := Mt_of wadC (by decide) (Nat.le_of_ble_eq_true rfl) (fun X hL hd => by subst hd; exact w_X1_total X x1 x2 x3 S)
noncomputable def lp_X1_totalBeforeEnd_5 (x1 : Int32) (x2 : Int32) : Nat → Int64 → Int32 → St → Option (Int64 × St)
  | 0, _, _, _ => none
  | n + 1, x3, x5, S => (if (gI S 208) ≤ x5 then (some (x3, S)) else (bnd (f_X1_total x5 x1 x2 S) fun r1 S2 => (nxt (x3 + r1) fun y3 => (lp_X1_totalBeforeEnd_5 x1 x2 n y3 (x5 + (1 : Int32)) S2))))
set_option maxRecDepth 100000 in
set_option maxHeartbeats 4000000 in
theorem wlp_X1_totalBeforeEnd_5 (X : Cx) (x1 : Int32) (x2 : Int32) : ∀ (n : Nat) (x3 : Int64) (x5 : Int32) (S : St), KJ X (cX1_totalBeforeEnd, RX1, 6, 5, (some .long)) wlC jL 5 [some (.ref (xa X 2)), some (.int x1), some (.int x2), some (.long x3), none, some (.int x5)] [] S (lp_X1_totalBeforeEnd_5 x1 x2 n x3 x5 S) := by
  intro n
  induction n with
  | zero => intro x3 x5 S; rw [lp_X1_totalBeforeEnd_5]; exact k_none
  | succ n ih =>
    intro x3 x5 S
    rw [lp_X1_totalBeforeEnd_5]
    refine k_iload dX1_totalBeforeEnd_5 rfl ?_
    refine k_aload_n dX1_totalBeforeEnd_7 rfl ?_
    refine k_getR gX1_37 dX1_totalBeforeEnd_8 ?_
    refine k_getI gX1_91 dX1_totalBeforeEnd_11 ?_
    refine k_icmp_ge (tgt := 34) dX1_totalBeforeEnd_14 (by decide) (fun _ => ?_) (fun _ => ?_)
    · refine k_lload_n dX1_totalBeforeEnd_34 rfl ?_
      exact k_lret dX1_totalBeforeEnd_35
    · refine k_to (pc' := 17) rfl ?_
      refine k_lload_n dX1_totalBeforeEnd_17 rfl ?_
      refine k_aload_n dX1_totalBeforeEnd_18 rfl ?_
      refine k_iload dX1_totalBeforeEnd_19 rfl ?_
      refine k_iload_n dX1_totalBeforeEnd_21 rfl ?_
      refine k_iload_n dX1_totalBeforeEnd_22 rfl ?_
      refine k_cv3l wadC lkX1_94 obX1 (m_X1_total _ _ _ _) (by decide) (Nat.le_of_ble_eq_true rfl) dX1_totalBeforeEnd_23 (fun r1 S2 => ?_)
      refine k_ladd dX1_totalBeforeEnd_26 ?_
      refine k_lst_n3 dX1_totalBeforeEnd_27 (by decide) rfl ?_
      refine k_nxt ?_
      refine k_inc5 dX1_totalBeforeEnd_28 ci_1 (by decide) rfl ?_
      refine k_to (pc' := 31) rfl ?_
      refine k_goto (tgt := 5) dX1_totalBeforeEnd_31 (by decide) ?_
      refine k_to (pc' := 5) rfl ?_
      exact k_weak (ih _ _ _) (And.intro rfl (And.intro rfl (And.intro rfl (And.intro rfl (And.intro rfl True.intro)))))
noncomputable def f_X1_totalBeforeEnd (x1 : Int32) (x2 : Int32) (S : St) : Option (Int64 × St) := (lp_X1_totalBeforeEnd_5 x1 x2 FU (0 : Int64) (0 : Int32) S)
set_option maxRecDepth 100000 in
set_option maxHeartbeats 4000000 in
theorem w_X1_totalBeforeEnd (X : Cx) (x1 : Int32) (x2 : Int32) (S : St) : KJ X (cX1_totalBeforeEnd, RX1, 6, 5, (some .long)) wlC jL 0 [some (.ref (xa X 2)), some (.int x1), some (.int x2), none, none, none] [] S (f_X1_totalBeforeEnd x1 x2 S) := by
  unfold f_X1_totalBeforeEnd
  refine k_lconst dX1_totalBeforeEnd_0 cl_0 ?_
  refine k_lst_n3 dX1_totalBeforeEnd_1 (by decide) rfl ?_
  refine k_iconst dX1_totalBeforeEnd_2 ci_0 ?_
  refine k_ist5 dX1_totalBeforeEnd_3 (by decide) rfl ?_
  refine k_to (pc' := 5) rfl ?_
  exact k_weak (wlp_X1_totalBeforeEnd_5 X _ _ FU _ _ _) (And.intro rfl (And.intro rfl (And.intro rfl (And.intro rfl (And.intro rfl True.intro)))))
theorem m_X1_totalBeforeEnd {l : Launch} {D : va_G} {d : Dt} (x1 : Int32) (x2 : Int32) (S : St) : ∀ (r : Int64) (S' : St), f_X1_totalBeforeEnd x1 x2 S = some (r, S') → Mt l D d wlC yX1_totalBeforeEnd cX1_totalBeforeEnd 6 (some .long) 5 [.ref (d.1 2), .int x1, .int x2] S (jL r) S' := Mt_of wadC (by decide) (Nat.le_of_ble_eq_true rfl) (fun X hL hd => by subst hd; exact w_X1_totalBeforeEnd X x1 x2 S)
noncomputable def lp_X1_leastPlace_2 : Nat → Int32 → St → Option (Int32 × St)
  | 0, _, _ => none
  | n + 1, x1, S => (if (gI S 208) ≤ x1 then (some ((-5 : Int32), S)) else (bnd (f_X1_size x1 S) fun r1 S2 => (if r1 ≤ 0 then (lp_X1_leastPlace_2 n (x1 + (1 : Int32)) S2) else (some (x1, S2)))))
set_option maxRecDepth 100000 in
set_option maxHeartbeats 4000000 in
theorem wlp_X1_leastPlace_2 (X : Cx) : ∀ (n : Nat) (x1 : Int32) (S : St), KJ X (cX1_leastPlace, RX1, 2, 2, (some .int)) wlC jI 2 [some (.ref (xa X 2)), some (.int x1)] [] S (lp_X1_leastPlace_2 n x1 S) := by
  intro n
  induction n with
  | zero => intro x1 S; rw [lp_X1_leastPlace_2]; exact k_none
  | succ n ih =>
    intro x1 S
    rw [lp_X1_leastPlace_2]
    refine k_iload_n dX1_leastPlace_2 rfl ?_
    refine k_aload_n dX1_leastPlace_3 rfl ?_
    refine k_getR gX1_37 dX1_leastPlace_4 ?_
    refine k_getI gX1_91 dX1_leastPlace_7 ?_
    refine k_icmp_ge (tgt := 29) dX1_leastPlace_10 (by decide) (fun _ => ?_) (fun _ => ?_)
    · refine k_bipush dX1_leastPlace_29 cb_m5 ?_
      exact k_iret dX1_leastPlace_31
    · refine k_to (pc' := 13) rfl ?_
      refine k_aload_n dX1_leastPlace_13 rfl ?_
      refine k_iload_n dX1_leastPlace_14 rfl ?_
      refine k_cv1i wadC lkX1_73 obX1 (m_X1_size _ _) (by decide) (Nat.le_of_ble_eq_true rfl) dX1_leastPlace_15 (fun r1 S2 => ?_)
      refine k_if_le (tgt := 23) dX1_leastPlace_18 (by decide) (fun _ => ?_) (fun _ => ?_)
      · refine k_inc1 dX1_leastPlace_23 ci_1 (by decide) rfl ?_
        refine k_goto (tgt := 2) dX1_leastPlace_26 (by decide) ?_
        refine k_to (pc' := 2) rfl ?_
        exact k_weak (ih _ _) (And.intro rfl (And.intro rfl True.intro))
      · refine k_to (pc' := 21) rfl ?_
        refine k_iload_n dX1_leastPlace_21 rfl ?_
        exact k_iret dX1_leastPlace_22
noncomputable def f_X1_leastPlace (S : St) : Option (Int32 × St) := (lp_X1_leastPlace_2 FU (0 : Int32) S)
set_option maxRecDepth 100000 in
set_option maxHeartbeats 4000000 in
theorem w_X1_leastPlace (X : Cx) (S : St) : KJ X (cX1_leastPlace, RX1, 2, 2, (some .int)) wlC jI 0 [some (.ref (xa X 2)), none] [] S (f_X1_leastPlace S) := by
  unfold f_X1_leastPlace
  refine k_iconst dX1_leastPlace_0 ci_0 ?_
  refine k_ist_n1 dX1_leastPlace_1 (by decide) rfl ?_
  refine k_to (pc' := 2) rfl ?_
  exact k_weak (wlp_X1_leastPlace_2 X FU _ _) (And.intro rfl (And.intro rfl True.intro))
theorem m_X1_leastPlace {l : Launch} {D : va_G} {d : Dt} (S : St) : ∀ (r : Int32) (S' : St), f_X1_leastPlace S = some (r, S') → Mt l D d wlC yX1_leastPlace cX1_leastPlace 2 (some .int) 2 [.ref (d.1 2)] S (jI r) S' := Mt_of wadC (by decide) (Nat.le_of_ble_eq_true rfl) (fun X hL hd => by subst hd; exact w_X1_leastPlace X S)
noncomputable def lp_X1_newBehind_35 (x1 : Int32) (x2 : Int32) (x3 : Int32) (x4 : Int64) (x6 : Int32) : Nat → Int32 → Int32 → Int32 → St → Option (Int32 × St)
  | 0, _, _, _, _ => none
  | n + 1, x7, x8, x9, S => (if x6 ≤ x9 then (some (x7, S)) else (bnd (f_X2_massBehind x1 x9 x3 x4 S) fun r7 S8 => (if (lg_cmp r7 (0 : Int64)) ≤ 0 then (lp_X1_newBehind_35 x1 x2 x3 x4 x6 n x7 x8 (x9 + (1 : Int32)) S8) else (bnd (f_X2_heldBehind x1 x9 x3 S8) fun r9 S10 => (chk (inB x2 31) (nxt (r9 &&& (gA S10 17 (x2).toNatClampNeg)) fun y11 => (if y11 = x8 then (lp_X1_newBehind_35 x1 x2 x3 x4 x6 n x7 x8 (x9 + (1 : Int32)) S10) else (bnd (f_X1_seat x2 y11 S10) fun r12 S13 => (bnd (f_X1_isThere x2 y11 r12 S13) fun r14 S15 => (if r14 = 0 then (lp_X1_newBehind_35 x1 x2 x3 x4 x6 n (x7 + (1 : Int32)) y11 (x9 + (1 : Int32)) S15) else (lp_X1_newBehind_35 x1 x2 x3 x4 x6 n x7 x8 (x9 + (1 : Int32)) S15)))))))))))
set_option maxRecDepth 100000 in
set_option maxHeartbeats 4000000 in
theorem wlp_X1_newBehind_35 (X : Cx) (x1 : Int32) (x2 : Int32) (x3 : Int32) (x4 : Int64) (x6 : Int32) : ∀ (n : Nat) (x7 : Int32) (x8 : Int32) (x9 : Int32) (S : St), KJ X (cX1_newBehind, RX1, 11, 4, (some .int)) wlC jI 35 [some (.ref (xa X 2)), some (.int x1), some (.int x2), some (.int x3), some (.long x4), none, some (.int x6), some (.int x7), some (.int x8), some (.int x9), none] [] S (lp_X1_newBehind_35 x1 x2 x3 x4 x6 n x7 x8 x9 S) := by
  intro n
  induction n with
  | zero => intro x7 x8 x9 S; rw [lp_X1_newBehind_35]; exact k_none
  | succ n ih =>
    intro x7 x8 x9 S
    rw [lp_X1_newBehind_35]
    refine k_iload dX1_newBehind_35 rfl ?_
    refine k_iload dX1_newBehind_37 rfl ?_
    refine k_icmp_ge (tgt := 117) dX1_newBehind_39 (by decide) (fun _ => ?_) (fun _ => ?_)
    · refine k_iload dX1_newBehind_117 rfl ?_
      exact k_iret dX1_newBehind_119
    · refine k_to (pc' := 42) rfl ?_
      refine k_aload_n dX1_newBehind_42 rfl ?_
      refine k_getR gX1_37 dX1_newBehind_43 ?_
      refine k_iload_n dX1_newBehind_46 rfl ?_
      refine k_iload dX1_newBehind_47 rfl ?_
      refine k_iload_n dX1_newBehind_49 rfl ?_
      refine k_lload dX1_newBehind_50 rfl ?_
      refine k_cv4l wadC lkX1_119 obX2 (m_X2_massBehind _ _ _ _ _) (by decide) (Nat.le_of_ble_eq_true rfl) dX1_newBehind_52 (fun r7 S8 => ?_)
      refine k_lconst dX1_newBehind_55 cl_0 ?_
      refine k_lcmp dX1_newBehind_56 ?_
      refine k_to (pc' := 57) rfl ?_
      refine k_if_le (tgt := 111) dX1_newBehind_57 (by decide) (fun _ => ?_) (fun _ => ?_)
      · refine k_inc9 dX1_newBehind_111 ci_1 (by decide) rfl ?_
        refine k_goto (tgt := 35) dX1_newBehind_114 (by decide) ?_
        refine k_to (pc' := 35) rfl ?_
        exact k_weak (ih _ _ _ _) (And.intro rfl (And.intro rfl (And.intro rfl (And.intro rfl (And.intro rfl (And.intro rfl (And.intro rfl (And.intro rfl (And.intro rfl True.intro)))))))))
      · refine k_to (pc' := 60) rfl ?_
        refine k_aload_n dX1_newBehind_60 rfl ?_
        refine k_getR gX1_37 dX1_newBehind_61 ?_
        refine k_iload_n dX1_newBehind_64 rfl ?_
        refine k_iload dX1_newBehind_65 rfl ?_
        refine k_iload_n dX1_newBehind_67 rfl ?_
        refine k_cv3i wadC lkX1_123 obX2 (m_X2_heldBehind _ _ _ _) (by decide) (Nat.le_of_ble_eq_true rfl) dX1_newBehind_68 (fun r9 S10 => ?_)
        refine k_aload_n dX1_newBehind_71 rfl ?_
        refine k_getR gX1_34 dX1_newBehind_72 ?_
        refine k_iload_n dX1_newBehind_75 rfl ?_
        refine k_to (pc' := 76) rfl ?_
        refine k_iald aC_17 dX1_newBehind_76 ?_
        refine k_iand dX1_newBehind_77 ?_
        refine k_ist10 dX1_newBehind_78 (by decide) rfl ?_
        refine k_nxt ?_
        refine k_iload dX1_newBehind_80 rfl ?_
        refine k_iload dX1_newBehind_82 rfl ?_
        refine k_icmp_eq (tgt := 111) dX1_newBehind_84 (by decide) (fun _ => ?_) (fun _ => ?_)
        · refine k_inc9 dX1_newBehind_111 ci_1 (by decide) rfl ?_
          refine k_goto (tgt := 35) dX1_newBehind_114 (by decide) ?_
          refine k_to (pc' := 35) rfl ?_
          exact k_weak (ih _ _ _ _) (And.intro rfl (And.intro rfl (And.intro rfl (And.intro rfl (And.intro rfl (And.intro rfl (And.intro rfl (And.intro rfl (And.intro rfl True.intro)))))))))
        · refine k_to (pc' := 87) rfl ?_
          refine k_aload_n dX1_newBehind_87 rfl ?_
          refine k_iload_n dX1_newBehind_88 rfl ?_
          refine k_iload dX1_newBehind_89 rfl ?_
          refine k_aload_n dX1_newBehind_91 rfl ?_
          refine k_iload_n dX1_newBehind_92 rfl ?_
          refine k_iload dX1_newBehind_93 rfl ?_
          refine k_cv2i wadC lkX1_127 obX1 (m_X1_seat _ _ _) (by decide) (Nat.le_of_ble_eq_true rfl) dX1_newBehind_95 (fun r12 S13 => ?_)
          refine k_cv3i wadC lkX1_130 obX1 (m_X1_isThere _ _ _ _) (by decide) (Nat.le_of_ble_eq_true rfl) dX1_newBehind_98 (fun r14 S15 => ?_)
          refine k_if_ne (tgt := 111) dX1_newBehind_101 (by decide) (fun _ => ?_) (fun _ => ?_)
          · refine k_inc9 dX1_newBehind_111 ci_1 (by decide) rfl ?_
            refine k_goto (tgt := 35) dX1_newBehind_114 (by decide) ?_
            refine k_to (pc' := 35) rfl ?_
            exact k_weak (ih _ _ _ _) (And.intro rfl (And.intro rfl (And.intro rfl (And.intro rfl (And.intro rfl (And.intro rfl (And.intro rfl (And.intro rfl (And.intro rfl True.intro)))))))))
          · refine k_to (pc' := 104) rfl ?_
            refine k_inc7 dX1_newBehind_104 ci_1 (by decide) rfl ?_
            refine k_iload dX1_newBehind_107 rfl ?_
            refine k_ist8 dX1_newBehind_109 (by decide) rfl ?_
            refine k_inc9 dX1_newBehind_111 ci_1 (by decide) rfl ?_
            refine k_goto (tgt := 35) dX1_newBehind_114 (by decide) ?_
            refine k_to (pc' := 35) rfl ?_
            exact k_weak (ih _ _ _ _) (And.intro rfl (And.intro rfl (And.intro rfl (And.intro rfl (And.intro rfl (And.intro rfl (And.intro rfl (And.intro rfl (And.intro rfl True.intro)))))))))
noncomputable def f_X1_newBehind (x1 : Int32) (x2 : Int32) (S : St) : Option (Int32 × St) := (bnd (f_X1_heldAt x1 (0 : Int32) S) fun r1 S2 => (bnd (f_X1_massAt x1 (0 : Int32) S2) fun r3 S4 => (bnd (f_X2_ways x1 S4) fun r5 S6 => (lp_X1_newBehind_35 x1 x2 r1 r3 r5 FU (0 : Int32) (-5 : Int32) (0 : Int32) S6))))
set_option maxRecDepth 100000 in
set_option maxHeartbeats 4000000 in
theorem w_X1_newBehind (X : Cx) (x1 : Int32) (x2 : Int32) (S : St) : KJ X (cX1_newBehind, RX1, 11, 4, (some .int)) wlC jI 0 [some (.ref (xa X 2)), some (.int x1), some (.int x2), none, none, none, none, none, none, none, none] [] S (f_X1_newBehind x1 x2 S) := by
  unfold f_X1_newBehind
  refine k_aload_n dX1_newBehind_0 rfl ?_
  refine k_iload_n dX1_newBehind_1 rfl ?_
  refine k_iconst dX1_newBehind_2 ci_0 ?_
  refine k_cv2i wadC lkX1_80 obX1 (m_X1_heldAt _ _ _) (by decide) (Nat.le_of_ble_eq_true rfl) dX1_newBehind_3 (fun r1 S2 => ?_)
  refine k_ist_n3 dX1_newBehind_6 (by decide) rfl ?_
  refine k_aload_n dX1_newBehind_7 rfl ?_
  refine k_iload_n dX1_newBehind_8 rfl ?_
  refine k_iconst dX1_newBehind_9 ci_0 ?_
  refine k_cv2l wadC lkX1_87 obX1 (m_X1_massAt _ _ _) (by decide) (Nat.le_of_ble_eq_true rfl) dX1_newBehind_10 (fun r3 S4 => ?_)
  refine k_to (pc' := 13) rfl ?_
  refine k_lst4 dX1_newBehind_13 (by decide) rfl ?_
  refine k_aload_n dX1_newBehind_15 rfl ?_
  refine k_getR gX1_37 dX1_newBehind_16 ?_
  refine k_iload_n dX1_newBehind_19 rfl ?_
  refine k_cv1i wadC lkX1_113 obX2 (m_X2_ways _ _) (by decide) (Nat.le_of_ble_eq_true rfl) dX1_newBehind_20 (fun r5 S6 => ?_)
  refine k_ist6 dX1_newBehind_23 (by decide) rfl ?_
  refine k_iconst dX1_newBehind_25 ci_0 ?_
  refine k_ist7 dX1_newBehind_26 (by decide) rfl ?_
  refine k_bipush dX1_newBehind_28 cb_m5 ?_
  refine k_ist8 dX1_newBehind_30 (by decide) rfl ?_
  refine k_to (pc' := 32) rfl ?_
  refine k_iconst dX1_newBehind_32 ci_0 ?_
  refine k_ist9 dX1_newBehind_33 (by decide) rfl ?_
  refine k_to (pc' := 35) rfl ?_
  exact k_weak (wlp_X1_newBehind_35 X _ _ _ _ _ FU _ _ _ _) (And.intro rfl (And.intro rfl (And.intro rfl (And.intro rfl (And.intro rfl (And.intro rfl (And.intro rfl (And.intro rfl (And.intro rfl True.intro)))))))))
theorem m_X1_newBehind {l : Launch} {D : va_G} {d : Dt} (x1 : Int32) (x2 : Int32) (S : St) : ∀ (r : Int32) (S' : St), f_X1_newBehind x1 x2 S = some (r, S') → Mt l D d wlC yX1_newBehind cX1_newBehind 11 (some .int) 4 [.ref (d.1 2), .int x1, .int x2] S (jI r) S' := Mt_of wadC (by decide) (Nat.le_of_ble_eq_true rfl) (fun X hL hd => by subst hd; exact w_X1_newBehind X x1 x2 S)
noncomputable def f_X1_hasRoomBehind (x1 : Int32) (S : St) : Option (Int32 × St) := (bnd (f_X1_heldAt x1 (0 : Int32) S) fun r1 S2 => (bnd (f_X2_placeBehind x1 r1 S2) fun r3 S4 => (if r3 < 0 then (some ((0 : Int32), S4)) else (if r3 < (31 : Int32) then (chk (inB r3 31) (nxt ((200 : Int32) - (gA S4 14 (r3).toNatClampNeg)) fun y5 => (bnd (f_X2_ways x1 S4) fun r6 S7 => (if r6 ≤ y5 then (some ((1 : Int32), S7)) else (bnd (f_X1_newBehind x1 r3 S7) fun r8 S9 => (if y5 < r8 then (some ((0 : Int32), S9)) else (some ((1 : Int32), S9)))))))) else (some ((0 : Int32), S4))))))
set_option maxRecDepth 100000 in
set_option maxHeartbeats 4000000 in
theorem w_X1_hasRoomBehind (X : Cx) (x1 : Int32) (S : St) : KJ X (cX1_hasRoomBehind, RX1, 5, 5, (some .boolean)) wlC jI 0 [some (.ref (xa X 2)), some (.int x1), none, none, none] [] S (f_X1_hasRoomBehind x1 S) := by
  unfold f_X1_hasRoomBehind
  refine k_aload_n dX1_hasRoomBehind_0 rfl ?_
  refine k_iload_n dX1_hasRoomBehind_1 rfl ?_
  refine k_iconst dX1_hasRoomBehind_2 ci_0 ?_
  refine k_cv2i wadC lkX1_80 obX1 (m_X1_heldAt _ _ _) (by decide) (Nat.le_of_ble_eq_true rfl) dX1_hasRoomBehind_3 (fun r1 S2 => ?_)
  refine k_ist_n2 dX1_hasRoomBehind_6 (by decide) rfl ?_
  refine k_aload_n dX1_hasRoomBehind_7 rfl ?_
  refine k_getR gX1_37 dX1_hasRoomBehind_8 ?_
  refine k_iload_n dX1_hasRoomBehind_11 rfl ?_
  refine k_iload_n dX1_hasRoomBehind_12 rfl ?_
  refine k_to (pc' := 13) rfl ?_
  refine k_cv2i wadC lkX1_110 obX2 (m_X2_placeBehind _ _ _) (by decide) (Nat.le_of_ble_eq_true rfl) dX1_hasRoomBehind_13 (fun r3 S4 => ?_)
  refine k_ist_n3 dX1_hasRoomBehind_16 (by decide) rfl ?_
  refine k_iload_n dX1_hasRoomBehind_17 rfl ?_
  refine k_if_lt (tgt := 27) dX1_hasRoomBehind_18 (by decide) (fun _ => ?_) (fun _ => ?_)
  · refine k_iconst dX1_hasRoomBehind_27 ci_0 ?_
    exact k_zret (Or.inl rfl) dX1_hasRoomBehind_28
  · refine k_to (pc' := 21) rfl ?_
    refine k_iload_n dX1_hasRoomBehind_21 rfl ?_
    refine k_bipush dX1_hasRoomBehind_22 cb_31 ?_
    refine k_icmp_lt (tgt := 29) dX1_hasRoomBehind_24 (by decide) (fun _ => ?_) (fun _ => ?_)
    · refine k_sipush dX1_hasRoomBehind_29 cs_200 ?_
      refine k_aload_n dX1_hasRoomBehind_32 rfl ?_
      refine k_getR gX1_25 dX1_hasRoomBehind_33 ?_
      refine k_iload_n dX1_hasRoomBehind_36 rfl ?_
      refine k_iald aC_14 dX1_hasRoomBehind_37 ?_
      refine k_isub dX1_hasRoomBehind_38 ?_
      refine k_ist4 dX1_hasRoomBehind_39 (by decide) rfl ?_
      refine k_nxt ?_
      refine k_aload_n dX1_hasRoomBehind_41 rfl ?_
      refine k_getR gX1_37 dX1_hasRoomBehind_42 ?_
      refine k_to (pc' := 45) rfl ?_
      refine k_iload_n dX1_hasRoomBehind_45 rfl ?_
      refine k_cv1i wadC lkX1_113 obX2 (m_X2_ways _ _) (by decide) (Nat.le_of_ble_eq_true rfl) dX1_hasRoomBehind_46 (fun r6 S7 => ?_)
      refine k_iload dX1_hasRoomBehind_49 rfl ?_
      refine k_icmp_le (tgt := 65) dX1_hasRoomBehind_51 (by decide) (fun _ => ?_) (fun _ => ?_)
      · refine k_iconst dX1_hasRoomBehind_65 ci_1 ?_
        refine k_goto (tgt := 70) dX1_hasRoomBehind_66 (by decide) ?_
        exact k_zret (Or.inr rfl) dX1_hasRoomBehind_70
      · refine k_to (pc' := 54) rfl ?_
        refine k_aload_n dX1_hasRoomBehind_54 rfl ?_
        refine k_iload_n dX1_hasRoomBehind_55 rfl ?_
        refine k_iload_n dX1_hasRoomBehind_56 rfl ?_
        refine k_cv2i wadC lkX1_116 obX1 (m_X1_newBehind _ _ _) (by decide) (Nat.le_of_ble_eq_true rfl) dX1_hasRoomBehind_57 (fun r8 S9 => ?_)
        refine k_iload dX1_hasRoomBehind_60 rfl ?_
        refine k_icmp_gt (tgt := 69) dX1_hasRoomBehind_62 (by decide) (fun _ => ?_) (fun _ => ?_)
        · refine k_iconst dX1_hasRoomBehind_69 ci_0 ?_
          exact k_zret (Or.inl rfl) dX1_hasRoomBehind_70
        · refine k_to (pc' := 65) rfl ?_
          refine k_iconst dX1_hasRoomBehind_65 ci_1 ?_
          refine k_goto (tgt := 70) dX1_hasRoomBehind_66 (by decide) ?_
          exact k_zret (Or.inr rfl) dX1_hasRoomBehind_70
    · refine k_to (pc' := 27) rfl ?_
      refine k_iconst dX1_hasRoomBehind_27 ci_0 ?_
      exact k_zret (Or.inl rfl) dX1_hasRoomBehind_28
theorem m_X1_hasRoomBehind {l : Launch} {D : va_G} {d : Dt} (x1 : Int32) (S : St) : ∀ (r : Int32) (S' : St), f_X1_hasRoomBehind x1 S = some (r, S') → Mt l D d wlC yX1_hasRoomBehind cX1_hasRoomBehind 5 (some .boolean) 5 [.ref (d.1 2), .int x1] S (jI r) S' := Mt_of wadC (by decide) (Nat.le_of_ble_eq_true rfl) (fun X hL hd => by subst hd; exact w_X1_hasRoomBehind X x1 S)
noncomputable def lp_X1_moveLeast_58 (x1 : Int32) (x2 : Int32) (x3 : Int64) (x5 : Int32) (x6 : Int32) : Nat → Int32 → St → Option (Unit × St)
  | 0, _, _ => none
  | n + 1, x7, S => (if x6 ≤ x7 then (some ((), S)) else (bnd (f_X2_massBehind x1 x7 x2 x3 S) fun r11 S12 => (if (lg_cmp r11 (0 : Int64)) ≤ 0 then (bnd (f_X2_isDraw x1 S12) fun r13 S14 => (if r13 = 0 then (nxt (sL S14 109 ((gL S14 109) + x3)) fun S15 => (lp_X1_moveLeast_58 x1 x2 x3 x5 x6 n (x7 + (1 : Int32)) S15)) else (lp_X1_moveLeast_58 x1 x2 x3 x5 x6 n (x7 + (1 : Int32)) S14))) else (bnd (f_X2_heldBehind x1 x7 x2 S12) fun r16 S17 => (bnd (f_X1_come x5 r16 r11 S17) fun r18 S19 => (lp_X1_moveLeast_58 x1 x2 x3 x5 x6 n (x7 + (1 : Int32)) S19))))))
set_option maxRecDepth 100000 in
set_option maxHeartbeats 4000000 in
theorem wlp_X1_moveLeast_58 (X : Cx) (x1 : Int32) (x2 : Int32) (x3 : Int64) (x5 : Int32) (x6 : Int32) : ∀ (n : Nat) (x7 : Int32) (S : St), KJ X (cX1_moveLeast, RX1, 10, 4, none) wlC jV 58 [some (.ref (xa X 2)), some (.int x1), some (.int x2), some (.long x3), none, some (.int x5), some (.int x6), some (.int x7), none, none] [] S (lp_X1_moveLeast_58 x1 x2 x3 x5 x6 n x7 S) := by
  intro n
  induction n with
  | zero => intro x7 S; rw [lp_X1_moveLeast_58]; exact k_none
  | succ n ih =>
    intro x7 S
    rw [lp_X1_moveLeast_58]
    refine k_iload dX1_moveLeast_58 rfl ?_
    refine k_iload dX1_moveLeast_60 rfl ?_
    refine k_icmp_ge (tgt := 135) dX1_moveLeast_62 (by decide) (fun _ => ?_) (fun _ => ?_)
    · exact k_vret dX1_moveLeast_135
    · refine k_to (pc' := 65) rfl ?_
      refine k_aload_n dX1_moveLeast_65 rfl ?_
      refine k_getR gX1_37 dX1_moveLeast_66 ?_
      refine k_iload_n dX1_moveLeast_69 rfl ?_
      refine k_iload dX1_moveLeast_70 rfl ?_
      refine k_iload_n dX1_moveLeast_72 rfl ?_
      refine k_lload_n dX1_moveLeast_73 rfl ?_
      refine k_cv4l wadC lkX1_119 obX2 (m_X2_massBehind _ _ _ _ _) (by decide) (Nat.le_of_ble_eq_true rfl) dX1_moveLeast_74 (fun r11 S12 => ?_)
      refine k_lst8 dX1_moveLeast_77 (by decide) rfl ?_
      refine k_lload dX1_moveLeast_79 rfl ?_
      refine k_to (pc' := 81) rfl ?_
      refine k_lconst dX1_moveLeast_81 cl_0 ?_
      refine k_lcmp dX1_moveLeast_82 ?_
      refine k_if_le (tgt := 108) dX1_moveLeast_83 (by decide) (fun _ => ?_) (fun _ => ?_)
      · refine k_aload_n dX1_moveLeast_108 rfl ?_
        refine k_getR gX1_37 dX1_moveLeast_109 ?_
        refine k_iload_n dX1_moveLeast_112 rfl ?_
        refine k_cv1i wadC lkX1_134 obX2 (m_X2_isDraw _ _) (by decide) (Nat.le_of_ble_eq_true rfl) dX1_moveLeast_113 (fun r13 S14 => ?_)
        refine k_if_ne (tgt := 129) dX1_moveLeast_116 (by decide) (fun _ => ?_) (fun _ => ?_)
        · refine k_inc7 dX1_moveLeast_129 ci_1 (by decide) rfl ?_
          refine k_goto (tgt := 58) dX1_moveLeast_132 (by decide) ?_
          refine k_to (pc' := 58) rfl ?_
          exact k_weak (ih _ _) (And.intro rfl (And.intro rfl (And.intro rfl (And.intro rfl (And.intro rfl (And.intro rfl (And.intro rfl True.intro)))))))
        · refine k_to (pc' := 119) rfl ?_
          refine k_aload_n dX1_moveLeast_119 rfl ?_
          refine k_dup dX1_moveLeast_120 rfl ?_
          refine k_getL gX1_59 dX1_moveLeast_121 ?_
          refine k_lload_n dX1_moveLeast_124 rfl ?_
          refine k_ladd dX1_moveLeast_125 ?_
          refine k_putL pX1_59 dX1_moveLeast_126 ?_
          refine k_nxt ?_
          refine k_inc7 dX1_moveLeast_129 ci_1 (by decide) rfl ?_
          refine k_goto (tgt := 58) dX1_moveLeast_132 (by decide) ?_
          refine k_to (pc' := 58) rfl ?_
          exact k_weak (ih _ _) (And.intro rfl (And.intro rfl (And.intro rfl (And.intro rfl (And.intro rfl (And.intro rfl (And.intro rfl True.intro)))))))
      · refine k_to (pc' := 86) rfl ?_
        refine k_aload_n dX1_moveLeast_86 rfl ?_
        refine k_iload dX1_moveLeast_87 rfl ?_
        refine k_aload_n dX1_moveLeast_89 rfl ?_
        refine k_getR gX1_37 dX1_moveLeast_90 ?_
        refine k_iload_n dX1_moveLeast_93 rfl ?_
        refine k_iload dX1_moveLeast_94 rfl ?_
        refine k_iload_n dX1_moveLeast_96 rfl ?_
        refine k_cv3i wadC lkX1_123 obX2 (m_X2_heldBehind _ _ _ _) (by decide) (Nat.le_of_ble_eq_true rfl) dX1_moveLeast_97 (fun r16 S17 => ?_)
        refine k_lload dX1_moveLeast_100 rfl ?_
        refine k_to (pc' := 102) rfl ?_
        refine k_cv3v wadC lkX1_69 obX1 (m_X1_come _ _ _ _) (by decide) (Nat.le_of_ble_eq_true rfl) dX1_moveLeast_102 (fun r18 S19 => ?_)
        refine k_goto (tgt := 129) dX1_moveLeast_105 (by decide) ?_
        refine k_inc7 dX1_moveLeast_129 ci_1 (by decide) rfl ?_
        refine k_goto (tgt := 58) dX1_moveLeast_132 (by decide) ?_
        refine k_to (pc' := 58) rfl ?_
        exact k_weak (ih _ _) (And.intro rfl (And.intro rfl (And.intro rfl (And.intro rfl (And.intro rfl (And.intro rfl (And.intro rfl True.intro)))))))
noncomputable def f_X1_moveLeast (x1 : Int32) (S : St) : Option (Unit × St) := (bnd (f_X1_heldAt x1 (0 : Int32) S) fun r1 S2 => (bnd (f_X1_massAt x1 (0 : Int32) S2) fun r3 S4 => (bnd (f_X2_placeBehind x1 r1 S4) fun r5 S6 => (bnd (f_X2_ways x1 S6) fun r7 S8 => (chk (inB x1 31) (chk (inB x1 31) (nxt (sA S8 13 (upd (gA S8 13) (x1).toNatClampNeg ((gA S8 13 (x1).toNatClampNeg) + (1 : Int32)))) fun S9 => (nxt (sI S9 110 ((gI S9 110) + (1 : Int32))) fun S10 => (lp_X1_moveLeast_58 x1 r1 r3 r5 r7 FU (0 : Int32) S10)))))))))
set_option maxRecDepth 100000 in
set_option maxHeartbeats 4000000 in
theorem w_X1_moveLeast (X : Cx) (x1 : Int32) (S : St) : KJ X (cX1_moveLeast, RX1, 10, 4, none) wlC jV 0 [some (.ref (xa X 2)), some (.int x1), none, none, none, none, none, none, none, none] [] S (f_X1_moveLeast x1 S) := by
  unfold f_X1_moveLeast
  refine k_aload_n dX1_moveLeast_0 rfl ?_
  refine k_iload_n dX1_moveLeast_1 rfl ?_
  refine k_iconst dX1_moveLeast_2 ci_0 ?_
  refine k_cv2i wadC lkX1_80 obX1 (m_X1_heldAt _ _ _) (by decide) (Nat.le_of_ble_eq_true rfl) dX1_moveLeast_3 (fun r1 S2 => ?_)
  refine k_ist_n2 dX1_moveLeast_6 (by decide) rfl ?_
  refine k_aload_n dX1_moveLeast_7 rfl ?_
  refine k_iload_n dX1_moveLeast_8 rfl ?_
  refine k_iconst dX1_moveLeast_9 ci_0 ?_
  refine k_cv2l wadC lkX1_87 obX1 (m_X1_massAt _ _ _) (by decide) (Nat.le_of_ble_eq_true rfl) dX1_moveLeast_10 (fun r3 S4 => ?_)
  refine k_to (pc' := 13) rfl ?_
  refine k_lst_n3 dX1_moveLeast_13 (by decide) rfl ?_
  refine k_aload_n dX1_moveLeast_14 rfl ?_
  refine k_getR gX1_37 dX1_moveLeast_15 ?_
  refine k_iload_n dX1_moveLeast_18 rfl ?_
  refine k_iload_n dX1_moveLeast_19 rfl ?_
  refine k_cv2i wadC lkX1_110 obX2 (m_X2_placeBehind _ _ _) (by decide) (Nat.le_of_ble_eq_true rfl) dX1_moveLeast_20 (fun r5 S6 => ?_)
  refine k_ist5 dX1_moveLeast_23 (by decide) rfl ?_
  refine k_aload_n dX1_moveLeast_25 rfl ?_
  refine k_getR gX1_37 dX1_moveLeast_26 ?_
  refine k_iload_n dX1_moveLeast_29 rfl ?_
  refine k_to (pc' := 30) rfl ?_
  refine k_cv1i wadC lkX1_113 obX2 (m_X2_ways _ _) (by decide) (Nat.le_of_ble_eq_true rfl) dX1_moveLeast_30 (fun r7 S8 => ?_)
  refine k_ist6 dX1_moveLeast_33 (by decide) rfl ?_
  refine k_aload_n dX1_moveLeast_35 rfl ?_
  refine k_getR gX1_21 dX1_moveLeast_36 ?_
  refine k_iload_n dX1_moveLeast_39 rfl ?_
  refine k_dup2 dX1_moveLeast_40 rfl rfl ?_
  refine k_iald aC_13 dX1_moveLeast_41 ?_
  refine k_iconst dX1_moveLeast_42 ci_1 ?_
  refine k_iadd dX1_moveLeast_43 ?_
  refine k_iast aC_13 dX1_moveLeast_44 ?_
  refine k_nxt ?_
  refine k_to (pc' := 45) rfl ?_
  refine k_aload_n dX1_moveLeast_45 rfl ?_
  refine k_dup dX1_moveLeast_46 rfl ?_
  refine k_getI gX1_63 dX1_moveLeast_47 ?_
  refine k_iconst dX1_moveLeast_50 ci_1 ?_
  refine k_iadd dX1_moveLeast_51 ?_
  refine k_putI pX1_63 dX1_moveLeast_52 ?_
  refine k_nxt ?_
  refine k_iconst dX1_moveLeast_55 ci_0 ?_
  refine k_ist7 dX1_moveLeast_56 (by decide) rfl ?_
  refine k_to (pc' := 58) rfl ?_
  exact k_weak (wlp_X1_moveLeast_58 X _ _ _ _ _ FU _ _) (And.intro rfl (And.intro rfl (And.intro rfl (And.intro rfl (And.intro rfl (And.intro rfl (And.intro rfl True.intro)))))))
theorem m_X1_moveLeast {l : Launch} {D : va_G} {d : Dt} (x1 : Int32) (S : St) : ∀ (r : Unit) (S' : St), f_X1_moveLeast x1 S = some (r, S') → Mt l D d wlC yX1_moveLeast cX1_moveLeast 10 none 4 [.ref (d.1 2), .int x1] S (jV r) S' := Mt_of wadC (by decide) (Nat.le_of_ble_eq_true rfl) (fun X hL hd => by subst hd; exact w_X1_moveLeast X x1 S)
noncomputable def lp_X1_spend_2 (x1 : Int32) : Nat → Int32 → St → Option (Int32 × St)
  | 0, _, _ => none
  | n + 1, x2, S => (if x1 ≤ x2 then (some (x2, S)) else (bnd (f_X1_leastPlace S) fun r1 S2 => (if r1 = (-5 : Int32) then (some (x2, S2)) else (bnd (f_X1_hasRoomBehind r1 S2) fun r3 S4 => (if r3 = 0 then (some (x2, S4)) else (bnd (f_X1_moveLeast r1 S4) fun r5 S6 => (lp_X1_spend_2 x1 n (x2 + (1 : Int32)) S6)))))))
set_option maxRecDepth 100000 in
set_option maxHeartbeats 4000000 in
theorem wlp_X1_spend_2 (X : Cx) (x1 : Int32) : ∀ (n : Nat) (x2 : Int32) (S : St), KJ X (cX1_spend, RX1, 4, 6, (some .int)) wlC jI 2 [some (.ref (xa X 2)), some (.int x1), some (.int x2), none] [] S (lp_X1_spend_2 x1 n x2 S) := by
  intro n
  induction n with
  | zero => intro x2 S; rw [lp_X1_spend_2]; exact k_none
  | succ n ih =>
    intro x2 S
    rw [lp_X1_spend_2]
    refine k_iload_n dX1_spend_2 rfl ?_
    refine k_iload_n dX1_spend_3 rfl ?_
    refine k_icmp_ge (tgt := 40) dX1_spend_4 (by decide) (fun _ => ?_) (fun _ => ?_)
    · refine k_iload_n dX1_spend_40 rfl ?_
      exact k_iret dX1_spend_41
    · refine k_to (pc' := 7) rfl ?_
      refine k_aload_n dX1_spend_7 rfl ?_
      refine k_cv0i wadC lkX1_98 obX1 (m_X1_leastPlace _) (by decide) (Nat.le_of_ble_eq_true rfl) dX1_spend_8 (fun r1 S2 => ?_)
      refine k_ist_n3 dX1_spend_11 (by decide) rfl ?_
      refine k_iload_n dX1_spend_12 rfl ?_
      refine k_bipush dX1_spend_13 cb_m5 ?_
      refine k_icmp_eq (tgt := 40) dX1_spend_15 (by decide) (fun _ => ?_) (fun _ => ?_)
      · refine k_iload_n dX1_spend_40 rfl ?_
        exact k_iret dX1_spend_41
      · refine k_to (pc' := 18) rfl ?_
        refine k_aload_n dX1_spend_18 rfl ?_
        refine k_iload_n dX1_spend_19 rfl ?_
        refine k_cv1i wadC lkX1_102 obX1 (m_X1_hasRoomBehind _ _) (by decide) (Nat.le_of_ble_eq_true rfl) dX1_spend_20 (fun r3 S4 => ?_)
        refine k_if_ne (tgt := 29) dX1_spend_23 (by decide) (fun _ => ?_) (fun _ => ?_)
        · refine k_aload_n dX1_spend_29 rfl ?_
          refine k_iload_n dX1_spend_30 rfl ?_
          refine k_cv1v wadC lkX1_106 obX1 (m_X1_moveLeast _ _) (by decide) (Nat.le_of_ble_eq_true rfl) dX1_spend_31 (fun r5 S6 => ?_)
          refine k_inc2 dX1_spend_34 ci_1 (by decide) rfl ?_
          refine k_goto (tgt := 2) dX1_spend_37 (by decide) ?_
          refine k_to (pc' := 2) rfl ?_
          exact k_weak (ih _ _) (And.intro rfl (And.intro rfl (And.intro rfl True.intro)))
        · refine k_to (pc' := 26) rfl ?_
          refine k_goto (tgt := 40) dX1_spend_26 (by decide) ?_
          refine k_iload_n dX1_spend_40 rfl ?_
          exact k_iret dX1_spend_41
noncomputable def f_X1_spend (x1 : Int32) (S : St) : Option (Int32 × St) := (lp_X1_spend_2 x1 FU (0 : Int32) S)
set_option maxRecDepth 100000 in
set_option maxHeartbeats 4000000 in
theorem w_X1_spend (X : Cx) (x1 : Int32) (S : St) : KJ X (cX1_spend, RX1, 4, 6, (some .int)) wlC jI 0 [some (.ref (xa X 2)), some (.int x1), none, none] [] S (f_X1_spend x1 S) := by
  unfold f_X1_spend
  refine k_iconst dX1_spend_0 ci_0 ?_
  refine k_ist_n2 dX1_spend_1 (by decide) rfl ?_
  refine k_to (pc' := 2) rfl ?_
  exact k_weak (wlp_X1_spend_2 X _ FU _ _) (And.intro rfl (And.intro rfl (And.intro rfl True.intro)))
theorem m_X1_spend {l : Launch} {D : va_G} {d : Dt} (x1 : Int32) (S : St) : ∀ (r : Int32) (S' : St), f_X1_spend x1 S = some (r, S') → Mt l D d wlC yX1_spend cX1_spend 4 (some .int) 6 [.ref (d.1 2), .int x1] S (jI r) S' := Mt_of wadC (by decide) (Nat.le_of_ble_eq_true rfl) (fun X hL hd => by subst hd; exact w_X1_spend X x1 S)
