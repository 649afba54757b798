/-! ===== a Program's making ===== -/
set_option maxHeartbeats 2000000 in
set_option maxRecDepth 100000 in
theorem c_X2_init (l : Launch) (D : va_G) (d0 : Dt) (h0 sz : Nat) : Met l yX2_init (Cond.code yX2_init cX2_init 1 none :: TsG) ({ frames := 3, cells := 11, slots := 225, locals := 200 }) (va_Pc [.ref h0] (fun U => U.heap.size = sz ∧ va_P D vwCl [(h0, .inr (1, [.null, .null, .null, .null, .null, .null, .null, .int 0, .int 0, .int 0, .int 0]))] U.heap ∧ va_K D vwCl (dtT d0) U ∧ va_D (fun _ => True) [(h0, .inr (1, [.null, .null, .null, .null, .null, .null, .null, .int 0, .int 0, .int 0, .int 0]))] ∧ NwU U ∧ va_AOA .int U)) (va_Qv (fun u : (Nat → Nat) × St => u.1 0 = h0 ∧ gI u.2 207 = iv 0 ∧ gI u.2 208 = iv 0 ∧ gI u.2 209 = iv 0 ∧ gI u.2 210 = iv 0 ∧ (∀ k, k < 7 → gA u.2 k = fun _ => 0) ∧ ∀ r v, r < 4 → v < 10 → gA u.2 (7 + r) v = iv (pW P0 r v)) (fun u t => va_P D vwCl (wlP (u.1, d0.2) u.2) t.heap ∧ va_K D vwCl (dtT d0) t ∧ va_D (va_A [(h0, .inr (1, [.null, .null, .null, .null, .null, .null, .null, .int 0, .int 0, .int 0, .int 0]))] sz) (wlP (u.1, d0.2) u.2)) (va_A [(h0, .inr (1, [.null, .null, .null, .null, .null, .null, .null, .int 0, .int 0, .int 0, .int 0]))] sz)) 11 225 (va_A [(h0, .inr (1, [.null, .null, .null, .null, .null, .null, .null, .int 0, .int 0, .int 0, .int 0]))] sz) := by
  refine Met.ofW (cc := cX2_init) (maxL := 1) (ret := none) (by decide) rfl ?_
  intro p e s m args below meth c s₁ B hml hv
  obtain ⟨rfl, hsz, hP, hK, hD0, hN, hOi⟩ := hv
  have hx := B.exec
  have hb := B.bytes
  have hr := B.returns
  have hts0 := atoms_spec (ws := Cond.code yX2_init cX2_init 1 none :: TsG) B.pre
  have hts : ∀ w ∈ TsG, w.before _ s = true := fun w h => hts0 w (List.mem_cons_of_mem _ h)
  have hown : s.vm.findClass RX2 = some m.cls := findClass_of_methodNamed B.named
  have hlocks := B.notSynchronized
  have hin : meth.name = "<init>" := (name_of_methodNamed B.named B.method).1
  subst hsz
  have hD := hD0.self (sz := s.heap.size)
  generalize hAe : va_A [(h0, .inr (1, [.null, .null, .null, .null, .null, .null, .null, .int 0, .int 0, .int 0, .int 0]))] s.heap.size = A at hD ⊢
  have hA : ∀ q : Nat, s.heap.size ≤ q → A q := fun q h => by rw [← hAe]; exact Or.inr h
  have hS : va_S A s.heap s.heap [] := va_S.rf
  have hl := lv_entry ([.ref h0]) (n := 1) (Nat.le_of_ble_eq_true rfl)
  rw [lg_entry_eq]
  generalize (lg_sl ([.ref h0]) ++ List.replicate (1 - (lg_sl ([.ref h0])).length) Slot.unset).toArray = ls at hl ⊢
  have hl : lv_has ls 1 [(0, .ref h0)] := hl
  refine lv_aload_n hx hb dX2_init_0 rfl (lv_at hl 0 rfl) ?_
  refine W.objInit hx hb hown (hts _ (T11 (i := 26) rfl rfl)) (hts _ woi_m) (hts _ woi_c) rfl (by rw [hml]; exact hl.1) rfl dX2_init_1 (Nat.le_of_ble_eq_true rfl) (Nat.le_of_ble_eq_true rfl) ?_
  refine W.eq (g2 := F0 m 4 ls []) rfl ?_
  refine lv_aload_n hx hb dX2_init_4 rfl (lv_at hl 0 rfl) ?_
  refine lv_bipush (v := 30) hx hb dX2_init_5 (by decide) ?_
  refine fr_newa (atype := .int) (n := 30) (N' := 30) (a0 := (30, .inl (fun _ => 0))) hx hb (hts _ wac_i) rfl rfl hK (t0 := 0) rfl hP hD hS hA (fun cA => cell_i cA 30) (by decide) (by decide) (by decide) (Nat.le_of_ble_eq_true rfl) (Nat.le_of_ble_eq_true rfl) dX2_init_7 (fun q7 H hP hD hS => ?_)
  refine W.widen (k := 1) (n := 30) (Nat.le_of_ble_eq_true rfl) (Nat.le_of_ble_eq_true rfl) ?_
  refine va_putF (D := D) (ci := 1) (v := .ref q7) (ty := .array .int) (C := RX2) (T := TX2) (N := 11) hx hb hts uwX2 tyX2 tyX2_ok nmX2 hown hK hP hD hS 0 rfl rfl 0 (by decide) (hts _ (T11 (i := 33) rfl rfl)) (fun _ h9 => h9) rfl hin rfl (by decide +kernel) rfl rfl (Nat.le_of_ble_eq_true rfl) dX2_init_9 (fun H locs hP hD hS => ?_)
  have hP : va_P D vwCl (([(h0, .inr (1, [.ref q7, .null, .null, .null, .null, .null, .null, .int 0, .int 0, .int 0, .int 0]))] ++ [(q7, .inl (d0.2.1, 30, .inl (fun _ => 0)))])) H := hP
  have hD : va_D A (([(h0, .inr (1, [.ref q7, .null, .null, .null, .null, .null, .null, .int 0, .int 0, .int 0, .int 0]))] ++ [(q7, .inl (d0.2.1, 30, .inl (fun _ => 0)))])) := hD
  refine lv_aload_n hx hb dX2_init_12 rfl (lv_at hl 0 rfl) ?_
  refine lv_bipush (v := 30) hx hb dX2_init_13 (by decide) ?_
  refine fr_newa (atype := .int) (n := 30) (N' := 30) (a0 := (30, .inl (fun _ => 0))) hx hb (hts _ wac_i) rfl rfl hK (t0 := 0) rfl hP hD hS hA (fun cA => cell_i cA 30) (by decide) (by decide) (by decide) (Nat.le_of_ble_eq_true rfl) (Nat.le_of_ble_eq_true rfl) dX2_init_15 (fun q15 H hP hD hS => ?_)
  refine W.widen (k := 2) (n := 60) (Nat.le_of_ble_eq_true rfl) (Nat.le_of_ble_eq_true rfl) ?_
  refine va_putF (D := D) (ci := 1) (v := .ref q15) (ty := .array .int) (C := RX2) (T := TX2) (N := 11) hx hb hts uwX2 tyX2 tyX2_ok nmX2 hown hK hP hD hS 0 rfl rfl 1 (by decide) (hts _ (T11 (i := 34) rfl rfl)) (fun _ h9 => h9) rfl hin rfl (by decide +kernel) rfl rfl (Nat.le_of_ble_eq_true rfl) dX2_init_17 (fun H locs hP hD hS => ?_)
  have hP : va_P D vwCl ((([(h0, .inr (1, [.ref q7, .ref q15, .null, .null, .null, .null, .null, .int 0, .int 0, .int 0, .int 0]))] ++ [(q7, .inl (d0.2.1, 30, .inl (fun _ => 0)))]) ++ [(q15, .inl (d0.2.1, 30, .inl (fun _ => 0)))])) H := hP
  have hD : va_D A ((([(h0, .inr (1, [.ref q7, .ref q15, .null, .null, .null, .null, .null, .int 0, .int 0, .int 0, .int 0]))] ++ [(q7, .inl (d0.2.1, 30, .inl (fun _ => 0)))]) ++ [(q15, .inl (d0.2.1, 30, .inl (fun _ => 0)))])) := hD
  refine lv_aload_n hx hb dX2_init_20 rfl (lv_at hl 0 rfl) ?_
  refine lv_bipush (v := 30) hx hb dX2_init_21 (by decide) ?_
  refine fr_newa (atype := .int) (n := 30) (N' := 30) (a0 := (30, .inl (fun _ => 0))) hx hb (hts _ wac_i) rfl rfl hK (t0 := 0) rfl hP hD hS hA (fun cA => cell_i cA 30) (by decide) (by decide) (by decide) (Nat.le_of_ble_eq_true rfl) (Nat.le_of_ble_eq_true rfl) dX2_init_23 (fun q23 H hP hD hS => ?_)
  refine W.widen (k := 3) (n := 90) (Nat.le_of_ble_eq_true rfl) (Nat.le_of_ble_eq_true rfl) ?_
  refine va_putF (D := D) (ci := 1) (v := .ref q23) (ty := .array .int) (C := RX2) (T := TX2) (N := 11) hx hb hts uwX2 tyX2 tyX2_ok nmX2 hown hK hP hD hS 0 rfl rfl 2 (by decide) (hts _ (T11 (i := 35) rfl rfl)) (fun _ h9 => h9) rfl hin rfl (by decide +kernel) rfl rfl (Nat.le_of_ble_eq_true rfl) dX2_init_25 (fun H locs hP hD hS => ?_)
  have hP : va_P D vwCl (((([(h0, .inr (1, [.ref q7, .ref q15, .ref q23, .null, .null, .null, .null, .int 0, .int 0, .int 0, .int 0]))] ++ [(q7, .inl (d0.2.1, 30, .inl (fun _ => 0)))]) ++ [(q15, .inl (d0.2.1, 30, .inl (fun _ => 0)))]) ++ [(q23, .inl (d0.2.1, 30, .inl (fun _ => 0)))])) H := hP
  have hD : va_D A (((([(h0, .inr (1, [.ref q7, .ref q15, .ref q23, .null, .null, .null, .null, .int 0, .int 0, .int 0, .int 0]))] ++ [(q7, .inl (d0.2.1, 30, .inl (fun _ => 0)))]) ++ [(q15, .inl (d0.2.1, 30, .inl (fun _ => 0)))]) ++ [(q23, .inl (d0.2.1, 30, .inl (fun _ => 0)))])) := hD
  refine lv_aload_n hx hb dX2_init_28 rfl (lv_at hl 0 rfl) ?_
  refine lv_bipush (v := 30) hx hb dX2_init_29 (by decide) ?_
  refine fr_newa (atype := .int) (n := 30) (N' := 30) (a0 := (30, .inl (fun _ => 0))) hx hb (hts _ wac_i) rfl rfl hK (t0 := 0) rfl hP hD hS hA (fun cA => cell_i cA 30) (by decide) (by decide) (by decide) (Nat.le_of_ble_eq_true rfl) (Nat.le_of_ble_eq_true rfl) dX2_init_31 (fun q31 H hP hD hS => ?_)
  refine W.widen (k := 4) (n := 120) (Nat.le_of_ble_eq_true rfl) (Nat.le_of_ble_eq_true rfl) ?_
  refine va_putF (D := D) (ci := 1) (v := .ref q31) (ty := .array .int) (C := RX2) (T := TX2) (N := 11) hx hb hts uwX2 tyX2 tyX2_ok nmX2 hown hK hP hD hS 0 rfl rfl 3 (by decide) (hts _ (T11 (i := 36) rfl rfl)) (fun _ h9 => h9) rfl hin rfl (by decide +kernel) rfl rfl (Nat.le_of_ble_eq_true rfl) dX2_init_33 (fun H locs hP hD hS => ?_)
  have hP : va_P D vwCl ((((([(h0, .inr (1, [.ref q7, .ref q15, .ref q23, .ref q31, .null, .null, .null, .int 0, .int 0, .int 0, .int 0]))] ++ [(q7, .inl (d0.2.1, 30, .inl (fun _ => 0)))]) ++ [(q15, .inl (d0.2.1, 30, .inl (fun _ => 0)))]) ++ [(q23, .inl (d0.2.1, 30, .inl (fun _ => 0)))]) ++ [(q31, .inl (d0.2.1, 30, .inl (fun _ => 0)))])) H := hP
  have hD : va_D A ((((([(h0, .inr (1, [.ref q7, .ref q15, .ref q23, .ref q31, .null, .null, .null, .int 0, .int 0, .int 0, .int 0]))] ++ [(q7, .inl (d0.2.1, 30, .inl (fun _ => 0)))]) ++ [(q15, .inl (d0.2.1, 30, .inl (fun _ => 0)))]) ++ [(q23, .inl (d0.2.1, 30, .inl (fun _ => 0)))]) ++ [(q31, .inl (d0.2.1, 30, .inl (fun _ => 0)))])) := hD
  refine lv_aload_n hx hb dX2_init_36 rfl (lv_at hl 0 rfl) ?_
  refine lv_bipush (v := 30) hx hb dX2_init_37 (by decide) ?_
  refine fr_newa (atype := .int) (n := 30) (N' := 30) (a0 := (30, .inl (fun _ => 0))) hx hb (hts _ wac_i) rfl rfl hK (t0 := 0) rfl hP hD hS hA (fun cA => cell_i cA 30) (by decide) (by decide) (by decide) (Nat.le_of_ble_eq_true rfl) (Nat.le_of_ble_eq_true rfl) dX2_init_39 (fun q39 H hP hD hS => ?_)
  refine W.widen (k := 5) (n := 150) (Nat.le_of_ble_eq_true rfl) (Nat.le_of_ble_eq_true rfl) ?_
  refine va_putF (D := D) (ci := 1) (v := .ref q39) (ty := .array .int) (C := RX2) (T := TX2) (N := 11) hx hb hts uwX2 tyX2 tyX2_ok nmX2 hown hK hP hD hS 0 rfl rfl 4 (by decide) (hts _ (T11 (i := 37) rfl rfl)) (fun _ h9 => h9) rfl hin rfl (by decide +kernel) rfl rfl (Nat.le_of_ble_eq_true rfl) dX2_init_41 (fun H locs hP hD hS => ?_)
  have hP : va_P D vwCl (((((([(h0, .inr (1, [.ref q7, .ref q15, .ref q23, .ref q31, .ref q39, .null, .null, .int 0, .int 0, .int 0, .int 0]))] ++ [(q7, .inl (d0.2.1, 30, .inl (fun _ => 0)))]) ++ [(q15, .inl (d0.2.1, 30, .inl (fun _ => 0)))]) ++ [(q23, .inl (d0.2.1, 30, .inl (fun _ => 0)))]) ++ [(q31, .inl (d0.2.1, 30, .inl (fun _ => 0)))]) ++ [(q39, .inl (d0.2.1, 30, .inl (fun _ => 0)))])) H := hP
  have hD : va_D A (((((([(h0, .inr (1, [.ref q7, .ref q15, .ref q23, .ref q31, .ref q39, .null, .null, .int 0, .int 0, .int 0, .int 0]))] ++ [(q7, .inl (d0.2.1, 30, .inl (fun _ => 0)))]) ++ [(q15, .inl (d0.2.1, 30, .inl (fun _ => 0)))]) ++ [(q23, .inl (d0.2.1, 30, .inl (fun _ => 0)))]) ++ [(q31, .inl (d0.2.1, 30, .inl (fun _ => 0)))]) ++ [(q39, .inl (d0.2.1, 30, .inl (fun _ => 0)))])) := hD
  refine lv_aload_n hx hb dX2_init_44 rfl (lv_at hl 0 rfl) ?_
  refine lv_iconst (v := 4) hx hb dX2_init_45 (by decide) ?_
  refine lv_bipush (v := 10) hx hb dX2_init_46 (by decide) ?_
  refine fr_mna (ty := .int) (n := 4) (k := 10) (N' := 4) (K' := 10) (z := (10, .inl (fun _ => 0))) hx hb rfl hown (by rw [nm_ii]; exact hts _ (T11 (i := 27) rfl rfl)) hOi (hts _ wac_i) hK (t0 := 0) (t1 := 3) rfl rfl (by decide +kernel) hP hD hS hA (by decide) (by decide) (by decide) (by decide) (by decide) (by decide) (by decide) rfl rfl (Nat.le_of_ble_eq_true rfl) (Nat.le_of_ble_eq_true rfl) (fun c => inn_i c 10) dX2_init_48 (fun q48 r48 H hP hD hS => ?_)
  refine W.widen (k := 10) (n := 194) (Nat.le_of_ble_eq_true rfl) (Nat.le_of_ble_eq_true rfl) ?_
  refine va_putF (D := D) (ci := 1) (v := .ref q48) (ty := .array (.array .int)) (C := RX2) (T := TX2) (N := 11) hx hb hts uwX2 tyX2 tyX2_ok nmX2 hown hK hP hD hS 0 rfl rfl 5 (by decide) (hts _ (T11 (i := 38) rfl rfl)) (fun _ h9 => h9) rfl hin rfl (by decide +kernel) rfl rfl (Nat.le_of_ble_eq_true rfl) dX2_init_52 (fun H locs hP hD hS => ?_)
  have hP : va_P D vwCl (((((((([(h0, .inr (1, [.ref q7, .ref q15, .ref q23, .ref q31, .ref q39, .ref q48, .null, .int 0, .int 0, .int 0, .int 0]))] ++ [(q7, .inl (d0.2.1, 30, .inl (fun _ => 0)))]) ++ [(q15, .inl (d0.2.1, 30, .inl (fun _ => 0)))]) ++ [(q23, .inl (d0.2.1, 30, .inl (fun _ => 0)))]) ++ [(q31, .inl (d0.2.1, 30, .inl (fun _ => 0)))]) ++ [(q39, .inl (d0.2.1, 30, .inl (fun _ => 0)))]) ++ [(q48, .inl (d0.2.2.2.2.1, 4, .inr (.inr (.inr (.inr (fun i => some (r48 i)))))))]) ++ (List.range 4).map (fun i => (r48 i, .inl (d0.2.1, 10, .inl (fun _ => 0)))))) H := hP
  have hD : va_D A (((((((([(h0, .inr (1, [.ref q7, .ref q15, .ref q23, .ref q31, .ref q39, .ref q48, .null, .int 0, .int 0, .int 0, .int 0]))] ++ [(q7, .inl (d0.2.1, 30, .inl (fun _ => 0)))]) ++ [(q15, .inl (d0.2.1, 30, .inl (fun _ => 0)))]) ++ [(q23, .inl (d0.2.1, 30, .inl (fun _ => 0)))]) ++ [(q31, .inl (d0.2.1, 30, .inl (fun _ => 0)))]) ++ [(q39, .inl (d0.2.1, 30, .inl (fun _ => 0)))]) ++ [(q48, .inl (d0.2.2.2.2.1, 4, .inr (.inr (.inr (.inr (fun i => some (r48 i)))))))]) ++ (List.range 4).map (fun i => (r48 i, .inl (d0.2.1, 10, .inl (fun _ => 0)))))) := hD
  refine lv_aload_n hx hb dX2_init_55 rfl (lv_at hl 0 rfl) ?_
  refine lv_bipush (v := 31) hx hb dX2_init_56 (by decide) ?_
  refine fr_newa (atype := .int) (n := 31) (N' := 31) (a0 := (31, .inl (fun _ => 0))) hx hb (hts _ wac_i) rfl rfl hK (t0 := 0) rfl hP hD hS hA (fun cA => cell_i cA 31) (by decide) (by decide) (by decide) (Nat.le_of_ble_eq_true rfl) (Nat.le_of_ble_eq_true rfl) dX2_init_58 (fun q58 H hP hD hS => ?_)
  refine W.widen (k := 11) (n := 225) (Nat.le_of_ble_eq_true rfl) (Nat.le_of_ble_eq_true rfl) ?_
  refine va_putF (D := D) (ci := 1) (v := .ref q58) (ty := .array .int) (C := RX2) (T := TX2) (N := 11) hx hb hts uwX2 tyX2 tyX2_ok nmX2 hown hK hP hD hS 0 rfl rfl 6 (by decide) (hts _ (T11 (i := 39) rfl rfl)) (fun _ h9 => h9) rfl hin rfl (by decide +kernel) rfl rfl (Nat.le_of_ble_eq_true rfl) dX2_init_60 (fun H locs hP hD hS => ?_)
  have hP : va_P D vwCl ((((((((([(h0, .inr (1, [.ref q7, .ref q15, .ref q23, .ref q31, .ref q39, .ref q48, .ref q58, .int 0, .int 0, .int 0, .int 0]))] ++ [(q7, .inl (d0.2.1, 30, .inl (fun _ => 0)))]) ++ [(q15, .inl (d0.2.1, 30, .inl (fun _ => 0)))]) ++ [(q23, .inl (d0.2.1, 30, .inl (fun _ => 0)))]) ++ [(q31, .inl (d0.2.1, 30, .inl (fun _ => 0)))]) ++ [(q39, .inl (d0.2.1, 30, .inl (fun _ => 0)))]) ++ [(q48, .inl (d0.2.2.2.2.1, 4, .inr (.inr (.inr (.inr (fun i => some (r48 i)))))))]) ++ (List.range 4).map (fun i => (r48 i, .inl (d0.2.1, 10, .inl (fun _ => 0))))) ++ [(q58, .inl (d0.2.1, 31, .inl (fun _ => 0)))])) H := hP
  have hD : va_D A ((((((((([(h0, .inr (1, [.ref q7, .ref q15, .ref q23, .ref q31, .ref q39, .ref q48, .ref q58, .int 0, .int 0, .int 0, .int 0]))] ++ [(q7, .inl (d0.2.1, 30, .inl (fun _ => 0)))]) ++ [(q15, .inl (d0.2.1, 30, .inl (fun _ => 0)))]) ++ [(q23, .inl (d0.2.1, 30, .inl (fun _ => 0)))]) ++ [(q31, .inl (d0.2.1, 30, .inl (fun _ => 0)))]) ++ [(q39, .inl (d0.2.1, 30, .inl (fun _ => 0)))]) ++ [(q48, .inl (d0.2.2.2.2.1, 4, .inr (.inr (.inr (.inr (fun i => some (r48 i)))))))]) ++ (List.range 4).map (fun i => (r48 i, .inl (d0.2.1, 10, .inl (fun _ => 0))))) ++ [(q58, .inl (d0.2.1, 31, .inl (fun _ => 0)))])) := hD
  refine lv_aload_n hx hb dX2_init_63 rfl (lv_at hl 0 rfl) ?_
  obtain ⟨S', hre, hS'⟩ := rsP
  obtain ⟨adr, hadr⟩ : ∃ adr : Nat → Nat, adr = fun c => if c < 7 then ([h0, q7, q15, q23, q31, q39, q48] : List Nat).getD c 0 else if c < 11 then r48 (c - 7) else q58 := ⟨_, rfl⟩
  have hfun : (fun i => some (r48 i)) = fun i => if i < 4 then some (adr (7 + i)) else some (r48 i) := by
    funext i
    subst hadr
    by_cases h : i < 4
    · rw [if_pos h]
      show _ = some (if 7 + i < 7 then _ else if 7 + i < 11 then r48 (7 + i - 7) else q58)
      rw [if_neg (by omega), if_pos (by omega), Nat.add_sub_cancel_left]
    · rw [if_neg h]
  have hP := P_one (cA := d0.2.2.2.2.1) (a := (4, .inr (.inr (.inr (.inr (fun i => some (r48 i))))))) (a' := (4, .inr (.inr (.inr (.inr (fun i => some (adr (7 + i)))))))) (wa := [(h0, .inr (1, [.ref q7, .ref q15, .ref q23, .ref q31, .ref q39, .ref q48, .ref q58, .int 0, .int 0, .int 0, .int 0])), (q7, .inl (d0.2.1, 30, .inl (fun _ => 0))), (q15, .inl (d0.2.1, 30, .inl (fun _ => 0))), (q23, .inl (d0.2.1, 30, .inl (fun _ => 0))), (q31, .inl (d0.2.1, 30, .inl (fun _ => 0))), (q39, .inl (d0.2.1, 30, .inl (fun _ => 0)))]) (wb := ((List.range 4).map (fun i => (r48 i, .inl (d0.2.1, 10, .inl (fun _ => 0)))) ++ [(q58, .inl (d0.2.1, 31, .inl (fun _ => 0)))])) (by
    rw [hfun, vp_cell_q, vp_cell_q]
    unfold arrV
    congr 1) hP
  have hD := D_one (y := .inl (d0.2.2.2.2.1, 4, .inr (.inr (.inr (.inr (fun i => some (adr (7 + i)))))))) (wa := [(h0, .inr (1, [.ref q7, .ref q15, .ref q23, .ref q31, .ref q39, .ref q48, .ref q58, .int 0, .int 0, .int 0, .int 0])), (q7, .inl (d0.2.1, 30, .inl (fun _ => 0))), (q15, .inl (d0.2.1, 30, .inl (fun _ => 0))), (q23, .inl (d0.2.1, 30, .inl (fun _ => 0))), (q31, .inl (d0.2.1, 30, .inl (fun _ => 0))), (q39, .inl (d0.2.1, 30, .inl (fun _ => 0)))]) (wb := ((List.range 4).map (fun i => (r48 i, .inl (d0.2.1, 10, .inl (fun _ => 0)))) ++ [(q58, .inl (d0.2.1, 31, .inl (fun _ => 0)))])) hD
  have hP : va_P D vwCl ([] ++ wlP (adr, d0.2) st0) H := by subst hadr; exact hP
  have hD : va_D A ([] ++ wlP (adr, d0.2) st0) := by subst hadr; exact hD
  have h00 : adr 0 = h0 := by subst hadr; rfl
  refine fr_callV (wr := []) (wl := wlP) (d := (adr, d0.2)) (S := st0) (S1 := S') (q := 0) (As := []) (st := []) (r := none) wadP hx hb hml hown hts hN hK hP hD hS hA lkX2_35 obP (m_P_reset st0 () S' hre) rfl (by decide) (Nat.le_of_ble_eq_true rfl) (Nat.le_of_ble_eq_true rfl) hl.1 ⟨Nat.le_refl _, Nat.le_refl _⟩ dX2_init_64 (by show [Value.ref h0] = [Value.ref (adr 0)]; rw [h00]) (fun H locs hP hD hS => ?_)
  exact W.vret hx hb hr (fun t ht hW => ⟨⟨(adr, S'), rfl, ⟨h00, hS'⟩, by rw [ht]; exact hP, va_K.moved hW.alike hK, hD⟩, hS.F ht⟩) hS.2.2 dX2_init_67
