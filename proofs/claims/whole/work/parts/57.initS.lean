/-! ===== a Survey's making ===== -/
set_option maxHeartbeats 2000000 in
set_option maxRecDepth 100000 in
theorem c_X3_init (l : Launch) (D : va_G) (d0 : Dt) (h0 pr sz : Nat) : Met l yX3_init (Cond.code yX3_init cX3_init 2 none :: TsG) ({ frames := 3, cells := 7, slots := 66, locals := 200 }) (va_Pc [.ref h0, .ref pr] (fun U => U.heap.size = sz ∧ va_P D vwCl [(h0, .inr (2, [.null, .null, .long 0, .int 0, .int 0]))] U.heap ∧ va_K D vwCl (dtT d0) U ∧ va_D (fun _ => True) [(h0, .inr (2, [.null, .null, .long 0, .int 0, .int 0]))] ∧ NwU U ∧ va_AOA .long U)) (va_Qv (fun u : Nat → Nat => u 0 = h0) (fun u t => va_P D vwCl (wlS (u, d0.2) pr) t.heap ∧ va_K D vwCl (dtT d0) t ∧ va_D (va_A [(h0, .inr (2, [.null, .null, .long 0, .int 0, .int 0]))] sz) (wlS (u, d0.2) pr)) (va_A [(h0, .inr (2, [.null, .null, .long 0, .int 0, .int 0]))] sz)) 7 66 (va_A [(h0, .inr (2, [.null, .null, .long 0, .int 0, .int 0]))] sz) := by
  refine Met.ofW (cc := cX3_init) (maxL := 2) (ret := none) (by decide) rfl ?_
  intro p e s m args below meth c s₁ B hml hv
  obtain ⟨rfl, hsz, hP, hK, hD0, hN, hOl⟩ := hv
  have hx := B.exec
  have hb := B.bytes
  have hr := B.returns
  have hts0 := atoms_spec (ws := Cond.code yX3_init cX3_init 2 none :: TsG) B.pre
  have hts : ∀ w ∈ TsG, w.before _ s = true := fun w h => hts0 w (List.mem_cons_of_mem _ h)
  have hown : s.vm.findClass RX3 = some m.cls := findClass_of_methodNamed B.named
  have hlocks := B.notSynchronized
  have hin : meth.name = "<init>" := (name_of_methodNamed B.named B.method).1
  subst hsz
  have hD := hD0.self (sz := s.heap.size)
  generalize hAe : va_A [(h0, .inr (2, [.null, .null, .long 0, .int 0, .int 0]))] s.heap.size = A at hD ⊢
  have hA : ∀ q : Nat, s.heap.size ≤ q → A q := fun q h => by rw [← hAe]; exact Or.inr h
  have hS : va_S A s.heap s.heap [] := va_S.rf
  have hl := lv_entry ([.ref h0, .ref pr]) (n := 2) (Nat.le_of_ble_eq_true rfl)
  rw [lg_entry_eq]
  generalize (lg_sl ([.ref h0, .ref pr]) ++ List.replicate (2 - (lg_sl ([.ref h0, .ref pr])).length) Slot.unset).toArray = ls at hl ⊢
  have hl : lv_has ls 2 [(0, .ref h0), (1, .ref pr)] := hl
  refine lv_aload_n hx hb dX3_init_0 rfl (lv_at hl 0 rfl) ?_
  refine W.objInit hx hb hown (hts _ (T11 (i := 126) rfl rfl)) (hts _ woi_m) (hts _ woi_c) rfl (by rw [hml]; exact hl.1) rfl dX3_init_1 (Nat.le_of_ble_eq_true rfl) (Nat.le_of_ble_eq_true rfl) ?_
  refine W.eq (g2 := F0 m 4 ls []) rfl ?_
  refine lv_aload_n hx hb dX3_init_4 rfl (lv_at hl 0 rfl) ?_
  refine lv_bipush (v := 6) hx hb dX3_init_5 (by decide) ?_
  refine lv_bipush (v := 10) hx hb dX3_init_7 (by decide) ?_
  refine fr_mna (ty := .long) (n := 6) (k := 10) (N' := 6) (K' := 10) (z := (10, .inr (.inl (fun _ => 0)))) hx hb rfl hown (by rw [nm_ll]; exact hts _ (T11 (i := 127) rfl rfl)) hOl (hts _ wac_l) hK (t0 := 1) (t1 := 4) rfl rfl (by decide +kernel) hP hD hS hA (by decide) (by decide) (by decide) (by decide) (by decide) (by decide) (by decide) rfl rfl (Nat.le_of_ble_eq_true rfl) (Nat.le_of_ble_eq_true rfl) (fun c => inn_l c 10) dX3_init_9 (fun q9 r9 H hP hD hS => ?_)
  refine W.widen (k := 7) (n := 66) (Nat.le_of_ble_eq_true rfl) (Nat.le_of_ble_eq_true rfl) ?_
  refine va_putF (D := D) (ci := 2) (v := .ref q9) (ty := .array (.array .long)) (C := RX3) (T := TX3) (N := 5) hx hb hts uwX3 tyX3 tyX3_ok nmX3 hown hK hP hD hS 0 rfl rfl 1 (by decide) (hts _ (T11 (i := 129) rfl rfl)) (fun _ h9 => h9) rfl hin rfl (by decide +kernel) rfl rfl (Nat.le_of_ble_eq_true rfl) dX3_init_13 (fun H locs hP hD hS => ?_)
  have hP : va_P D vwCl ((([(h0, .inr (2, [.null, .ref q9, .long 0, .int 0, .int 0]))] ++ [(q9, .inl (d0.2.2.2.2.2, 6, .inr (.inr (.inr (.inr (fun i => some (r9 i)))))))]) ++ (List.range 6).map (fun i => (r9 i, .inl (d0.2.2.1, 10, .inr (.inl (fun _ => 0))))))) H := hP
  have hD : va_D A ((([(h0, .inr (2, [.null, .ref q9, .long 0, .int 0, .int 0]))] ++ [(q9, .inl (d0.2.2.2.2.2, 6, .inr (.inr (.inr (.inr (fun i => some (r9 i)))))))]) ++ (List.range 6).map (fun i => (r9 i, .inl (d0.2.2.1, 10, .inr (.inl (fun _ => 0))))))) := hD
  refine lv_aload_n hx hb dX3_init_16 rfl (lv_at hl 0 rfl) ?_
  refine lv_aload_n hx hb dX3_init_17 rfl (lv_at hl 1 rfl) ?_
  refine va_putF (D := D) (ci := 2) (v := .ref pr) (ty := .object "JoinedLists$Program") (C := RX3) (T := TX3) (N := 5) hx hb hts uwX3 tyX3 tyX3_ok nmX3 hown hK hP hD hS 0 rfl rfl 0 (by decide) (hts _ (T11 (i := 128) rfl rfl)) (fun _ h9 => h9) rfl hin rfl (by decide +kernel) rfl rfl (Nat.le_of_ble_eq_true rfl) dX3_init_18 (fun H locs hP hD hS => ?_)
  have hP : va_P D vwCl ((([(h0, .inr (2, [.ref pr, .ref q9, .long 0, .int 0, .int 0]))] ++ [(q9, .inl (d0.2.2.2.2.2, 6, .inr (.inr (.inr (.inr (fun i => some (r9 i)))))))]) ++ (List.range 6).map (fun i => (r9 i, .inl (d0.2.2.1, 10, .inr (.inl (fun _ => 0))))))) H := hP
  have hD : va_D A ((([(h0, .inr (2, [.ref pr, .ref q9, .long 0, .int 0, .int 0]))] ++ [(q9, .inl (d0.2.2.2.2.2, 6, .inr (.inr (.inr (.inr (fun i => some (r9 i)))))))]) ++ (List.range 6).map (fun i => (r9 i, .inl (d0.2.2.1, 10, .inr (.inl (fun _ => 0))))))) := hD
  obtain ⟨adr, hadr⟩ : ∃ adr : Nat → Nat, adr = fun c => if c = 0 then h0 else if c = 1 then q9 else r9 (c - 2) := ⟨_, rfl⟩
  have hf1 : ∀ i, i < 6 → adr (2 + i) = r9 i := by
    intro i h
    subst hadr
    show (if 2 + i = 0 then h0 else if 2 + i = 1 then q9 else r9 (2 + i - 2)) = _
    rw [if_neg (by omega), if_neg (by omega), Nat.add_sub_cancel_left]
  have hP := P_one (cA := d0.2.2.2.2.2) (wa := [(h0, .inr (2, [.ref pr, .ref q9, .long 0, .int 0, .int 0]))]) (q := q9) (a := (6, .inr (.inr (.inr (.inr (fun i => some (r9 i))))))) (a' := (6, .inr (.inr (.inr (.inr (fun i => some (adr (2 + i)))))))) (wb := (List.range 6).map (fun i => (r9 i, .inl (d0.2.2.1, 10, .inr (.inl (fun _ => 0)))))) (ref_c (fun i h => by rw [hf1 i h])) (W_eq hP (by simp only [List.append_assoc, List.cons_append, List.nil_append]))
  have hD := D_one (wa := [(h0, .inr (2, [.ref pr, .ref q9, .long 0, .int 0, .int 0]))]) (q := q9) (x := .inl (d0.2.2.2.2.2, 6, .inr (.inr (.inr (.inr (fun i => some (r9 i))))))) (y := .inl (d0.2.2.2.2.2, 6, .inr (.inr (.inr (.inr (fun i => some (adr (2 + i)))))))) (wb := (List.range 6).map (fun i => (r9 i, .inl (d0.2.2.1, 10, .inr (.inl (fun _ => 0)))))) (W_eqD hD (by simp only [List.append_assoc, List.cons_append, List.nil_append]))
  have hP : va_P D vwCl (wlS (adr, d0.2) pr) H := by subst hadr; exact hP
  have hD : va_D A (wlS (adr, d0.2) pr) := by subst hadr; exact hD
  have h00 : adr 0 = h0 := by subst hadr; rfl
  exact W.vret hx hb hr (fun t ht hW => ⟨⟨adr, rfl, h00, by rw [ht]; exact hP, va_K.moved hW.alike hK, hD⟩, hS.F ht⟩) hS.2.2 dX3_init_21
