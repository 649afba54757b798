/-! ===== the class's making ===== -/
theorem dfX1 : ∀ j, j < 11 → defaultValue (tyX1 j) = vp_V [.null, .null, .null, .null, .null, .null, .null, .null, .int 0, .long 0, .int 0] j := by
  intro j hj
  match j, hj with
  | 0, _ => rfl
  | 1, _ => rfl
  | 2, _ => rfl
  | 3, _ => rfl
  | 4, _ => rfl
  | 5, _ => rfl
  | 6, _ => rfl
  | 7, _ => rfl
  | 8, _ => rfl
  | 9, _ => rfl
  | 10, _ => rfl
  | k + 11, h => exact absurd h (by omega)
theorem dfX2 : ∀ j, j < 11 → defaultValue (tyX2 j) = vp_V [.null, .null, .null, .null, .null, .null, .null, .int 0, .int 0, .int 0, .int 0] j := by
  intro j hj
  match j, hj with
  | 0, _ => rfl
  | 1, _ => rfl
  | 2, _ => rfl
  | 3, _ => rfl
  | 4, _ => rfl
  | 5, _ => rfl
  | 6, _ => rfl
  | 7, _ => rfl
  | 8, _ => rfl
  | 9, _ => rfl
  | 10, _ => rfl
  | k + 11, h => exact absurd h (by omega)
theorem dfX3 : ∀ j, j < 5 → defaultValue (tyX3 j) = vp_V [.null, .null, .long 0, .int 0, .int 0] j := by
  intro j hj
  match j, hj with
  | 0, _ => rfl
  | 1, _ => rfl
  | 2, _ => rfl
  | 3, _ => rfl
  | 4, _ => rfl
  | k + 5, h => exact absurd h (by omega)
theorem dfX4 : ∀ j, j < 3 → defaultValue (tyX4 j) = vp_V [.null, .null, .null] j := by
  intro j hj
  match j, hj with
  | 0, _ => rfl
  | 1, _ => rfl
  | 2, _ => rfl
  | k + 3, h => exact absurd h (by omega)
theorem dfX5 : ∀ j, j < 30 → defaultValue (tyX5 j) = vp_V [.int 0, .int 0, .int 0, .int 0, .null, .null, .null, .null, .null, .null, .null, .int 0, .int 0, .long 0, .null, .null, .null, .null, .null, .null, .int 0, .int 0, .long 0, .null, .null, .int 0, .null, .null, .null, .long 0] j := by
  intro j hj
  match j, hj with
  | 0, _ => rfl
  | 1, _ => rfl
  | 2, _ => rfl
  | 3, _ => rfl
  | 4, _ => rfl
  | 5, _ => rfl
  | 6, _ => rfl
  | 7, _ => rfl
  | 8, _ => rfl
  | 9, _ => rfl
  | 10, _ => rfl
  | 11, _ => rfl
  | 12, _ => rfl
  | 13, _ => rfl
  | 14, _ => rfl
  | 15, _ => rfl
  | 16, _ => rfl
  | 17, _ => rfl
  | 18, _ => rfl
  | 19, _ => rfl
  | 20, _ => rfl
  | 21, _ => rfl
  | 22, _ => rfl
  | 23, _ => rfl
  | 24, _ => rfl
  | 25, _ => rfl
  | 26, _ => rfl
  | 27, _ => rfl
  | 28, _ => rfl
  | 29, _ => rfl
  | k + 30, h => exact absurd h (by omega)
theorem uwX4' : ∀ w ∈ u_ws RX4 TX4 3, w ∈ TsG := uwX4
set_option maxHeartbeats 2000000 in
set_option maxRecDepth 100000 in
theorem c_X4_init (l : Launch) (D : va_G) (d0 : Dt) (h0 sz : Nat) : Met l yX4_init (Cond.code yX4_init cX4_init 1 none :: TsG) ({ frames := 5, cells := 90, slots := 12935, locals := 300 }) (va_Pc [.ref h0] (fun U => U.heap.size = sz ∧ va_P D vwCl [(h0, .inr (3, [.null, .null, .null]))] U.heap ∧ va_K D vwCl (dtT d0) U ∧ va_D (fun _ => True) [(h0, .inr (3, [.null, .null, .null]))] ∧ NwU U ∧ va_AOA .int U ∧ va_AOA .long U)) (va_Qv (fun u : (Nat → Nat) × St => u.1 0 = h0 ∧ RC P0 u.2 ∧ gI u.2 304 = iv 0 ∧ gI u.2 108 = iv 0) (fun u t => va_P D vwCl (wlC (u.1, d0.2) u.2) t.heap ∧ va_K D vwCl (dtT d0) t ∧ va_D (va_A [(h0, .inr (3, [.null, .null, .null]))] sz) (wlC (u.1, d0.2) u.2)) (va_A [(h0, .inr (3, [.null, .null, .null]))] sz)) 90 12935 (va_A [(h0, .inr (3, [.null, .null, .null]))] sz) := by
  refine Met.ofW (cc := cX4_init) (maxL := 1) (ret := none) (by decide) rfl ?_
  intro p e s m args below meth c s₁ B hml hv
  obtain ⟨rfl, hsz, hP, hK, hD0, hN, hOi, hOl⟩ := hv
  have hx := B.exec
  have hb := B.bytes
  have hr := B.returns
  have hts0 := atoms_spec (ws := Cond.code yX4_init cX4_init 1 none :: TsG) B.pre
  have hts : ∀ w ∈ TsG, w.before _ s = true := fun w h => hts0 w (List.mem_cons_of_mem _ h)
  have hown : s.vm.findClass RX4 = some m.cls := findClass_of_methodNamed B.named
  have hlocks := B.notSynchronized
  have hin : meth.name = "<init>" := (name_of_methodNamed B.named B.method).1
  subst hsz
  have hD := hD0.self (sz := s.heap.size)
  generalize hAe : va_A [(h0, .inr (3, [.null, .null, .null]))] s.heap.size = A at hD ⊢
  have hA : ∀ q : Nat, s.heap.size ≤ q → A q := fun q h => by rw [← hAe]; exact Or.inr h
  have hS : va_S A s.heap s.heap [] := va_S.rf
  have hl := lv_entry ([.ref h0]) (n := 1) (Nat.le_of_ble_eq_true rfl)
  rw [lg_entry_eq]
  generalize (lg_sl ([.ref h0]) ++ List.replicate (1 - (lg_sl ([.ref h0])).length) Slot.unset).toArray = ls at hl ⊢
  have hl : lv_has ls 1 [(0, .ref h0)] := hl
  refine lv_aload_n hx hb dX4_init_0 rfl (lv_at hl 0 rfl) ?_
  refine W.objInit hx hb hown (hts _ (T11 (i := 18) rfl rfl)) (hts _ woi_m) (hts _ woi_c) rfl (by rw [hml]; exact hl.1) rfl dX4_init_1 (Nat.le_of_ble_eq_true rfl) (Nat.le_of_ble_eq_true rfl) ?_
  refine W.eq (g2 := F0 m 4 ls []) rfl ?_
  refine lv_aload_n hx hb dX4_init_4 rfl (lv_at hl 0 rfl) ?_
  refine va_new (ci := 1) (fs := [.null, .null, .null, .null, .null, .null, .null, .int 0, .int 0, .int 0, .int 0]) (C := RX2) (T := TX2) (N := 11) hx hb hts uwX2 tyX2 tyX2_ok hown (hts _ (T11 (i := 21) rfl rfl)) (hts _ (T11 (i := 22) rfl rfl)) (hts _ (T11 (i := 2) rfl rfl)) hK hP hD hS hA rfl dfX2 (Nat.le_of_ble_eq_true rfl) (Nat.le_of_ble_eq_true rfl) dX4_init_5 (fun q5 H hP hD hS => ?_)
  refine W.widen (k := 1) (n := 11) (Nat.le_of_ble_eq_true rfl) (Nat.le_of_ble_eq_true rfl) ?_
  refine lv_dup hx hb dX4_init_8 rfl ?_
  have hSz := hS.1
  have hFc := fr_freeW hD hS hA
  refine va_callv (va_runI (As := []) (rest := [.ref q5, .ref h0]) ⟨hx, hb, hml, hown, hts⟩ (c_X2_init l D d0 q5 H.size) (cwI 0 hts (TsG_good (T11 (i := 25) rfl rfl)) rfl rfl rfl (hts _ (T11 (i := 2) rfl rfl)) (hts _ (T11 (i := 23) rfl rfl)) (hts _ (T11 (i := 24) rfl rfl)) rfl (by decide +kernel) ⟨Nat.le_of_ble_eq_true rfl, Nat.le_of_ble_eq_true rfl⟩) ⟨fun a U g mk q => by obtain ⟨q0, q1, qP, qK, qD, qN, qOi⟩ := q; exact ⟨q0, q1, qP, va_K.moved (u := U) (U := U.calling g mk a) (Vm.Alike.refl U.vm) qK, qD, NwU.same (s := U) (U := U.calling g mk a) rfl qN, va_AOA.moved (u := U) (U := U.calling g mk a) (Vm.Alike.refl U.vm) qOi⟩, fun U hU hW => ⟨rfl, by rw [hU], by rw [hU]; exact (P_app hP).2, va_K.moved hW.alike hK, ⟨(D_app hD).1, fun _ _ _ => trivial⟩, hN.warm hW, hOi.moved hW.alike⟩⟩ rfl rfl hl.1 rfl (lv_room (Nat.le_of_ble_eq_true rfl)) dX4_init_9 ⟨Nat.le_of_ble_eq_true rfl, Nat.le_of_ble_eq_true rfl⟩) hS (fun q _ h => hFc q h) hFc (fun u t H1 locs ht hvm hw hB hz1 hk1 hS => ?_)
  obtain ⟨hP1, hK1, hD1⟩ := hB
  rw [ht] at hP1
  obtain ⟨hP2, hD2⟩ := fr_joinW hP hD (fun q h => hA q (Nat.le_trans hSz h)) hk1 hP1 hD1
  clear hP hD hP1 hD1 hk1 hFc
  obtain ⟨hP, hD⟩ := And.intro hP2 hD2
  clear hP2 hD2
  obtain ⟨aP, SP⟩ := u
  obtain ⟨hq5, p1, p2, p3, p4, p5, p6⟩ := hw
  have hq5 : aP 0 = q5 := hq5
  subst hq5
  refine W.widen (k := 12) (n := 236) (Nat.le_of_ble_eq_true rfl) (Nat.le_of_ble_eq_true rfl) ?_
  refine va_putF (D := D) (ci := 3) (v := .ref (aP 0)) (ty := .object "JoinedLists$Program") (C := RX4) (T := TX4) (N := 3) hx hb hts uwX4 tyX4 tyX4_ok nmX4 hown hK hP hD hS 0 rfl rfl 0 (by decide) (hts _ (T11 (i := 146) rfl rfl)) (fun _ h9 => h9) rfl hin rfl (by decide +kernel) rfl rfl (Nat.le_of_ble_eq_true rfl) dX4_init_12 (fun H locs hP hD hS => ?_)
  have hP : va_P D vwCl ([(h0, .inr (3, [.ref (aP 0), .null, .null]))] ++ wlP (aP, d0.2) SP) H := hP
  have hD : va_D A ([(h0, .inr (3, [.ref (aP 0), .null, .null]))] ++ wlP (aP, d0.2) SP) := hD
  refine lv_aload_n hx hb dX4_init_15 rfl (lv_at hl 0 rfl) ?_
  refine va_new (ci := 0) (fs := [.null, .null, .null, .null, .null, .null, .null, .null, .int 0, .long 0, .int 0]) (C := RX1) (T := TX1) (N := 11) hx hb hts uwX1 tyX1 tyX1_ok hown (hts _ (T11 (i := 72) rfl rfl)) (hts _ (T11 (i := 73) rfl rfl)) (hts _ (T11 (i := 3) rfl rfl)) hK hP hD hS hA rfl dfX1 (Nat.le_of_ble_eq_true rfl) (Nat.le_of_ble_eq_true rfl) dX4_init_16 (fun q16 H hP hD hS => ?_)
  refine W.widen (k := 13) (n := 247) (Nat.le_of_ble_eq_true rfl) (Nat.le_of_ble_eq_true rfl) ?_
  refine lv_dup hx hb dX4_init_19 rfl ?_
  refine lv_aload_n hx hb dX4_init_20 rfl (lv_at hl 0 rfl) ?_
  refine va_get (D := D) (ci := 3) (v := .ref (aP 0)) (C := RX4) (T := TX4) (N := 3) hx hb hts uwX4 hown hK hP 0 rfl rfl 0 (by decide) (hts _ (T11 (i := 146) rfl rfl)) (fun _ h9 => h9) rfl dX4_init_21 ?_
  have hSz := hS.1
  have hFc := fr_freeW hD hS hA
  refine va_callv (va_runI (As := [.ref (aP 0)]) (rest := [.ref q16, .ref h0]) ⟨hx, hb, hml, hown, hts⟩ (c_X1_init l D d0 q16 (aP 0) H.size) (cwI 1 hts (TsG_good (T11 (i := 76) rfl rfl)) rfl rfl rfl (hts _ (T11 (i := 3) rfl rfl)) (hts _ (T11 (i := 74) rfl rfl)) (hts _ (T11 (i := 75) rfl rfl)) rfl (by decide +kernel) ⟨Nat.le_of_ble_eq_true rfl, Nat.le_of_ble_eq_true rfl⟩) ⟨fun a U g mk q => by obtain ⟨q0, q1, qP, qK, qD, qN, qOi, qOl⟩ := q; exact ⟨q0, q1, qP, va_K.moved (u := U) (U := U.calling g mk a) (Vm.Alike.refl U.vm) qK, qD, NwU.same (s := U) (U := U.calling g mk a) rfl qN, va_AOA.moved (u := U) (U := U.calling g mk a) (Vm.Alike.refl U.vm) qOi, va_AOA.moved (u := U) (U := U.calling g mk a) (Vm.Alike.refl U.vm) qOl⟩, fun U hU hW => ⟨rfl, by rw [hU], by rw [hU]; exact (P_app hP).2, va_K.moved hW.alike hK, ⟨(D_app hD).1, fun _ _ _ => trivial⟩, hN.warm hW, hOi.moved hW.alike, hOl.moved hW.alike⟩⟩ rfl rfl hl.1 rfl (lv_room (Nat.le_of_ble_eq_true rfl)) dX4_init_24 ⟨Nat.le_of_ble_eq_true rfl, Nat.le_of_ble_eq_true rfl⟩) hS (fun q _ h => hFc q h) hFc (fun u t H1 locs ht hvm hw hB hz1 hk1 hS => ?_)
  obtain ⟨hP1, hK1, hD1⟩ := hB
  rw [ht] at hP1
  obtain ⟨hP2, hD2⟩ := fr_joinW hP hD (fun q h => hA q (Nat.le_trans hSz h)) hk1 hP1 hD1
  clear hP hD hP1 hD1 hk1 hFc
  obtain ⟨hP, hD⟩ := And.intro hP2 hD2
  clear hP2 hD2
  obtain ⟨aL, rfl⟩ : ∃ z, z = u := ⟨_, rfl⟩
  have hq16 : aL 0 = q16 := hw
  subst hq16
  refine W.widen (k := 82) (n := 12864) (Nat.le_of_ble_eq_true rfl) (Nat.le_of_ble_eq_true rfl) ?_
  refine va_putF (D := D) (ci := 3) (v := .ref (aL 0)) (ty := .object "JoinedLists$Listing") (C := RX4) (T := TX4) (N := 3) hx hb hts uwX4 tyX4 tyX4_ok nmX4 hown hK hP hD hS 0 rfl rfl 1 (by decide) (hts _ (T11 (i := 147) rfl rfl)) (fun _ h9 => h9) rfl hin rfl (by decide +kernel) rfl rfl (Nat.le_of_ble_eq_true rfl) dX4_init_27 (fun H locs hP hD hS => ?_)
  have hP : va_P D vwCl (([(h0, .inr (3, [.ref (aP 0), .ref (aL 0), .null]))] ++ wlP (aP, d0.2) SP) ++ wlL (aL, d0.2) (aP 0)) H := hP
  have hD : va_D A (([(h0, .inr (3, [.ref (aP 0), .ref (aL 0), .null]))] ++ wlP (aP, d0.2) SP) ++ wlL (aL, d0.2) (aP 0)) := hD
  refine lv_aload_n hx hb dX4_init_30 rfl (lv_at hl 0 rfl) ?_
  refine va_new (ci := 2) (fs := [.null, .null, .long 0, .int 0, .int 0]) (C := RX3) (T := TX3) (N := 5) hx hb hts uwX3 tyX3 tyX3_ok hown (hts _ (T11 (i := 121) rfl rfl)) (hts _ (T11 (i := 122) rfl rfl)) (hts _ (T11 (i := 4) rfl rfl)) hK hP hD hS hA rfl dfX3 (Nat.le_of_ble_eq_true rfl) (Nat.le_of_ble_eq_true rfl) dX4_init_31 (fun q31 H hP hD hS => ?_)
  refine W.widen (k := 83) (n := 12869) (Nat.le_of_ble_eq_true rfl) (Nat.le_of_ble_eq_true rfl) ?_
  refine lv_dup hx hb dX4_init_34 rfl ?_
  refine lv_aload_n hx hb dX4_init_35 rfl (lv_at hl 0 rfl) ?_
  refine va_get (D := D) (ci := 3) (v := .ref (aP 0)) (C := RX4) (T := TX4) (N := 3) hx hb hts uwX4 hown hK hP 0 rfl rfl 0 (by decide) (hts _ (T11 (i := 146) rfl rfl)) (fun _ h9 => h9) rfl dX4_init_36 ?_
  have hSz := hS.1
  have hFc := fr_freeW hD hS hA
  refine va_callv (va_runI (As := [.ref (aP 0)]) (rest := [.ref q31, .ref h0]) ⟨hx, hb, hml, hown, hts⟩ (c_X3_init l D d0 q31 (aP 0) H.size) (cwI 1 hts (TsG_good (T11 (i := 125) rfl rfl)) rfl rfl rfl (hts _ (T11 (i := 4) rfl rfl)) (hts _ (T11 (i := 123) rfl rfl)) (hts _ (T11 (i := 124) rfl rfl)) rfl (by decide +kernel) ⟨Nat.le_of_ble_eq_true rfl, Nat.le_of_ble_eq_true rfl⟩) ⟨fun a U g mk q => by obtain ⟨q0, q1, qP, qK, qD, qN, qOl⟩ := q; exact ⟨q0, q1, qP, va_K.moved (u := U) (U := U.calling g mk a) (Vm.Alike.refl U.vm) qK, qD, NwU.same (s := U) (U := U.calling g mk a) rfl qN, va_AOA.moved (u := U) (U := U.calling g mk a) (Vm.Alike.refl U.vm) qOl⟩, fun U hU hW => ⟨rfl, by rw [hU], by rw [hU]; exact (P_app hP).2, va_K.moved hW.alike hK, ⟨(D_app hD).1, fun _ _ _ => trivial⟩, hN.warm hW, hOl.moved hW.alike⟩⟩ rfl rfl hl.1 rfl (lv_room (Nat.le_of_ble_eq_true rfl)) dX4_init_39 ⟨Nat.le_of_ble_eq_true rfl, Nat.le_of_ble_eq_true rfl⟩) hS (fun q _ h => hFc q h) hFc (fun u t H1 locs ht hvm hw hB hz1 hk1 hS => ?_)
  obtain ⟨hP1, hK1, hD1⟩ := hB
  rw [ht] at hP1
  obtain ⟨hP2, hD2⟩ := fr_joinW hP hD (fun q h => hA q (Nat.le_trans hSz h)) hk1 hP1 hD1
  clear hP hD hP1 hD1 hk1 hFc
  obtain ⟨hP, hD⟩ := And.intro hP2 hD2
  clear hP2 hD2
  obtain ⟨aS, rfl⟩ : ∃ z, z = u := ⟨_, rfl⟩
  have hq31 : aS 0 = q31 := hw
  subst hq31
  refine W.widen (k := 90) (n := 12935) (Nat.le_of_ble_eq_true rfl) (Nat.le_of_ble_eq_true rfl) ?_
  refine va_putF (D := D) (ci := 3) (v := .ref (aS 0)) (ty := .object "JoinedLists$Survey") (C := RX4) (T := TX4) (N := 3) hx hb hts uwX4 tyX4 tyX4_ok nmX4 hown hK hP hD hS 0 rfl rfl 2 (by decide) (hts _ (T11 (i := 148) rfl rfl)) (fun _ h9 => h9) rfl hin rfl (by decide +kernel) rfl rfl (Nat.le_of_ble_eq_true rfl) dX4_init_42 (fun H locs hP hD hS => ?_)
  have hP : va_P D vwCl (wAll d0.2 h0 aP aL aS SP) H := hP
  have hD : va_D A (wAll d0.2 h0 aP aL aS SP) := hD
  obtain ⟨hP, hD⟩ := asmC hP hD
  exact W.vret hx hb hr (fun t ht hW => ⟨⟨(adC h0 aP aL aS, stC SP), rfl, ⟨rfl, stC_RC p1 p2 p3 p4 p5 p6, rfl, rfl⟩, by rw [ht]; exact hP, va_K.moved hW.alike hK, hD⟩, hS.F ht⟩) hS.2.2 dX4_init_45
