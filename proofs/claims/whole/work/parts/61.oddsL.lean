/-! ===== the law's odds: it catches ===== -/
theorem lkL_7 : LkV RL 7 yX4_odds cX4_odds 10 (some .long) 3 := ⟨⟨T13 (i := 25) rfl rfl, T11 (i := 1) rfl rfl, by decide +kernel, by decide, Or.inl (T13 (i := 22) rfl rfl)⟩, T13 (i := 23) rfl rfl, T13 (i := 24) rfl rfl⟩
def hhL : List (Nat × Nat × Nat × Nat) := [(0, 11, 14, 13)]
/-- the row that takes the answer -/
def roL (o : Nat) (d : Dt) (f : Nat → Int64) : va_W := [(o, .inl (d.2.2.1, 1, .inr (.inl f)))]
def aO (o : Nat) (d : Dt) (sz : Nat) : Nat → Prop := fun q => q = o ∨ aA wlC d sz q
theorem aO_D {o : Nat} {d : Dt} {S : St} {f : Nat → Int64} {sz : Nat} {A : Nat → Prop} (h : va_D A (roL o d f ++ wlC d S)) : va_D (aO o d sz) (roL o d f ++ wlC d S) := ⟨h.1, fun k q hk => by
  rcases k with _ | k
  · cases hk; exact Or.inl rfl
  · obtain ⟨e', he⟩ := wadC d S st0 k q.1 q.2 hk
    exact Or.inr (Or.inl ⟨k, e', he⟩)⟩
/-- what the law's odds answers and leaves in the row -/
def oddR (x1 x2 x3 : Int32) (S : St) (f : Nat → Int64) (r : Int32) (f1 : Nat → Int64) : Prop :=
  (∃ v, f_X4_odds x1 x2 x3 S = some (v, S) ∧ r = 0 ∧ f1 = vp_updL f 0 v) ∨ (thr x1 x2 x3 S ∧ r = 1 ∧ f1 = f)
set_option maxHeartbeats 1000000 in
set_option maxRecDepth 100000 in
theorem c_L_odds (l : Launch) (hlt : l.stackTraces = false) (D : va_G) (d : Dt) (S : St) (sa o : Nat) (x1 x2 x3 : Int32) (f f1 : Nat → Int64) (r : Int32) (sz : Nat) (ho : oddR x1 x2 x3 S f r f1) :
    vx_Met l yL_odds (Cond.codeWith yL_odds cL_odds 6 (some .int) hhL :: TsG) ({ frames := 70, cells := 1, slots := 6, locals := 5000 }) (va_Pc [.ref (d.1 0), .int x1, .int x2, .int x3, .ref o] (fun U => U.heap.size = sz ∧ va_P D vwCl (roL o d f ++ wlC d S) U.heap ∧ va_K D vwCl (dtT d) U ∧ va_D (fun _ => True) (roL o d f ++ wlC d S) ∧ NwU U ∧ TxU sa (aO o d sz) U))
      (va_Qi (fun x (_ : Unit) => x = r) (fun _ t => va_P D vwCl (roL o d f1 ++ wlC d S) t.heap ∧ va_D (aO o d sz) (roL o d f1 ++ wlC d S)) (aO o d sz)) (vx_X (fun _ : Unit => False) (fun _ _ _ => True) (aO o d sz)) 1 6 (aO o d sz) := by
  refine vx_ofWH (cc := cL_odds) (maxL := 6) (ret := some .int) (hh := hhL) (by decide) rfl ?_
  intro p e s m args below meth c s₁ B hml hv
  obtain ⟨rfl, hsz, hP, hK, hD0, hN, hT⟩ := hv
  have hx := B.exec
  have hb := B.bytes
  have hr := B.returns
  have hts0 := atoms_spec (ws := Cond.codeWith yL_odds cL_odds 6 (some .int) hhL :: TsG) B.pre
  have hts : ∀ w ∈ TsG, w.before _ s = true := fun w h => hts0 w (List.mem_cons_of_mem _ h)
  have hown : s.vm.findClass RL = some m.cls := findClass_of_methodNamed B.named
  have htab := vx_table (x := yL_odds) B (hts0 _ List.mem_cons_self)
  subst hsz
  have hD : va_D (aO o d s.heap.size) (roL o d f ++ wlC d S) := aO_D hD0
  have hA : ∀ q : Nat, s.heap.size ≤ q → aO o d s.heap.size q := fun q h => Or.inr (Or.inr h)
  have hS : va_S (aO o d s.heap.size) s.heap s.heap [] := va_S.rf
  have hl := lv_entry ([.ref (d.1 0), .int x1, .int x2, .int x3, .ref o]) (n := 6) (Nat.le_of_ble_eq_true rfl)
  rw [lg_entry_eq]
  generalize (lg_sl ([.ref (d.1 0), .int x1, .int x2, .int x3, .ref o]) ++ List.replicate (6 - (lg_sl ([.ref (d.1 0), .int x1, .int x2, .int x3, .ref o])).length) Slot.unset).toArray = ls at hl ⊢
  have hl : lv_has ls 6 [(0, .ref (d.1 0)), (1, .int x1), (2, .int x2), (3, .int x3), (4, .ref o)] := hl
  refine lv_aload hx hb dL_odds_0 (lv_at hl 4 rfl) ?_
  refine lv_iconst (v := 0) hx hb dL_odds_2 (by decide) ?_
  refine lv_aload_n hx hb dL_odds_3 rfl (lv_at hl 0 rfl) ?_
  refine lv_iload_n hx hb dL_odds_4 rfl (lv_at hl 1 rfl) ?_
  refine lv_iload_n hx hb dL_odds_5 rfl (lv_at hl 2 rfl) ?_
  refine lv_iload_n hx hb dL_odds_6 rfl (lv_at hl 3 rfl) ?_
  rcases ho with ⟨v, hv, rfl, rfl⟩ | ⟨ht, rfl, rfl⟩
  · refine fr_callV (wr := roL o d f) (wl := wlC) (d := d) (S := S) (S1 := S) (q := 0) (As := [.int x1, .int x2, .int x3]) (st := [.int 0, .ref o]) (r := some (.long v)) wadC hx hb hml hown hts hN hK hP hD hS hA lkL_7 obX4 (m_X4_odds x1 x2 x3 S _ _ hv) rfl (Nat.le_of_ble_eq_true rfl) (Nat.le_of_ble_eq_true rfl) (Nat.le_of_ble_eq_true rfl) hl.1 ⟨Nat.zero_le _, Nat.zero_le _⟩ dL_odds_7 rfl (fun H locs hP hD hS => ?_)
    refine va_last (ws := roL o d f ++ wlC d S) (f := f) (i := 0) (x := v) hx hb hK hP hD hS 0 1 rfl rfl (inB_in (by decide)) dL_odds_10 (fun H locs hP hD hS => ?_)
    refine lv_goto (tgt := 18) hx hb dL_odds_11 (by decide) ?_
    refine lv_iconst (v := 0) hx hb dL_odds_18 (by decide) ?_
    refine W.widen (k := 1) (n := 6) (Nat.zero_le _) (Nat.zero_le _) ?_
    exact vx_ret (W.iret hx hb hr (fun t ht hW => ⟨⟨0, (), rfl, rfl, by rw [ht]; exact hP, hD⟩, hS.F ht⟩) hS.2.2 dL_odds_19)
  · have hPc := (P_app hP).2
    obtain ⟨ci, rr, hci, hrr, hobs⟩ := obX4
    obtain ⟨fs, hfs⟩ := hobs d S
    have hrec := va_recv hK hPc hci hfs
    rw [hrr] at hrec
    have hpre : PreV s s.heap RX4 (d.1 0) (va_Pc [.ref (d.1 0), .int x1, .int x2, .int x3] (fun U => U.heap.size = s.heap.size ∧ va_P D vwCl (wlC d S) U.heap ∧ va_K D vwCl (dtT d) U ∧ va_D (fun _ => True) (wlC d S) ∧ NwU U ∧ TxU sa (aA wlC d s.heap.size) U)) [.int x1, .int x2, .int x3] := by
      refine ⟨fun a U g mk q => ?_, hrec, fun U hU hW => ⟨rfl, by rw [hU], by rw [hU]; exact hPc, va_K.moved hW.alike hK, ⟨(D_app hD).1, fun _ _ _ => trivial⟩, hN.warm hW, hT.call hU hW (fun _ _ _ => rfl) (fun q h => Or.inr h)⟩⟩
      obtain ⟨q0, q1, qP, qK, qD, qN, qT⟩ := q
      exact ⟨q0, q1, qP, va_K.moved (u := U) (U := U.calling g mk a) (Vm.Alike.refl U.vm) qK, qD, NwU.same (s := U) (U := U.calling g mk a) rfl qN, TxU.same (s := U) (U := U.calling g mk a) rfl rfl qT⟩
    refine vx_calll (A0 := aO o d s.heap.size) (rest := [.int 0, .ref o]) (vx_runV (As := [.int x1, .int x2, .int x3]) (rest := [.int 0, .ref o]) (g := F0 m 7 ls [.int x3, .int x2, .int x1, .ref (d.1 0), .int 0, .ref o]) ⟨hx, hb, hml, hown, hts⟩ (c_X4_oddsT l hlt D d S sa x1 x2 x3 s.heap.size ht) ⟨callB_of 3 hts (TsG_good lkL_7.1.1) rfl rfl rfl (hts _ lkL_7.1.2.1) (hts _ (T13 (i := 22) rfl rfl)) lkL_7.1.2.2.1 ⟨Nat.le_of_ble_eq_true rfl, Nat.le_of_ble_eq_true rfl⟩, hts _ lkL_7.2.1, hts _ lkL_7.2.2⟩ hpre rfl rfl hl.1 rfl (lv_room (Nat.le_of_ble_eq_true rfl)) dL_odds_7 ⟨Nat.le_refl _, Nat.le_refl _⟩) hS (fun q _ h => Or.inr h) (fun q h => Or.inr h) (fun q _ h => Or.inr h) (fun E ce q9 u t H1 locs1 e1 al _ hBX hz hk hS hce hcv hcl => ?_) (fun r u t H1 locs1 _ _ hp => hp.elim)
    obtain ⟨hE, hP1, hK1, hD1⟩ := hBX
    subst hE
    rw [e1] at hP1
    obtain ⟨hP2, hD2⟩ := fr_join wadC hP hD hA hk hP1 hD1
    refine vx_catch (own := RL) (name := aE) (E := aE) hown [] ⟨0, 11, 14, 13⟩ [] htab (fun z hz => absurd hz List.not_mem_nil) (by decide) (by decide) (hts _ (T13 (i := 21) rfl rfl)) (va_Nw.use rfl (hT.1 _ List.mem_cons_self)) hce hcv hcl ?_
    refine lv_astore (lv' := [(5, .ref q9), (0, .ref (d.1 0)), (1, .int x1), (2, .int x2), (3, .int x3), (4, .ref o)]) hx hb dL_odds_14 hl (by decide) rfl (fun ls hl => ?_)
    refine lv_iconst (v := 1) hx hb dL_odds_16 (by decide) ?_
    exact vx_ret (W.iret hx hb hr (fun t ht hW => ⟨⟨1, (), rfl, rfl, by rw [ht]; exact hP2, hD2⟩, hS.F ht⟩) hS.2.2 dL_odds_17)
theorem TsG_goodW {w : Cond} (h : w ∈ TsG) : GoodIn TsG (w :: TsG) := by
  intro v hv
  rcases List.mem_cons.mp hv with rfl | hv
  · exact ⟨h, good_of_word (List.mem_filter.mp h).2⟩
  · exact ⟨hv, good_of_word (List.mem_filter.mp hv).2⟩
