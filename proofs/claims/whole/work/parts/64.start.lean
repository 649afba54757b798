/-! THE CLAIM OUT OF ONE WALK OF THE LAW'S BODY. Your part is whole_start (and what it stands on); all else here is the same for every law, but numbers. -/
def R_law : String := "JoinedListsLaw"
def lw_P (b : Addr) (xs : List Int32) (args : Array Value) (s : State) : Prop := args = #[.ref b] ∧ s.IntsAt b xs ∧ xs.length ≤ 2560 ∧ (Jvm.Cond.and given_1 narrow_1).before args s = true
def lw_Q (_ : Array Value) (s : State) (o : Outcome) (t : State) : Prop := o = .returned (some (.int 1)) ∧ Framed s o t [] 601024 7293034
def lw_Z (below : List Frame) (a : Array Value) (s : State) : State → Prop := fun t => ∃ o, t.status = .running ∧ Ended t below o ∧ lw_Q a s o t
/-- the law's own end, with 1 on the stack, nothing written that was there before, its room as the claim has it -/
theorem lw_ret {p : Program} {l : Launch} {e : Env} {s : State} {m : MethodId} {below : List Frame} {meth : Method} {c : Code} {b : Nat} (hx : p.tables.exec = Jvm.exec) (hb : c.code = code) (hr : meth.sig.returnType = ret) (hlocks : meth.locks = false) {pc : Nat} {H : Heap} {ls : Array Slot} (hdg : decode code pc = .ok (.ireturn, 1)) : W p l e room_1 s m #[Value.ref b] below meth c H [] 601024 7293034 (lw_Z below #[Value.ref b] s) (F0 m pc ls [.int 1]) := by
  intro T hT X
  obtain ⟨fs, hret, hrun, hended, hW, hframe⟩ := X.leave (v := some (.int 1)) (hlocks := hlocks) (fun h => by rw [hr] at h; cases h)
  have hmeth' : T.vm.method? m = some meth := X.method'
  refine ⟨T.setFrames fs, ?_, .returned (some (.int 1)), hrun, hended, rfl, ⟨_, rfl⟩, hW, hframe⟩
  jvm_step X.here [X.here.top, hx, hb, hdg, hmeth', hr, ret, narrow_b1]
  (try refine ⟨rfl, ?_⟩); (try refine ⟨rfl, ?_⟩)
  first | (intro acts; rw [hret _ acts rfl rfl rfl]) | rw [hret _ _ rfl rfl rfl]
  exact Steps.refl _
/-- what holds at the law's entry: the machine, the code, the tables' words (any of lw_tbl by 'hts w (by decide +kernel)'), the script of L ints xs at the cell b, what the Statement gives of the start (any of its parts by flat_of_before) -/
def lw_At (p : Program) (s : State) (m : MethodId) (meth : Method) (c : Code) (b L : Nat) (xs : Nat → Int32) : Prop :=
  p.tables.exec = Jvm.exec ∧ c.code = code ∧ meth.sig.returnType = ret ∧ c.maxLocals = 8 ∧ s.vm.findClass R_law = some m.cls ∧ (∀ w ∈ lw_tbl, w.before #[Value.ref b] s = true) ∧ va_X b L xs s s.heap ∧ b < s.heap.size ∧ meth.locks = false ∧ (Jvm.Cond.and given_1 narrow_1).before #[Value.ref b] s = true
theorem B11 {i : Nat} {w : Cond} (h : tables_1_1[i]? = some w) : w ∈ lw_tbl := List.mem_append_right _ (List.mem_append_left _ (List.mem_of_getElem? h))
theorem B12 {i : Nat} {w : Cond} (h : tables_1_2[i]? = some w) : w ∈ lw_tbl := List.mem_append_right _ (List.mem_append_right _ (List.mem_append_left _ (List.mem_of_getElem? h)))
theorem B13 {i : Nat} {w : Cond} (h : tables_1_3[i]? = some w) : w ∈ lw_tbl := List.mem_append_right _ (List.mem_append_right _ (List.mem_append_right _ (List.mem_append_left _ (List.mem_of_getElem? h))))
theorem B14 {i : Nat} {w : Cond} (h : tables_1_4[i]? = some w) : w ∈ lw_tbl := List.mem_append_right _ (List.mem_append_right _ (List.mem_append_right _ (List.mem_append_right _ (List.mem_of_getElem? h))))
theorem NsG_ot : ∀ w ∈ NsG, w.onTables = true := by
  intro w hw
  have h2 := (List.mem_filter.mp hw).2
  cases w <;> first | rfl | (simp [isNest] at h2; done)
set_option maxRecDepth 100000 in
theorem NX_tb : ∀ w ∈ NX, w ∈ lw_tbl := by decide +kernel
theorem NX_ot : ∀ w ∈ NX, w.onTables = true := by decide +kernel
theorem lw_nt {l : Launch} (h : l.flags = flags0) : l.stackTraces = false := by
  unfold Launch.stackTraces
  rw [h]
  decide +kernel
theorem perm3 (a b c : va_W) : ((a ++ b) ++ c).Perm ((c ++ b) ++ a) := by
  rw [List.append_assoc c b a]
  exact List.perm_append_comm.trans (List.Perm.append_left c List.perm_append_comm)
theorem Inv_0 {SC SM : St} (h1 : RC P0 SC) (h2 : gI SC 304 = iv 0) (h3 : gI SC 108 = iv 0) (h4 : RM P0 SM) (h5 : gI SM 11 = iv 0) : Inv (P0, 0, fun _ => [], fun _ => 0, fun _ => 0, 0, 0) SC SM := ⟨Wf_0, h1, h4, Or.inl h2, Or.inl ⟨rfl, h3, h5⟩⟩
theorem kn_all {s : State} {args : Array Value} (hts : ∀ w ∈ TsG, w.before args s = true) : ∃ D : va_G, ∀ (c : Nat) (q : vw_C), vwCl[c]? = some q → u_Kn s q.1 q.2.1 q.2.2 (D.1 c) (D.2 c) := by
  obtain ⟨c1, i1, k1⟩ := u_known hts uwX1 (hts _ (T11 (i := 73) rfl rfl))
  obtain ⟨c2, i2, k2⟩ := u_known hts uwX2 (hts _ (T11 (i := 22) rfl rfl))
  obtain ⟨c3, i3, k3⟩ := u_known hts uwX3 (hts _ (T11 (i := 122) rfl rfl))
  obtain ⟨c4, i4, k4⟩ := u_known hts uwX4 (hts _ (T11 (i := 14) rfl rfl))
  obtain ⟨c5, i5, k5⟩ := u_known hts uwX5 (hts _ (T13 (i := 97) rfl rfl))
  refine ⟨(fun c => if c = 0 then c1 else if c = 1 then c2 else if c = 2 then c3 else if c = 3 then c4 else c5, fun c => if c = 0 then i1 else if c = 1 then i2 else if c = 2 then i3 else if c = 3 then i4 else i5), fun c q hq => ?_⟩
  match c, hq with
  | 0, hq => cases hq; exact k1
  | 1, hq => cases hq; exact k2
  | 2, hq => cases hq; exact k3
  | 3, hq => cases hq; exact k4
  | 4, hq => cases hq; exact k5
  | c + 5, hq => cases hq
theorem ar_all {s : State} {args : Array Value} (hts : ∀ w ∈ TsG, w.before args s = true) (hOi : va_AOA .int s) (hOl : va_AOA .long s) : ∃ d2 : D2, ∀ (k : Nat) (q : ClassId × FieldType), (dtT (fun _ => 0, d2))[k]? = some q → ArrOfT s q.1 q.2 ∧ va_RA s q.1 q.2 := by
  obtain ⟨c1, k1⟩ := ka_of rfl (hts _ wac_i)
  obtain ⟨c2, k2⟩ := ka_of rfl (hts _ wac_l)
  obtain ⟨c3, k3⟩ := ka_of rfl (hts _ wac_z)
  obtain ⟨c4, k4⟩ := ka_ofA hOi
  obtain ⟨c5, k5⟩ := ka_ofA hOl
  refine ⟨(c1, c2, c3, c4, c5), fun k q hq => ?_⟩
  match k, hq with
  | 0, hq => cases hq; exact k1
  | 1, hq => cases hq; exact k2
  | 2, hq => cases hq; exact k3
  | 3, hq => cases hq; exact k4
  | 4, hq => cases hq; exact k5
  | k + 5, hq => cases hq
theorem tx_all {s : State} {b : Nat} (htb : ∀ w ∈ lw_tbl, w.before #[Value.ref b] s = true) (hgv : (Jvm.Cond.and given_1 narrow_1).before #[Value.ref b] s = true) {cC : ClassId} (hc : s.vm.findClass RX4 = some cC) : ∃ sa : Nat, TxU sa (fun q => s.heap.size ≤ q) s := by
  obtain ⟨k, cf, i, sa, -, -, -, -, -, hev⟩ := Cond.stringRef_spec (args := #[Value.ref b]) (first := s) (o := none) (idx := []) hc (htb (Cond.stringRef RX4 155 txE) (B13 (i := 69) rfl))
  have hs := flat_of_before _ hgv
  have hA : ∀ a : Nat, a < s.heap.size → ¬ s.heap.size ≤ a := fun a h => Nat.not_le.mpr h
  exact ⟨sa, fun w hw => va_Nw.of (NX_ot w hw) (htb w (NX_tb w hw)), vk_R.of (htb (Cond.stringRef RX4 155 txE) (B13 (i := 69) rfl)) hev, vx_Zqof (htb _ (B13 (i := 57) rfl)) (htb _ (B11 (i := 9) rfl)) (hs _ (by decide +kernel)) hA, vx_Zqof (htb _ (B13 (i := 59) rfl)) (htb _ (B11 (i := 9) rfl)) (hs _ (by decide +kernel)) hA⟩
set_option maxHeartbeats 2000000 in
set_option maxRecDepth 100000 in
/-- from the entry, for every script of at most 2560 ints, the law comes to its end with true -/
theorem whole_start {p : Program} {e : Env} {s : State} {m : MethodId} {below : List Frame} {meth : Method} {c : Code} (l : Launch) (hlt : l.stackTraces = false) {b L : Nat} {xs : Nat → Int32} (hL : L ≤ 2560) (C0 : lw_At p s m meth c b L xs) : W p l e room_1 s m #[Value.ref b] below meth c s.heap [] 0 0 (lw_Z below #[Value.ref b] s) (entryFrame m ([Value.ref b] : List Value).toArray 8) := by
  obtain ⟨hx, hb, hr, hml, hown, htb, hX, hbl, hlocks, hgv⟩ := C0
  have hown : s.vm.findClass RL = some m.cls := hown
  have hb : c.code = cL_law := hb
  have hts : ∀ w ∈ TsG, w.before #[Value.ref b] s = true := fun w h => htb w (List.mem_filter.mp h).1
  have hN : NwU s := fun w h => va_Nw.of (NsG_ot w h) (htb w (List.mem_filter.mp h).1)
  have hOi : va_AOA .int s := va_AOA.of (htb _ (B11 (i := 28) rfl))
  have hOl : va_AOA .long s := va_AOA.of (htb _ (B11 (i := 80) rfl))
  obtain ⟨D, hKn⟩ := kn_all hts
  obtain ⟨d2, hAr⟩ := ar_all hts hOi hOl
  obtain ⟨d0, hd0⟩ : ∃ d0 : Dt, d0 = (fun _ => 0, d2) := ⟨_, rfl⟩
  have hK : va_K D vwCl (dtT d0) s := by rw [hd0]; exact ⟨hKn, hAr⟩
  obtain ⟨sa, hT⟩ := tx_all htb hgv (hKn 3 _ rfl).2.1
  obtain ⟨A, hAe⟩ : ∃ A : Nat → Prop, A = fun q => s.heap.size ≤ q := ⟨_, rfl⟩
  have hA : ∀ q : Nat, s.heap.size ≤ q → A q := fun q h => by rw [hAe]; exact h
  have hS : va_S A s.heap s.heap [] := va_S.rf
  have hP : va_P D vwCl [] s.heap := fun k q hq => by cases hq
  have hD : va_D A [] := ⟨fun i j p q hi => (by cases hi), fun k q hq => (by cases hq)⟩
  have hl := lv_entry ([.ref b]) (n := 8) (Nat.le_of_ble_eq_true rfl)
  rw [lg_entry_eq]
  generalize (lg_sl ([.ref b]) ++ List.replicate (8 - (lg_sl ([.ref b])).length) Slot.unset).toArray = ls at hl ⊢
  have hl : lv_has ls 8 [(0, .ref b)] := hl
  clear hKn hAr
  refine va_new (ci := 3) (fs := [.null, .null, .null]) (C := RX4) (T := TX4) (N := 3) hx hb hts uwX4 tyX4 tyX4_ok hown (hts _ (T11 (i := 13) rfl rfl)) (hts _ (T11 (i := 14) rfl rfl)) (hts _ (T11 (i := 1) rfl rfl)) hK hP hD hS hA rfl dfX4 (Nat.le_of_ble_eq_true rfl) (Nat.le_of_ble_eq_true rfl) dL_law_0 (fun q0 H hP hD hS => ?_)
  refine W.widen (k := 1) (n := 3) (Nat.le_of_ble_eq_true rfl) (Nat.le_of_ble_eq_true rfl) ?_
  refine lv_dup hx hb dL_law_3 rfl ?_
  have hSz := hS.1
  have hFc := fr_freeW hD hS hA
  refine va_callv (va_runI (As := []) (rest := [.ref q0]) ⟨hx, hb, hml, hown, hts⟩ (c_X4_init l D d0 q0 H.size) (cwI 0 hts (TsG_good (T11 (i := 17) rfl rfl)) rfl rfl rfl (hts _ (T11 (i := 1) rfl rfl)) (hts _ (T11 (i := 15) rfl rfl)) (hts _ (T11 (i := 16) rfl rfl)) rfl (by decide +kernel) ⟨Nat.le_of_ble_eq_true rfl, Nat.le_of_ble_eq_true rfl⟩) ⟨fun a U g mk q => by obtain ⟨q0, q1, qP, qK, qD, qN, qOi, qOl⟩ := q; exact ⟨q0, q1, qP, va_K.moved (u := U) (U := U.calling g mk a) (Vm.Alike.refl U.vm) qK, qD, NwU.same (s := U) (U := U.calling g mk a) rfl qN, va_AOA.moved (u := U) (U := U.calling g mk a) (Vm.Alike.refl U.vm) qOi, va_AOA.moved (u := U) (U := U.calling g mk a) (Vm.Alike.refl U.vm) qOl⟩, fun U hU hW => ⟨rfl, by rw [hU], by rw [hU]; exact (P_app hP).2, va_K.moved hW.alike hK, ⟨(D_app hD).1, fun _ _ _ => trivial⟩, hN.warm hW, hOi.moved hW.alike, hOl.moved hW.alike⟩⟩ rfl rfl hl.1 rfl (lv_room (Nat.le_of_ble_eq_true rfl)) dL_law_4 ⟨Nat.le_of_ble_eq_true rfl, Nat.le_of_ble_eq_true rfl⟩) hS (fun q _ h => hFc q h) hFc (fun u t H1 locs ht hvm hw hB hz1 hk1 hS => ?_)
  obtain ⟨hP1, hK1, hD1⟩ := hB
  rw [ht] at hP1
  obtain ⟨hP2, hD2⟩ := fr_joinW hP hD (fun q h => hA q (Nat.le_trans hSz h)) hk1 hP1 hD1
  clear hP hD hP1 hD1 hk1 hFc
  obtain ⟨hP, hD⟩ := And.intro hP2 hD2
  clear hP2 hD2
  obtain ⟨aC, SC⟩ := u
  obtain ⟨hq0, c1, c2, c3⟩ := hw
  have hq0 : aC 0 = q0 := hq0
  subst hq0
  refine W.widen (k := 91) (n := 12938) (Nat.le_of_ble_eq_true rfl) (Nat.le_of_ble_eq_true rfl) ?_
  refine lv_astore_n (lv' := [(1, .ref (aC 0)), (0, .ref b)]) hx hb dL_law_7 rfl hl (by decide) rfl (fun ls hl => ?_)
  refine va_new (ci := 4) (fs := [.int 0, .int 0, .int 0, .int 0, .null, .null, .null, .null, .null, .null, .null, .int 0, .int 0, .long 0, .null, .null, .null, .null, .null, .null, .int 0, .int 0, .long 0, .null, .null, .int 0, .null, .null, .null, .long 0]) (C := RX5) (T := TX5) (N := 30) hx hb hts uwX5 tyX5 tyX5_ok hown (hts _ (T13 (i := 96) rfl rfl)) (hts _ (T13 (i := 97) rfl rfl)) (hts _ (T11 (i := 5) rfl rfl)) hK hP hD hS hA rfl dfX5 (Nat.le_of_ble_eq_true rfl) (Nat.le_of_ble_eq_true rfl) dL_law_8 (fun q8 H hP hD hS => ?_)
  refine W.widen (k := 92) (n := 12968) (Nat.le_of_ble_eq_true rfl) (Nat.le_of_ble_eq_true rfl) ?_
  refine lv_dup hx hb dL_law_11 rfl ?_
  have hSz := hS.1
  have hFc := fr_freeW hD hS hA
  refine va_callv (va_runI (As := []) (rest := [.ref q8]) ⟨hx, hb, hml, hown, hts⟩ (c_X5_init l D d0 q8 H.size) (cwI 0 hts (TsG_good (T13 (i := 100) rfl rfl)) rfl rfl rfl (hts _ (T11 (i := 5) rfl rfl)) (hts _ (T13 (i := 98) rfl rfl)) (hts _ (T13 (i := 99) rfl rfl)) rfl (by decide +kernel) ⟨Nat.le_of_ble_eq_true rfl, Nat.le_of_ble_eq_true rfl⟩) ⟨fun a U g mk q => by obtain ⟨q0, q1, qP, qK, qD, qN⟩ := q; exact ⟨q0, q1, qP, va_K.moved (u := U) (U := U.calling g mk a) (Vm.Alike.refl U.vm) qK, qD, NwU.same (s := U) (U := U.calling g mk a) rfl qN⟩, fun U hU hW => ⟨rfl, by rw [hU], by rw [hU]; exact (P_app hP).2, va_K.moved hW.alike hK, ⟨(D_app hD).1, fun _ _ _ => trivial⟩, hN.warm hW⟩⟩ rfl rfl hl.1 rfl (lv_room (Nat.le_of_ble_eq_true rfl)) dL_law_12 ⟨Nat.le_of_ble_eq_true rfl, Nat.le_of_ble_eq_true rfl⟩) hS (fun q _ h => hFc q h) hFc (fun u t H1 locs ht hvm hw hB hz1 hk1 hS => ?_)
  obtain ⟨hP1, hK1, hD1⟩ := hB
  rw [ht] at hP1
  obtain ⟨hP2, hD2⟩ := fr_joinW hP hD (fun q h => hA q (Nat.le_trans hSz h)) hk1 hP1 hD1
  clear hP hD hP1 hD1 hk1 hFc
  obtain ⟨hP, hD⟩ := And.intro hP2 hD2
  clear hP2 hD2
  obtain ⟨aM, SM⟩ := u
  obtain ⟨hq8, m1, m2⟩ := hw
  have hq8 : aM 0 = q8 := hq8
  subst hq8
  refine W.widen (k := 110) (n := 26668) (Nat.le_of_ble_eq_true rfl) (Nat.le_of_ble_eq_true rfl) ?_
  refine lv_astore_n (lv' := [(2, .ref (aM 0)), (1, .ref (aC 0)), (0, .ref b)]) hx hb dL_law_15 rfl hl (by decide) rfl (fun ls hl => ?_)
  refine lv_iconst (v := 1) hx hb dL_law_16 (by decide) ?_
  refine fr_newa (atype := .long) (n := 1) (N' := 1) (a0 := (1, .inr (.inl (fun _ => 0)))) hx hb (hts _ wac_l) rfl rfl hK (t0 := 1) rfl hP hD hS hA (fun cA => cell_l cA 1) (by decide) (by decide) (by decide) (Nat.le_of_ble_eq_true rfl) (Nat.le_of_ble_eq_true rfl) dL_law_17 (fun o H hP hD hS => ?_)
  refine W.widen (k := 111) (n := 26669) (Nat.le_of_ble_eq_true rfl) (Nat.le_of_ble_eq_true rfl) ?_
  refine lv_astore_n (lv' := [(3, .ref o), (2, .ref (aM 0)), (1, .ref (aC 0)), (0, .ref b)]) hx hb dL_law_19 rfl hl (by decide) rfl (fun ls hl => ?_)
  refine lv_iconst (v := iv ((0 : Nat) : Int)) hx hb dL_law_20 (by decide) ?_
  refine lv_istore (lv' := [(4, .int (iv ((0 : Nat) : Int))), (3, .ref o), (2, .ref (aM 0)), (1, .ref (aC 0)), (0, .ref b)]) hx hb dL_law_21 hl (by decide) rfl (fun ls hl => ?_)
  subst hd0
  subst hAe
  have hO : LwO p l room_1 s m #[Value.ref b] c D d2 b L sa xs := ⟨hx, hb, hml, hown, hts, hN, hK, hX, hbl, hT, hlt, Nat.le_of_ble_eq_true rfl, Nat.le_of_ble_eq_true rfl, hL⟩
  have hs : LwS s D aC aM d2 b o 0 H locs ls := ⟨_, SC, SM, fun _ => 0, Inv_0 c1 c2 c3 m1 m2, P_perm (perm3 _ _ _) hP, D_perm (perm3 _ _ _) hD, hS, lv_sub hl [0, 4, 3, 2, 1] rfl⟩
  refine law_loop (cB := 601024) (sB := 7293034) hO ⟨Nat.le_of_ble_eq_true rfl, Nat.le_of_ble_eq_true rfl⟩ (fun H1 locs1 ls1 hS => ?_) 512 0 H locs ls 111 26669 (by omega) (Nat.zero_le _) (Nat.le_of_ble_eq_true rfl) (Nat.le_of_ble_eq_true rfl) hs
  refine lv_iconst (v := 1) hx hb dL_law_872 (by decide) ?_
  exact va_forget hS.2.2 (lw_ret hx hb hr hlocks dL_law_873)
set_option maxHeartbeats 4000000 in
theorem lw_walk (l : Launch) (hlt : l.stackTraces = false) (b : Addr) (xs : List Int32) : MetFree l x (headSpec (Jvm.Cond.code x code maxLocals ret :: tables_1) room_1) (lw_P b xs) (fun _ _ _ _ _ => True) lw_Q := by
  refine MetFree.of_bodyS (code := code) (maxLocals := maxLocals) (ret := ret) (by decide) ?_ ?_
  · intro args s m h hn
    obtain ⟨meth, c, h1, h2, h3, h4, h5, h6, -, -⟩ := Cond.code_spec hn (atoms_spec (ws := Jvm.Cond.code x code maxLocals ret :: tables_1) h _ List.mem_cons_self)
    exact ⟨meth, c, h1, h2, h3, h4, h5, h6⟩
  · intro p e s m args below meth c s₁ B hml0 hP _
    obtain ⟨rfl, hx, hbd, hgv⟩ := hP
    obtain ⟨scr, harrAt, hlist, hof, hsmall⟩ := hx
    obtain ⟨hcb, hkn, -, -⟩ := State.arrayAt?_spec harrAt
    have hown : s.vm.findClass R_law = some m.cls := findClass_of_methodNamed B.named
    have hts0 : ∀ c ∈ (Jvm.Cond.code x code maxLocals ret :: tables_1), c.before #[Value.ref b] s = true := atoms_spec (ws := Jvm.Cond.code x code maxLocals ret :: tables_1) B.pre
    have hts : ∀ w ∈ lw_tbl, w.before #[Value.ref b] s = true := k2_hts_sels lw_privs (fun w hw => hts0 w (List.mem_cons_of_mem _ hw)) lw_privs_ok
    have hml : c.maxLocals = 8 := B.maxLocals_eq (hts0 _ List.mem_cons_self)
    have X₀ : Stand p l e room_1 s m #[Value.ref b] below meth c s₁ [] 0 0 := Stand.of_body B
    have hh0 : s₁.heap = s.heap := by rw [B.state]; rfl
    have hsz : scr.slots.size = xs.length := by rw [← Array.length_toList, hlist, List.length_map]
    have hval : ∀ j : Nat, j < xs.length → scr.slots[j]? = some (.int (xs.getD j 0)) := fun j hj => by
      rw [← Array.getElem?_toList, hlist]
      simp [hj]
    have hbl : b < s.heap.size := (Array.getElem?_eq_some_iff.mp hcb).1
    have hX : va_X b xs.length (fun j => xs.getD j 0) s s.heap := ⟨scr, hcb, hof, hkn, hsz, hval⟩
    have K : W p l e room_1 s m #[Value.ref b] below meth c s₁.heap [] 0 0 (lw_Z below #[Value.ref b] s) (entryFrame m ([Value.ref b] : List Value).toArray 8) := by
      rw [hh0]
      exact whole_start l hlt hbd ⟨B.exec, B.bytes, B.returns, hml, hown, hts, hX, hbl, B.notSynchronized, hgv⟩
    obtain ⟨t, a1, o, b1, b2, b3⟩ := K s₁ rfl X₀
    exact ⟨t, o, a1, b1, b2, b3⟩
theorem lw_pre_spec {args : Array Value} {s : State} (h : (Jvm.Cond.and given_1 narrow_1).before args s = true) (hr : rest_1_c.before args s = true) : ∃ (b : Addr) (xs : List Int32), lw_P b xs args s := by
  have hs := flat_of_before _ h
  have hq := flat_of_before _ hr
  have hc : (Cond.count 1).before args s = true := hs _ (by decide +kernel)
  have harr : (Cond.arrayOf (.arg 0) .int).before args s = true := hs _ (by decide +kernel)
  have hle : (Cond.le (.length (.arg 0)) (.int 2560)).before args s = true := hs _ (by decide +kernel)
  have hlen : (Cond.isInt (.length (.arg 0))).before args s = true := hq _ (by decide +kernel)
  have hall : (Cond.all (.arg 0) (.isInt (.elem (.arg 0) (.index 0)))).before args s = true := hq _ (by decide +kernel)
  obtain ⟨b, xs, hb, hx⟩ := State.ints_of_pre rfl harr hlen hall
  have hsm : xs.length < 2 ^ 31 := hx.choose_spec.2.2.2
  have hev : (Term.length (.arg 0)).eval args s none [] s = some (.int xs.length.toInt32) := hx.length_eval hb
  have hv := Cond.le_ints hev (show (Term.int 2560).eval args s none [] s = some (.int 2560) from rfl)
  have hd : xs.length.toInt32 ≤ 2560 := by
    simpa [Cond.before, Cond.holds, hv] using hle
  have hN : xs.length ≤ 2560 := (Int32.ofNat_le_ofNat hsm (by decide)).mp (show Int32.ofNat xs.length ≤ Int32.ofNat 2560 from hd)
  exact ⟨b, xs, Cond.one_arg hc (show args[0]? = some (.ref b) from hb), hx, hN, h⟩
theorem lw_comes (l : Launch) (hlt : l.stackTraces = false) : Comes l x (Jvm.Cond.code x code maxLocals ret :: tables_1) room_1 (fun tb e args s => Calls_1 tb e args s ∧ rest_1 tb e args s ∧ Pre_1 tb e args s)
    (fun _ _ args s o t => lw_Q args s o t) := by
  intro p e ha hc hk s m args below hf hfit hheap happ hpre
  obtain ⟨b, xs, hP⟩ := lw_pre_spec hpre.2.2 hpre.2.1
  obtain ⟨k, o, h1, h2, h3, hQ⟩     := lw_walk l hlt b xs p e ha hc hk s m args below hf ((Spec.applies_iff_loose hf).mp happ).1 hP trivial
  exact ⟨k, o, h1, h2, h3, hQ⟩
theorem lw_frame {s t : State} {o : Outcome} {args : Array Value} (h : Framed s o t [] 601024 7293034) :
    Framed s o t (fieldLocs frame_1_writes args s ++ arrayLocs frame_1_arrays args s ++ staticLocs frame_1_statics s) 601024 7293034 := h
theorem lw_limb (L : Cond) (hL : ∀ (args : Array Value) (s t : State), L.after args s (.returned (some (.int 1))) t = true) :
    ArmFor flags0 classFile x code maxLocals ret World_1 tables_1 room_1 Calls_1 rest_1 Pre_1
      (fun tb e a s o t => postC L tb e a s o t ∧ Framed s o t (fieldLocs frame_1_writes a s ++ arrayLocs frame_1_arrays a s ++ staticLocs frame_1_statics s) 601024 7293034) := by
  intro l hfl _ _ p e ha hc hk s m args below hf hfit hheap happ hpre
  obtain ⟨k, o, h1, h2, h3, rfl, hF⟩     := lw_comes l (lw_nt hfl) p e ha hc hk s m args below hf hfit hheap happ hpre
  exact ⟨k, _, h1, h2, h3, hL args s _, lw_frame hF⟩
theorem i_vc : Claimed_1_1 ∧ Claimed_1_2 := ⟨lw_limb limb_1_1 (fun args s t => by simp [limb_1_1, Cond.after, Cond.holds, Cond.value]), lw_limb limb_1_2 (fun args s t => Cond.after_iff.mpr (by
  first | (rw [show limb_1_2 = Cond.eq .result (.int 1) from rfl, Cond.eq_ints (x := 1) (y := 1) rfl rfl]; simp; done) | (simp [limb_1_2, Cond.value, Term.eval]; done)))⟩
