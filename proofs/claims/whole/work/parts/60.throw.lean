/-! ===== odds, where it throws ===== -/
section FT
variable {p : Program} {l : Launch} {e : Env} {R : Room} {s : State} {m : MethodId} {args : Array Value} {below : List Frame} {meth : Method} {c : Code} {H : Heap} {locs : List Loc} {cells slots : Nat} {Q : State → Prop}
variable {cc cy : ByteArray} {pc nL h1 idx nLy np : Nat} {ls : Array Slot} {D : va_G} {A : Nat → Prop} {H0 : Heap} {wl : Dt → St → va_W} {d : Dt} {S S1 : St} {r : Option Value} {wr : va_W} {own : String} {y : MethodName} {rty : Option FieldType} {As st : List Value}
theorem fr_callS {stk : List Value} (hw : wlAd wl) (hx : p.tables.exec = Jvm.exec) (hb : c.code = cc) (hml : c.maxLocals = nL) (hown : s.vm.findClass own = some m.cls) (hts : ∀ w ∈ TsG, w.before args s = true) (hN : NwU s) (hK : va_K D vwCl (dtT d) s) (hP : va_P D vwCl (wr ++ wl d S) H) (hD : va_D A (wr ++ wl d S)) (hS : va_S A H0 H locs) (hA : ∀ q, H0.size ≤ q → A q)
    (lk : LkS own idx y cy nLy rty np) (hM : Mt l D d wl y cy nLy rty h1 As S r S1) (hn : As.length = np) (hs : (st.map fun v => v.category).sum ≤ 8) (hfr : h1 + 1 ≤ R.frames) (hlo : 8 + (nLy + 11) + 64 * h1 ≤ R.locals) (hls : ls.size = nL) (hc : cells ≤ R.cells ∧ slots ≤ R.slots) (hd : decode cc pc = .ok (.invokestatic idx, 3)) (hstk : stk = As.reverse ++ st)
    (kk : ∀ (H1 : Heap) (locs1 : List Loc), va_P D vwCl (wr ++ wl d S1) H1 → va_D A (wr ++ wl d S1) → va_S A H0 H1 locs1 → W p l e R s m args below meth c H1 locs1 cells slots Q (F0 m (pc + 3) ls (r.toList ++ st))) :
    W p l e R s m args below meth c H locs cells slots Q (F0 m pc ls stk) := by
  have hM' := hM H.size
  have hPc := (P_app hP).2
  subst hstk
  have hpre : PreS s H (va_Pc As (fun U => U.heap.size = H.size ∧ va_P D vwCl (wl d S) U.heap ∧ va_K D vwCl (dtT d) U ∧ va_D (fun _ => True) (wl d S) ∧ NwU U)) As := ⟨k_blind, fun U hU hW => ⟨rfl, by rw [hU], by rw [hU]; exact hPc, va_K.moved hW.alike hK, ⟨(D_app hD).1, fun _ _ _ => trivial⟩, hN.warm hW⟩⟩
  rcases lk.1.2.2.2.2 with hl1 | ⟨host, hl1⟩
  · refine fr_after (vs := As.toArray) hw hP hD hS hA rfl (va_runS (As := As) (rest := st) (g := F0 m pc ls (As.reverse ++ st)) ⟨hx, hb, hml, hown, hts⟩ hM' ⟨callB_of np hts (TsG_good lk.1.1) rfl rfl rfl (hts _ lk.1.2.1) (hts _ hl1) lk.1.2.2.1 ⟨hfr, hlo⟩, hts _ lk.2⟩ hpre rfl hn hls rfl (lv_room hs) hd hc) kk
  · refine fr_after (vs := As.toArray) hw hP hD hS hA rfl (va_runSN (As := As) (rest := st) (g := F0 m pc ls (As.reverse ++ st)) ⟨hx, hb, hml, hown, hts⟩ hM' ⟨va_cnB np hts (TsG_good lk.1.1) rfl rfl rfl (hN _ hl1) (hts _ lk.1.2.1) lk.1.2.2.1 ⟨hfr, hlo⟩, hts _ lk.2, trivial⟩ hpre rfl hn hls rfl (lv_room hs) hd hc) kk
theorem fr_get {q : Nat} {v : Dt → St → Value} (hf : GF wl own idx q v) (hx : p.tables.exec = Jvm.exec) (hb : c.code = cc) (hown : s.vm.findClass own = some m.cls) (hts : ∀ w ∈ TsG, w.before args s = true) (hN : NwU s) (hK : va_K D vwCl (dtT d) s) (hP : va_P D vwCl (wl d S) H) (hd : decode cc pc = .ok (.getfield idx, 3))
    (k : W p l e R s m args below meth c H locs cells slots Q (F0 m (pc + 3) ls (v d S :: st))) : W p l e R s m args below meth c H locs cells slots Q (F0 m pc ls (.ref (d.1 q) :: st)) := by
  obtain ⟨ci, sl, C, T, N, h1, h2, h3, h4, h5, h6⟩ := hf
  obtain ⟨fs, h7, h8⟩ := h6 d S
  rcases h4 with h4 | ⟨host, h4⟩
  · exact va_get hx hb hts h2 hown hK hP q h7 h1 sl h3 (hts _ h4) (fun x hx => by rw [h5] at hx; exact hx) h8 hd k
  · exact va_getN hx hb hts h2 hown hK hP q h7 h1 sl h3 (va_Nw.use rfl (hN _ h4)) (fun x hx => by rw [h5] at hx; exact hx) h8 hd k
end FT
def txE : String := "nothing is at the end"
def aE : String := "java/lang/ArithmeticException"
def nmE : List String := ["java/lang/RuntimeException", "java/lang/Exception"]
/-- words of the throw that stay in a way of their own -/
def NX : List Cond := [.castable aE aE, .declares ⟨Bundle.tN, "<init>", "()V"⟩, .declares ⟨Bundle.tN, "<init>", "(Ljava/lang/String;)V"⟩, .declares ⟨"java/lang/RuntimeException", "<init>", "(Ljava/lang/String;)V"⟩, .declares ⟨"java/lang/Exception", "<init>", "(Ljava/lang/String;)V"⟩]
def NxU (U : State) : Prop := ∀ w ∈ NX, va_Nw w U
theorem NxU.warm {s U : State} (hW : s.WarmedH U.vm) (h : NxU s) : NxU U := by
  intro w hw
  have h1 := h w hw
  rcases List.mem_cons.mp hw with rfl | hw
  · exact va_Nw.warmC hW h1
  rcases List.mem_cons.mp hw with rfl | hw
  · exact va_Nw.warmD hW h1
  rcases List.mem_cons.mp hw with rfl | hw
  · exact va_Nw.warmD hW h1
  rcases List.mem_cons.mp hw with rfl | hw
  · exact va_Nw.warmD hW h1
  rcases List.mem_cons.mp hw with rfl | hw
  · exact va_Nw.warmD hW h1
  · cases hw
theorem NxU.same {s U : State} (hv : s.vm = U.vm) (h : NxU s) : NxU U := by
  intro w hw
  have h1 := h w hw
  rcases List.mem_cons.mp hw with rfl | hw
  · exact va_Nw.same rfl hv h1
  rcases List.mem_cons.mp hw with rfl | hw
  · exact va_Nw.same rfl hv h1
  rcases List.mem_cons.mp hw with rfl | hw
  · exact va_Nw.same rfl hv h1
  rcases List.mem_cons.mp hw with rfl | hw
  · exact va_Nw.same rfl hv h1
  rcases List.mem_cons.mp hw with rfl | hw
  · exact va_Nw.same rfl hv h1
  · cases hw
set_option maxRecDepth 100000 in
theorem atE_g : ∀ w ∈ (vx_atS RX4 157 aE nmE).filter goodWord, w ∈ TsG := by decide +kernel
set_option maxRecDepth 100000 in
theorem atE_n : ∀ w ∈ (vx_atS RX4 157 aE nmE).filter (fun w => !goodWord w), w ∈ NX := by decide +kernel
set_option maxRecDepth 100000 in
theorem atE_ot : ∀ w ∈ Cond.classLink RX4 153 aE :: Cond.initialized aE :: vx_atS RX4 157 aE nmE, vx_ot w = true := by decide +kernel
/-- what a throw needs beside the world -/
def TxU (sa : Nat) (A : Nat → Prop) (U : State) : Prop := NxU U ∧ vk_R RX4 155 txE sa U ∧ vx_Zq Bundle.tN "UNASSIGNED_STACK" Bundle.steD A U U.heap ∧ vx_Zq Bundle.tN "SUPPRESSED_SENTINEL" Bundle.listD A U U.heap
theorem TxU.same {sa : Nat} {A : Nat → Prop} {s U : State} (hv : s.vm = U.vm) (hh : s.heap = U.heap) (h : TxU sa A s) : TxU sa A U := by
  obtain ⟨h1, h2, h3, h4⟩ := h
  have al : s.vm.Alike U.vm := by rw [hv]; exact Vm.Alike.refl _
  exact ⟨h1.same hv, vk_R.same hv.symm h2, by rw [← hh]; exact h3.moved al, by rw [← hh]; exact h4.moved al⟩
theorem TxU.call {sa : Nat} {A B : Nat → Prop} {s U : State} {H : Heap} (hU : U.heap = H) (hW : s.WarmedH U.vm) (hq : ∀ a : Nat, a < s.heap.size → ¬ A a → H[a]? = s.heap[a]?) (hAB : ∀ q, B q → A q) (h : TxU sa A s) : TxU sa B U := by
  obtain ⟨h1, h2, h3, h4⟩ := h
  exact ⟨h1.warm hW, vk_R.warm hW h2, by rw [hU]; exact ((h3.kept hq).moved hW.alike).narrow hAB, by rw [hU]; exact ((h4.kept hq).moved hW.alike).narrow hAB⟩
set_option maxHeartbeats 1000000 in
set_option maxRecDepth 100000 in
theorem c_X4_oddsT (l : Launch) (hlt : l.stackTraces = false) (D : va_G) (d : Dt) (S : St) (sa : Nat) (x1 x2 x3 : Int32) (sz : Nat) (ht : thr x1 x2 x3 S) : vx_Met l yX4_odds (Cond.code yX4_odds cX4_odds 10 (some .long) :: TsG) ({ frames := 60, cells := 1, slots := 6, locals := 4000 }) (va_Pc [.ref (d.1 0), .int x1, .int x2, .int x3] (fun U => U.heap.size = sz ∧ va_P D vwCl (wlC d S) U.heap ∧ va_K D vwCl (dtT d) U ∧ va_D (fun _ => True) (wlC d S) ∧ NwU U ∧ TxU sa (aA wlC d sz) U)) (va_Ql (fun (_ : Int64) (_ : Unit) => False) (fun _ _ => True) (aA wlC d sz)) (vx_X (fun _ : Unit => True) (fun E _ t => E = aE ∧ va_P D vwCl (wlC d S) t.heap ∧ va_K D vwCl (dtT d) t ∧ va_D (aA wlC d sz) (wlC d S)) (aA wlC d sz)) 1 6 (aA wlC d sz) := by
  refine vx_ofW (cc := cX4_odds) (maxL := 10) (ret := some .long) (by decide) rfl ?_
  intro p e s m args below meth c s₁ B hml htb hv
  obtain ⟨rfl, hsz, hP, hK, hD0, hN, hT⟩ := hv
  have hx := B.exec
  have hb := B.bytes
  have hr := B.returns
  have hts0 := atoms_spec (ws := Cond.code yX4_odds cX4_odds 10 (some .long) :: TsG) B.pre
  have hts : ∀ w ∈ TsG, w.before _ s = true := fun w h => hts0 w (List.mem_cons_of_mem _ h)
  have hown : s.vm.findClass RX4 = some m.cls := findClass_of_methodNamed B.named
  have hlocks := B.notSynchronized
  subst hsz
  have hD : va_D (aA wlC d s.heap.size) (wlC d S) := aA_D wadC hD0
  have hA : ∀ q : Nat, s.heap.size ≤ q → aA wlC d s.heap.size q := fun q h => Or.inr h
  have hS : va_S (aA wlC d s.heap.size) s.heap s.heap [] := va_S.rf
  have hl := lv_entry ([.ref (d.1 0), .int x1, .int x2, .int x3]) (n := 10) (Nat.le_of_ble_eq_true rfl)
  rw [lg_entry_eq]
  generalize (lg_sl ([.ref (d.1 0), .int x1, .int x2, .int x3]) ++ List.replicate (10 - (lg_sl ([.ref (d.1 0), .int x1, .int x2, .int x3])).length) Slot.unset).toArray = ls at hl ⊢
  have hl : lv_has ls 10 [(0, .ref (d.1 0)), (1, .int x1), (2, .int x2), (3, .int x3)] := hl
  obtain ⟨u, g, t1, t2, t3, t4, t5, t6, t7, t8, t9, t10⟩ := ht
  refine lv_iload_n hx hb dX4_odds_0 rfl (lv_at hl 1 rfl) ?_
  refine fr_callS (wr := []) (wl := wlC) (d := d) (S := S) (S1 := S) (As := [.int x1]) (st := []) (r := some (.int (iv 1))) wadC hx hb hml hown hts hN hK hP hD hS hA lkX4_46 (m_X4_isVariable x1 S _ _ t1) rfl (by decide) (Nat.le_of_ble_eq_true rfl) (Nat.le_of_ble_eq_true rfl) hl.1 ⟨Nat.zero_le _, Nat.zero_le _⟩ dX4_odds_1 rfl (fun H locs hP hD hS => ?_)
  refine lv_if_eq (tgt := 34) hx hb dX4_odds_4 (by decide) (fun q => absurd q (by decide)) (fun _ => ?_)
  refine lv_iload_n hx hb dX4_odds_7 rfl (lv_at hl 2 rfl) ?_
  refine fr_callS (wr := []) (wl := wlC) (d := d) (S := S) (S1 := S) (As := [.int x2]) (st := []) (r := some (.int (iv 1))) wadC hx hb hml hown hts hN hK hP hD hS hA lkX4_36 (m_X4_isValue x2 S _ _ t2) rfl (by decide) (Nat.le_of_ble_eq_true rfl) (Nat.le_of_ble_eq_true rfl) hl.1 ⟨Nat.zero_le _, Nat.zero_le _⟩ dX4_odds_8 rfl (fun H locs hP hD hS => ?_)
  refine lv_if_eq (tgt := 34) hx hb dX4_odds_11 (by decide) (fun q => absurd q (by decide)) (fun _ => ?_)
  refine lv_iload_n hx hb dX4_odds_14 rfl (lv_at hl 3 rfl) ?_
  refine lv_if_lt (tgt := 34) hx hb dX4_odds_15 (by decide) (fun q => absurd q t3) (fun _ => ?_)
  refine lv_iload_n hx hb dX4_odds_18 rfl (lv_at hl 3 rfl) ?_
  refine lv_iconst (v := 1) hx hb dX4_odds_19 (by decide) ?_
  refine lv_icmp_gt (tgt := 34) hx hb dX4_odds_20 (by decide) (fun q => absurd q t4) (fun _ => ?_)
  refine lv_aload_n hx hb dX4_odds_23 rfl (lv_at hl 0 rfl) ?_
  refine fr_get gX4_12 hx hb hown hts hN hK hP dX4_odds_24 ?_
  refine lv_iload_n hx hb dX4_odds_27 rfl (lv_at hl 1 rfl) ?_
  refine fr_callV (wr := []) (wl := wlC) (d := d) (S := S) (S1 := S) (q := 1) (As := [.int x1]) (st := []) (r := some (.int (iv 1))) wadC hx hb hml hown hts hN hK hP hD hS hA lkX4_146 obX2 (m_X2_isAsked x1 S _ _ t5) rfl (by decide) (Nat.le_of_ble_eq_true rfl) (Nat.le_of_ble_eq_true rfl) hl.1 ⟨Nat.zero_le _, Nat.zero_le _⟩ dX4_odds_28 rfl (fun H locs hP hD hS => ?_)
  refine lv_if_ne (tgt := 38) hx hb dX4_odds_31 (by decide) (fun _ => ?_) (fun q => absurd q (by decide))
  refine lv_aload_n hx hb dX4_odds_38 rfl (lv_at hl 0 rfl) ?_
  refine fr_get gX4_21 hx hb hown hts hN hK hP dX4_odds_39 ?_
  refine fr_get gX4_88 hx hb hown hts hN hK hP dX4_odds_42 ?_
  refine lv_if_eq (tgt := 60) hx hb dX4_odds_45 (by decide) (fun q => absurd q (by rw [t6]; decide)) (fun _ => ?_)
  refine lv_aload_n hx hb dX4_odds_48 rfl (lv_at hl 0 rfl) ?_
  refine fr_get gX4_21 hx hb hown hts hN hK hP dX4_odds_49 ?_
  refine fr_callV (wr := []) (wl := wlC) (d := d) (S := S) (S1 := S) (q := 2) (As := []) (st := []) (r := some (.int (-5))) wadC hx hb hml hown hts hN hK hP hD hS hA lkX4_95 obX1 (m_X1_leastPlace S _ _ t7) rfl (by decide) (Nat.le_of_ble_eq_true rfl) (Nat.le_of_ble_eq_true rfl) hl.1 ⟨Nat.zero_le _, Nat.zero_le _⟩ dX4_odds_52 rfl (fun H locs hP hD hS => ?_)
  refine lv_bipush (v := -5) hx hb dX4_odds_55 (by decide) ?_
  refine lv_icmp_eq (tgt := 64) hx hb dX4_odds_57 (by decide) (fun _ => ?_) (fun q => absurd rfl q)
  refine lv_aload_n hx hb dX4_odds_64 rfl (lv_at hl 0 rfl) ?_
  refine fr_get gX4_21 hx hb hown hts hN hK hP dX4_odds_65 ?_
  refine lv_aload_n hx hb dX4_odds_68 rfl (lv_at hl 0 rfl) ?_
  refine fr_get gX4_12 hx hb hown hts hN hK hP dX4_odds_69 ?_
  refine fr_get gX4_56 hx hb hown hts hN hK hP dX4_odds_72 ?_
  refine lv_iload_n hx hb dX4_odds_75 rfl (lv_at hl 1 rfl) ?_
  refine lv_iload_n hx hb dX4_odds_76 rfl (lv_at hl 2 rfl) ?_
  refine fr_callV (wr := []) (wl := wlC) (d := d) (S := S) (S1 := S) (q := 2) (As := [.int (gI S 208), .int x1, .int x2]) (st := []) (r := some (.long u)) wadC hx hb hml hown hts hN hK hP hD hS hA lkX4_139 obX1 (m_X1_total (gI S 208) x1 x2 S _ _ t8) rfl (by decide) (Nat.le_of_ble_eq_true rfl) (Nat.le_of_ble_eq_true rfl) hl.1 ⟨Nat.zero_le _, Nat.zero_le _⟩ dX4_odds_77 rfl (fun H locs hP hD hS => ?_)
  refine lv_lstore (lv' := [(4, .long u), (0, .ref (d.1 0)), (1, .int x1), (2, .int x2), (3, .int x3)]) hx hb dX4_odds_80 hl (by decide) rfl (fun ls hl => ?_)
  refine lv_aload_n hx hb dX4_odds_82 rfl (lv_at hl 1 rfl) ?_
  refine fr_get gX4_21 hx hb hown hts hN hK hP dX4_odds_83 ?_
  refine lv_aload_n hx hb dX4_odds_86 rfl (lv_at hl 1 rfl) ?_
  refine fr_get gX4_12 hx hb hown hts hN hK hP dX4_odds_87 ?_
  refine fr_get gX4_56 hx hb hown hts hN hK hP dX4_odds_90 ?_
  refine lv_iconst (v := -1) hx hb dX4_odds_93 (by decide) ?_
  refine lv_iconst (v := 0) hx hb dX4_odds_94 (by decide) ?_
  refine fr_callV (wr := []) (wl := wlC) (d := d) (S := S) (S1 := S) (q := 2) (As := [.int (gI S 208), .int (-1), .int 0]) (st := []) (r := some (.long 0)) wadC hx hb hml hown hts hN hK hP hD hS hA lkX4_139 obX1 (m_X1_total (gI S 208) (-1) 0 S _ _ t9) rfl (by decide) (Nat.le_of_ble_eq_true rfl) (Nat.le_of_ble_eq_true rfl) hl.1 ⟨Nat.zero_le _, Nat.zero_le _⟩ dX4_odds_95 rfl (fun H locs hP hD hS => ?_)
  refine lv_lstore (lv' := [(6, .long 0), (4, .long u), (0, .ref (d.1 0)), (1, .int x1), (2, .int x2), (3, .int x3)]) hx hb dX4_odds_98 hl (by decide) rfl (fun ls hl => ?_)
  refine lv_lload hx hb dX4_odds_100 (lv_at hl 1 rfl) ?_
  refine lv_lload hx hb dX4_odds_102 (lv_at hl 0 rfl) ?_
  refine fr_callS (wr := []) (wl := wlC) (d := d) (S := S) (S1 := S) (As := [.long u, .long 0]) (st := []) (r := some (.long g)) wadC hx hb hml hown hts hN hK hP hD hS hA lkX4_149 (m_X4_commonDivisor u 0 S _ _ t10) rfl (by decide) (Nat.le_of_ble_eq_true rfl) (Nat.le_of_ble_eq_true rfl) hl.1 ⟨Nat.zero_le _, Nat.zero_le _⟩ dX4_odds_104 rfl (fun H locs hP hD hS => ?_)
  refine lv_lstore (lv' := [(8, .long g), (6, .long 0), (4, .long u), (0, .ref (d.1 0)), (1, .int x1), (2, .int x2), (3, .int x3)]) hx hb dX4_odds_107 hl (by decide) rfl (fun ls hl => ?_)
  refine lv_lload hx hb dX4_odds_109 (lv_at hl 1 rfl) ?_
  refine lv_lconst (v := 0) hx hb dX4_odds_111 (by decide) ?_
  refine W.lcmp hx hb dX4_odds_112 ?_
  refine lv_if_le (tgt := 123) hx hb dX4_odds_113 (by decide) (fun _ => ?_) (fun q => absurd (by decide) q)
  obtain ⟨hT1, hT2, hT3, hT4⟩ := hT
  refine vx_throwS (names := nmE) (cls := aE) (text := txE) (sa := sa) (A := aA wlC d s.heap.size) hx hb hlt hown (by decide +kernel) (by decide +kernel) (hts (Cond.classLink RX4 153 aE) (T13 (i := 30) rfl rfl)) (hts (Cond.initialized aE) (T11 (i := 12) rfl rfl)) hT2 (vx_hat (fun w hw => hts w (atE_g w hw)) atE_n (fun w hw => by
      have := hT1 w hw
      rcases List.mem_cons.mp hw with rfl | hw
      · exact va_Nw.use rfl this
      rcases List.mem_cons.mp hw with rfl | hw
      · exact va_Nw.use rfl this
      rcases List.mem_cons.mp hw with rfl | hw
      · exact va_Nw.use rfl this
      rcases List.mem_cons.mp hw with rfl | hw
      · exact va_Nw.use rfl this
      rcases List.mem_cons.mp hw with rfl | hw
      · exact va_Nw.use rfl this
      · cases hw)) atE_ot hT3 hT4 hS (hl.1.trans hml.symm) dX4_odds_123 dX4_odds_126 dX4_odds_127 dX4_odds_129 dX4_odds_132 (fun x hx => (htb x hx).elim) (Nat.le_of_ble_eq_true rfl) (Nat.le_of_ble_eq_true rfl) (Nat.le_of_ble_eq_true rfl) (Nat.le_of_ble_eq_true rfl) hlocks (fun t hvm hz hq => ⟨(), trivial, ⟨rfl, ?_, va_K.moved hvm hK, hD⟩, ?_⟩) hS.2.2 (Nat.le_refl _) (Nat.le_refl _)
  · exact va_P.kept hP (fun k x hx => hq x.1 (hP k x hx).lt)
  · refine ⟨Nat.le_trans hS.1 hz, fun q h1 h2 => ?_⟩
    rw [hq q (Nat.lt_of_lt_of_le h1 hS.1)]
    exact hS.2.1 q h1 h2
