/-! ===== a call beside other cells ===== -/
section FC
variable {p : Program} {l : Launch} {e : Env} {R : Room} {s : State} {m : MethodId} {args : Array Value} {below : List Frame} {meth : Method} {c : Code} {H : Heap} {locs : List Loc} {cells slots : Nat} {Q : State → Prop}
variable {cc cy : ByteArray} {pc nL h1 idx nLy np : Nat} {ls : Array Slot} {D : va_G} {A : Nat → Prop} {H0 : Heap} {wl : Dt → St → va_W} {d : Dt} {S S1 : St} {r : Option Value} {wr : va_W} {own : String} {y : MethodName} {rty : Option FieldType} {As st : List Value}
theorem fr_after {g : JFrame} {vs : Array Value} (hw : wlAd wl) (hP : va_P D vwCl (wr ++ wl d S) H) (hD : va_D A (wr ++ wl d S)) (hS : va_S A H0 H locs) (hA : ∀ q, H0.size ≤ q → A q) (hg : g = F0 m pc ls g.stack)
    (hr : va_Run p l e R s m args below meth c H locs cells slots 0 0 g st (QcU wl D d (aA wl d H.size) r S1 vs) (aA wl d H.size))
    (kk : ∀ (H1 : Heap) (locs1 : List Loc), va_P D vwCl (wr ++ wl d S1) H1 → va_D A (wr ++ wl d S1) → va_S A H0 H1 locs1 → W p l e R s m args below meth c H1 locs1 cells slots Q (F0 m (pc + 3) ls (r.toList ++ st))) :
    W p l e R s m args below meth c H locs cells slots Q g := by
  intro T hT XX
  obtain ⟨v, st₀, t, T', L, h0, X', hL, e1, e2, ⟨⟨hv, hP1, hK1, hD1⟩, hz, hk⟩, hst⟩ := hr T hT XX
  rw [h0] at hz hk
  cases hv
  have hAH : ∀ q, H.size ≤ q → A q := fun q h => hA q (Nat.le_trans hS.1 h)
  obtain ⟨hP2, hD2⟩ := fr_join hw hP hD hAH hk hP1 hD1
  have hfree : ∀ q, aA wl d H.size q → A q := by
    intro q hq
    rcases hq with ⟨k, e, hq⟩ | hq
    · obtain ⟨e', he'⟩ := hw d st0 S k q e hq
      exact hD.2 (wr.length + k) (q, e') (by rw [List.getElem?_append_right (by omega), Nat.add_sub_cancel_left]; exact he')
    · exact hAH q hq
  have hS2 : va_S A H0 T'.heap (locs ++ L) := ⟨Nat.le_trans hS.1 (by rw [e1]; exact hz), fun q h1 h2 => by rw [e1, hk q (Nat.lt_of_lt_of_le h1 hS.1) (fun z => h2 (hfree q z))]; exact hS.2.1 q h1 h2, fun q hq => by
      rcases List.mem_append.mp hq with h | h
      · exact hS.2.2 q h
      · exact hfree _ (hL q h)⟩
  obtain ⟨t2, a1, b1⟩ := kk T'.heap (locs ++ L) (by rw [e1]; exact hP2) hD2 hS2 T' rfl X'
  refine ⟨t2, hst t2 ?_, b1⟩
  rw [hg]
  exact a1
theorem fr_callV {q : Nat} {stk : List Value} (hw : wlAd wl) (hx : p.tables.exec = Jvm.exec) (hb : c.code = cc) (hml : c.maxLocals = nL) (hown : s.vm.findClass own = some m.cls) (hts : ∀ w ∈ TsG, w.before args s = true) (hN : NwU s) (hK : va_K D vwCl (dtT d) s) (hP : va_P D vwCl (wr ++ wl d S) H) (hD : va_D A (wr ++ wl d S)) (hS : va_S A H0 H locs) (hA : ∀ q, H0.size ≤ q → A q)
    (lk : LkV own idx y cy nLy rty np) (hob : OB wl q y.cls) (hM : Mt l D d wl y cy nLy rty h1 (.ref (d.1 q) :: As) S r S1) (hn : As.length = np) (hs : (st.map fun v => v.category).sum ≤ 8) (hfr : h1 + 1 ≤ R.frames) (hlo : 8 + (nLy + 11) + 64 * h1 ≤ R.locals) (hls : ls.size = nL) (hc : cells ≤ R.cells ∧ slots ≤ R.slots) (hd : decode cc pc = .ok (.invokevirtual idx, 3)) (hstk : stk = As.reverse ++ .ref (d.1 q) :: st)
    (kk : ∀ (H1 : Heap) (locs1 : List Loc), va_P D vwCl (wr ++ wl d S1) H1 → va_D A (wr ++ wl d S1) → va_S A H0 H1 locs1 → W p l e R s m args below meth c H1 locs1 cells slots Q (F0 m (pc + 3) ls (r.toList ++ st))) :
    W p l e R s m args below meth c H locs cells slots Q (F0 m pc ls stk) := by
  have hM' := hM H.size
  obtain ⟨ci, rr, hci, hrr, hobs⟩ := hob
  obtain ⟨fs, hfs⟩ := hobs d S
  have hPc := (P_app hP).2
  have hrec := va_recv hK hPc hci hfs
  rw [hrr] at hrec
  subst hstk
  have hpre : PreV s H y.cls (d.1 q) (va_Pc (.ref (d.1 q) :: As) (fun U => U.heap.size = H.size ∧ va_P D vwCl (wl d S) U.heap ∧ va_K D vwCl (dtT d) U ∧ va_D (fun _ => True) (wl d S) ∧ NwU U)) As := ⟨k_blind, hrec, fun U hU hW => ⟨rfl, by rw [hU], by rw [hU]; exact hPc, va_K.moved hW.alike hK, ⟨fun i j p q hi hj hpq => by
      have := hD.1 (wr.length + i) (wr.length + j) p q (by rw [List.getElem?_append_right (by omega), Nat.add_sub_cancel_left]; exact hi) (by rw [List.getElem?_append_right (by omega), Nat.add_sub_cancel_left]; exact hj) hpq
      omega, fun _ _ _ => trivial⟩, hN.warm hW⟩⟩
  rcases lk.1.2.2.2.2 with hl1 | ⟨host, hl1⟩
  · refine fr_after (vs := (Value.ref (d.1 q) :: As).toArray) hw hP hD hS hA rfl (va_runV (As := As) (rest := st) (g := F0 m pc ls (As.reverse ++ .ref (d.1 q) :: st)) ⟨hx, hb, hml, hown, hts⟩ hM' ⟨callB_of np hts (TsG_good lk.1.1) rfl rfl rfl (hts _ lk.1.2.1) (hts _ hl1) lk.1.2.2.1 ⟨hfr, hlo⟩, hts _ lk.2.1, hts _ lk.2.2⟩ hpre rfl hn hls rfl (lv_room hs) hd hc) kk
  · refine fr_after (vs := (Value.ref (d.1 q) :: As).toArray) hw hP hD hS hA rfl (va_runVN (As := As) (rest := st) (g := F0 m pc ls (As.reverse ++ .ref (d.1 q) :: st)) ⟨hx, hb, hml, hown, hts⟩ hM' ⟨va_cnB np hts (TsG_good lk.1.1) rfl rfl rfl (hN _ hl1) (hts _ lk.1.2.1) lk.1.2.2.1 ⟨hfr, hlo⟩, hts _ lk.2.1, hts _ lk.2.2⟩ hpre rfl hn hls rfl (lv_room hs) hd hc) kk
end FC
/-- int, long and boolean rows as they come -/
theorem cell_i (cA : ClassId) (n : Nat) : vp_cell cA (n, .inl (fun _ => 0)) = arrV cA n (fun _ => defaultValue .int) := rfl
theorem cell_z (cA : ClassId) (n : Nat) : vp_cell cA (n, .inl (fun _ => 0)) = arrV cA n (fun _ => defaultValue .boolean) := rfl
theorem cell_l (cA : ClassId) (n : Nat) : vp_cell cA (n, .inr (.inl (fun _ => 0))) = arrV cA n (fun _ => defaultValue .long) := rfl
theorem wac_i : Cond.arrayClass .int ∈ TsG := T11 (i := 71) rfl rfl
theorem wac_l : Cond.arrayClass .long ∈ TsG := T11 (i := 120) rfl rfl
theorem wac_z : Cond.arrayClass .boolean ∈ TsG := T13 (i := 197) rfl rfl
theorem woi_m : Cond.instanceMethod objectInit ∈ TsG := T11 (i := 19) rfl rfl
theorem woi_c : Cond.code objectInit ⟨#[0xb1]⟩ 1 none ∈ TsG := T11 (i := 20) rfl rfl
/-- the first program -/
def P0 : Pr := (0, fun _ => 0, fun _ => 0, fun _ => 0, fun _ => 0, fun _ => 0, fun _ v => if v = 0 then 60 else 0, fun _ => 0)
theorem Wf_0 : Wf P0 := by
  refine ⟨by decide, fun k => ⟨Nat.zero_le _, Nat.zero_le _, Or.inl (Nat.zero_le _), Or.inl (Nat.zero_le _), fun h => absurd h (Nat.not_lt_zero k)⟩, fun _ _ => Nat.zero_le _, fun _ => Nat.zero_le _, fun r v => ?_, by decide, by decide, fun _ => Nat.zero_le _⟩
  show (if v = 0 then 60 else 0) ≤ 60
  split <;> omega
/-- the reference's store behind its making -/
theorem rsM : ∃ S', f_X5_reset st0 = some ((), S') ∧ RM P0 S' ∧ gI S' 11 = iv 0 := by
  obtain ⟨f, g, h1, h2, h3⟩ := rsM17 40 0 FU (sI (sI (sI st0 1 (iv 0)) 2 (iv 0)) 3 (iv 0)) (by omega) (by rw [FU_v]; omega)
  refine ⟨_, h1, ⟨rfl, rfl, rfl, fun _ => rfl, fun _ => rfl, fun _ => rfl, fun _ => rfl, fun _ => rfl, fun r v hr hv => ?_, fun x hx => ?_⟩, rfl⟩
  · show f (10 * r + v) = iv (if v = 0 then 60 else 0 : Nat)
    rw [h2 _ (by omega), if_pos (by omega)]
    by_cases e : v = 0
    · rw [if_pos (by omega), if_pos e]; rfl
    · rw [if_neg (by omega), if_neg e]; rfl
  · show g x = iv 0
    exact h3 x hx
