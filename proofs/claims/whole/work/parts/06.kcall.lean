/-! ===== contracts and calls ===== -/
def bnd {ρ β : Type} (f : Option (ρ × St)) (k : ρ → St → Option β) : Option β := match f with
  | some (r, S) => k r S
  | none => none
theorem bnd_some {ρ β : Type} {f : Option (ρ × St)} {k : ρ → St → Option β} {x : β} (h : bnd f k = some x) : ∃ r S, f = some (r, S) ∧ k r S = some x := by
  match f, h with
  | some (r, S), h => exact ⟨r, S, rfl, h⟩
  | none, h => cases h
theorem bnd_s {ρ β : Type} {r : ρ} {S : St} {k : ρ → St → Option β} : bnd (some (r, S)) k = k r S := rfl
theorem bnd_n {ρ β : Type} {k : ρ → St → Option β} : bnd (none : Option (ρ × St)) k = none := rfl
/-- an empty store -/
def st0 : St := (fun _ => 0, fun _ => 0, fun _ _ => 0, fun _ _ => 0)
/-- where the cells of a world lie doesn't hang on its store -/
def wlAd (wl : Dt → St → va_W) : Prop := ∀ (d : Dt) (S S' : St) (k q : Nat) (e : va_E), (wl d S)[k]? = some (q, e) → ∃ e' : va_E, (wl d S')[k]? = some (q, e')
def aA (wl : Dt → St → va_W) (d : Dt) (sz : Nat) : Nat → Prop := va_A (wl d st0) sz
theorem aA_D {wl : Dt → St → va_W} (hw : wlAd wl) {d : Dt} {S : St} {sz : Nat} {A : Nat → Prop} (h : va_D A (wl d S)) : va_D (aA wl d sz) (wl d S) := ⟨h.1, fun k q hk => by
  obtain ⟨e', he⟩ := hw d S st0 k q.1 q.2 hk
  exact Or.inl ⟨k, e', he⟩⟩
/-- the contract of one call: with these arguments and this store it answers r and leaves S1 -/
def Mt (l : Launch) (D : va_G) (d : Dt) (wl : Dt → St → va_W) (y : MethodName) (cy : ByteArray) (nLy : Nat) (rty : Option FieldType) (h1 : Nat) (vs : List Value) (S : St) (r : Option Value) (S1 : St) : Prop :=
  ∀ sz : Nat, Met l y (Cond.code y cy nLy rty :: TsG) (rmD h1) (va_Pc vs (fun U => U.heap.size = sz ∧ va_P D vwCl (wl d S) U.heap ∧ va_K D vwCl (dtT d) U ∧ va_D (fun _ => True) (wl d S) ∧ NwU U)) (QcU wl D d (aA wl d sz) r S1) 0 0 (aA wl d sz)
/-- a method's locals at its entry -/
def ent : List Value → Nat → List (Option Value)
  | [], n => List.replicate n none
  | v :: vs, n => if v.category = 2 then some v :: none :: ent vs (n - 2) else some v :: ent vs (n - 1)
theorem ent_args : ∀ (vs : List Value) (n i j : Nat) (v : Value), (ent vs n)[j]? = some (some v) → (i + j, v) ∈ lv_args i vs
  | [], n, i, j, v, h => by
    simp only [ent, List.getElem?_replicate] at h
    split at h <;> cases h
  | w :: vs, n, i, j, v, h => by
    unfold ent at h
    unfold lv_args
    by_cases c : w.category = 2
    · rw [if_pos c] at h
      rw [if_pos c]
      match j, h with
      | 0, h => cases h; exact List.mem_cons_self
      | 1, h => cases h
      | j + 2, h =>
        have := ent_args vs (n - 2) (i + 2) j v h
        exact List.mem_cons_of_mem _ (by rw [show i + (j + 2) = i + 2 + j by omega]; exact this)
    · rw [if_neg c] at h
      rw [if_neg c]
      match j, h with
      | 0, h => cases h; exact List.mem_cons_self
      | j + 1, h =>
        have := ent_args vs (n - 1) (i + 1) j v h
        exact List.mem_cons_of_mem _ (by rw [show i + (j + 1) = i + 1 + j by omega]; exact this)
theorem Mt_of {ρ : Type} {inj : ρ → Option Value} {e : Option (ρ × St)} {l : Launch} {D : va_G} {d : Dt} {wl : Dt → St → va_W} {y : MethodName} {cc : ByteArray} {nL h : Nat} {rt : Option FieldType} {vs : List Value} {S : St} (hw : wlAd wl) (hy : plainName y.cls = true) (hn : (lg_sl vs).length ≤ nL)
    (hk : ∀ X : Cx, xL X = l → xd X = d → KJ X (cc, y.cls, nL, h, rt) wl inj 0 (ent vs nL) [] S e) : ∀ (r : ρ) (S' : St), e = some (r, S') → Mt l D d wl y cc nL rt h vs S (inj r) S' := by
  intro r S' he sz
  refine Met.ofW (cc := cc) (maxL := nL) (ret := rt) hy rfl ?_
  intro p ev s m args below meth c s₁ B hml hv
  obtain ⟨rfl, hsz, hP, hK, hD0, hN⟩ := hv
  have hts := atoms_spec (ws := Cond.code y cc nL rt :: TsG) B.pre
  have hown : s.vm.findClass y.cls = some m.cls := findClass_of_methodNamed B.named
  subst hsz
  have hA : ∀ q : Nat, s.heap.size ≤ q → aA wl d s.heap.size q := fun q h => Or.inr h
  have hl := lv_entry vs (n := nL) hn
  rw [lg_entry_eq]
  generalize (lg_sl vs ++ List.replicate (nL - (lg_sl vs).length) Slot.unset).toArray = ls at hl ⊢
  refine hk (p, l, ev, s, m, vs.toArray, below, meth, c, aA wl d s.heap.size, D, d) rfl rfl r S' he ⟨B.exec, B.bytes, hml, hown, fun w hw => hts w (List.mem_cons_of_mem _ hw), B.notSynchronized, hK, hA, B.returns, hN⟩ ls ⟨hl.1, hl.2.1, fun i v hi => ?_⟩ s.heap [] hP (aA_D hw hD0) va_S.rf
  have := ent_args vs nL 0 i v hi
  rw [Nat.zero_add] at this
  exact hl.2.2 (i, v) this
/-- the words of a call: by its place in the pool of class own -/
def LkB (own : String) (idx : Nat) (y : MethodName) (cy : ByteArray) (nLy : Nat) (rty : Option FieldType) (np : Nat) : Prop :=
  Cond.code y cy nLy rty ∈ TsG ∧ Cond.initialized y.cls ∈ TsG ∧ (y.cls ≠ "java/lang/invoke/MethodHandle" ∧ y.cls ≠ "java/lang/invoke/VarHandle" ∧ (parseMethodDescriptor y.desc).map (fun d => d.parameters.length) = some np) ∧ nLy ≤ 40 ∧ (Cond.methodLink own idx y ∈ TsG ∨ ∃ host, Cond.methodLinkNest own idx y host ∈ NsG)
def LkV (own : String) (idx : Nat) (y : MethodName) (cy : ByteArray) (nLy : Nat) (rty : Option FieldType) (np : Nat) : Prop := LkB own idx y cy nLy rty np ∧ Cond.instanceMethod y ∈ TsG ∧ Cond.selects y.cls y y ∈ TsG
def LkS (own : String) (idx : Nat) (y : MethodName) (cy : ByteArray) (nLy : Nat) (rty : Option FieldType) (np : Nat) : Prop := LkB own idx y cy nLy rty np ∧ Cond.static y ∈ TsG
/-- cell q of the world is an object of class C -/
def OB (wl : Dt → St → va_W) (q : Nat) (C : String) : Prop := ∃ (ci : Nat) (r : vw_C), vwCl[ci]? = some r ∧ r.1 = C ∧ ∀ (d : Dt) (S : St), ∃ fs : List Value, (wl d S)[q]? = some (d.1 q, .inr (ci, fs))
section KC
variable {ρ ρ1 : Type} {X : Cx} {cc cy : ByteArray} {own : String} {nL h h1 : Nat} {rt rty : Option FieldType} {wl : Dt → St → va_W} {inj : ρ → Option Value} {inj1 : ρ1 → Option Value} {pc idx nLy np : Nat} {loc : List (Option Value)} {st : List Value} {S : St} {f : Option (ρ1 × St)} {kf : ρ1 → St → Option (ρ × St)} {y : MethodName} {As : List Value}
theorem k_blind {D : va_G} {d : Dt} {vs : List Value} {sz : Nat} : FrameBlind (va_Pc vs (fun U => U.heap.size = sz ∧ va_P D vwCl (wl d S) U.heap ∧ va_K D vwCl (dtT d) U ∧ va_D (fun _ => True) (wl d S) ∧ NwU U)) := fun a U g mk q => by
  obtain ⟨q0, q1, qP, qK, qD, qN⟩ := q
  exact ⟨q0, q1, qP, va_K.moved (u := U) (U := U.calling g mk a) (Vm.Alike.refl U.vm) qK, qD, NwU.same (s := U) (U := U.calling g mk a) rfl qN⟩
/-- behind a call -/
theorem k_after {g : JFrame} {H : Heap} {locs : List Loc} {r : ρ} {S' : St} {r1 : ρ1} {S1 : St} {ls : Array Slot} {vs : Array Value} (hw : wlAd wl) (hl : lvO ls nL loc) (hC : CxOk X (cc, own, nL, h, rt)) (hD : va_D (xA X) (wl (xd X) S)) (hS : va_S (xA X) (xS X).heap H locs) (hg : g = F0 (xM X) pc ls g.stack)
    (hr : va_Run (xP X) (xL X) (xE X) (rmD h) (xS X) (xM X) (xArgs X) (xBelow X) (xMeth X) (xC X) H locs 0 0 0 0 g st (QcU wl (xD X) (xd X) (aA wl (xd X) H.size) (inj1 r1) S1 vs) (aA wl (xd X) H.size))
    (he : kf r1 S1 = some (r, S')) (kk : KJ X (cc, own, nL, h, rt) wl inj (pc + 3) loc ((inj1 r1).toList ++ st) S1 (kf r1 S1)) :
    W (xP X) (xL X) (xE X) (rmD h) (xS X) (xM X) (xArgs X) (xBelow X) (xMeth X) (xC X) H locs 0 0 (MQ (xBelow X) (QcU wl (xD X) (xd X) (xA X) (inj r) S') (xArgs X) (xS X) 0 0 (xA X)) g := by
  intro T hT XX
  obtain ⟨v, st₀, t, T', L, h0, X', hL, e1, e2, ⟨⟨hv, hP1, hK1, hD1⟩, hz, hk⟩, hst⟩ := hr T hT XX
  have hfree : ∀ q, aA wl (xd X) H.size q → xA X q := by
    intro q hq
    rcases hq with ⟨k, e, hq⟩ | hq
    · obtain ⟨e', he'⟩ := hw (xd X) st0 S k q e hq
      exact hD.2 k (q, e') he'
    · exact hC.2.2.2.2.2.2.2.1 q (Nat.le_trans hS.1 hq)
  rw [h0] at hz hk
  cases hv
  have hD2 : va_D (xA X) (wl (xd X) S1) := ⟨hD1.1, fun k q hq => hfree _ (hD1.2 k q hq)⟩
  have hS2 : va_S (xA X) (xS X).heap T'.heap (locs ++ L) := ⟨Nat.le_trans hS.1 (by rw [e1]; exact hz), fun q h1 h2 => by rw [e1, hk q (Nat.lt_of_lt_of_le h1 hS.1) (fun z => h2 (hfree q z))]; exact hS.2.1 q h1 h2, fun q hq => by
      rcases List.mem_append.mp hq with h | h
      · exact hS.2.2 q h
      · exact hfree _ (hL q h)⟩
  obtain ⟨t2, a1, b1⟩ := kk r S' he hC ls hl T'.heap (locs ++ L) (by rw [e1]; exact hP1) hD2 hS2 T' rfl X'
  refine ⟨t2, hst t2 ?_, b1⟩
  rw [hg]
  exact a1
theorem k_words {X : Cx} (hC : CxOk X (cc, own, nL, h, rt)) (lk : LkB own idx y cy nLy rty np) (hh : h1 + 1 ≤ h) : (rmD h1).cells = 0 ∧ (rmD h1).slots = 0 ∧ (rmD h1).frames + 1 ≤ (rmD h).frames ∧ 8 + (nLy + 11) + (rmD h1).locals ≤ (rmD h).locals := by
  refine ⟨rfl, rfl, hh, ?_⟩
  show 8 + (nLy + 11) + 64 * h1 ≤ 64 * h
  have := lk.2.2.2.1
  omega
theorem k_callV {q : Nat} (hw : wlAd wl) (lk : LkV own idx y cy nLy rty np) (hob : OB wl q y.cls) (hm : ∀ (r1 : ρ1) (S1 : St), f = some (r1, S1) → Mt (xL X) (xD X) (xd X) wl y cy nLy rty h1 (.ref (xa X q) :: As) S (inj1 r1) S1) (hh : h1 + 1 ≤ h) (hn : As.length = np) (hs : (st.map fun v => v.category).sum ≤ 8) (hd : decode cc pc = .ok (.invokevirtual idx, 3)) {stk : List Value} (hstk : stk = As.reverse ++ .ref (xa X q) :: st) (kk : ∀ (r1 : ρ1) (S1 : St), KJ X (cc, own, nL, h, rt) wl inj (pc + 3) loc ((inj1 r1).toList ++ st) S1 (kf r1 S1)) : KJ X (cc, own, nL, h, rt) wl inj pc loc stk S (bnd f kf) := by
  intro r S' he hC ls hl H locs hP hD hS
  obtain ⟨r1, S1, hf, hk⟩ := bnd_some he
  have hM := hm r1 S1 hf H.size
  have hts := hC.2.2.2.2.1
  obtain ⟨k1, k2, k3, k4⟩ := k_words hC lk.1 hh
  obtain ⟨ci, rr, hci, hrr, hobs⟩ := hob
  obtain ⟨fs, hfs⟩ := hobs (xd X) S
  have hrec := va_recv hC.2.2.2.2.2.2.1 hP hci hfs
  rw [hrr] at hrec
  subst hstk
  have hpre : PreV (xS X) H y.cls (xa X q) (va_Pc (.ref (xa X q) :: As) (fun U => U.heap.size = H.size ∧ va_P (xD X) vwCl (wl (xd X) S) U.heap ∧ va_K (xD X) vwCl (dtT (xd X)) U ∧ va_D (fun _ => True) (wl (xd X) S) ∧ NwU U)) As := ⟨k_blind, hrec, fun U hU hW => ⟨rfl, by rw [hU], by rw [hU]; exact hP, va_K.moved hW.alike hC.2.2.2.2.2.2.1, ⟨hD.1, fun _ _ _ => trivial⟩, hC.2.2.2.2.2.2.2.2.2.warm hW⟩⟩
  rcases lk.1.2.2.2.2 with hl1 | ⟨host, hl1⟩
  · refine k_after (vs := (Value.ref (xa X q) :: As).toArray) hw hl hC hD hS rfl (va_runV (As := As) (rest := st) (g := F0 (xM X) pc ls (As.reverse ++ .ref (xa X q) :: st)) ⟨hC.1, hC.2.1, hC.2.2.1, hC.2.2.2.1, hts⟩ hM ⟨callB_of np hts (TsG_good lk.1.1) rfl k1 k2 (hts _ lk.1.2.1) (hts _ hl1) lk.1.2.2.1 ⟨k3, k4⟩, hts _ lk.2.1, hts _ lk.2.2⟩ hpre rfl hn hl.1 rfl (lv_room hs) hd ⟨Nat.le_refl _, Nat.le_refl _⟩) hk (kk r1 S1)
  · refine k_after (vs := (Value.ref (xa X q) :: As).toArray) hw hl hC hD hS rfl (va_runVN (As := As) (rest := st) (g := F0 (xM X) pc ls (As.reverse ++ .ref (xa X q) :: st)) ⟨hC.1, hC.2.1, hC.2.2.1, hC.2.2.2.1, hts⟩ hM ⟨va_cnB np hts (TsG_good lk.1.1) rfl k1 k2 (hC.2.2.2.2.2.2.2.2.2 _ hl1) (hts _ lk.1.2.1) lk.1.2.2.1 ⟨k3, k4⟩, hts _ lk.2.1, hts _ lk.2.2⟩ hpre rfl hn hl.1 rfl (lv_room hs) hd ⟨Nat.le_refl _, Nat.le_refl _⟩) hk (kk r1 S1)
theorem k_callS (hw : wlAd wl) (lk : LkS own idx y cy nLy rty np) (hm : ∀ (r1 : ρ1) (S1 : St), f = some (r1, S1) → Mt (xL X) (xD X) (xd X) wl y cy nLy rty h1 As S (inj1 r1) S1) (hh : h1 + 1 ≤ h) (hn : As.length = np) (hs : (st.map fun v => v.category).sum ≤ 8) (hd : decode cc pc = .ok (.invokestatic idx, 3)) {stk : List Value} (hstk : stk = As.reverse ++ st) (kk : ∀ (r1 : ρ1) (S1 : St), KJ X (cc, own, nL, h, rt) wl inj (pc + 3) loc ((inj1 r1).toList ++ st) S1 (kf r1 S1)) : KJ X (cc, own, nL, h, rt) wl inj pc loc stk S (bnd f kf) := by
  intro r S' he hC ls hl H locs hP hD hS
  obtain ⟨r1, S1, hf, hk⟩ := bnd_some he
  have hM := hm r1 S1 hf H.size
  have hts := hC.2.2.2.2.1
  obtain ⟨k1, k2, k3, k4⟩ := k_words hC lk.1 hh
  subst hstk
  have hpre : PreS (xS X) H (va_Pc As (fun U => U.heap.size = H.size ∧ va_P (xD X) vwCl (wl (xd X) S) U.heap ∧ va_K (xD X) vwCl (dtT (xd X)) U ∧ va_D (fun _ => True) (wl (xd X) S) ∧ NwU U)) As := ⟨k_blind, fun U hU hW => ⟨rfl, by rw [hU], by rw [hU]; exact hP, va_K.moved hW.alike hC.2.2.2.2.2.2.1, ⟨hD.1, fun _ _ _ => trivial⟩, hC.2.2.2.2.2.2.2.2.2.warm hW⟩⟩
  rcases lk.1.2.2.2.2 with hl1 | ⟨host, hl1⟩
  · refine k_after (vs := As.toArray) hw hl hC hD hS rfl (va_runS (As := As) (rest := st) (g := F0 (xM X) pc ls (As.reverse ++ st)) ⟨hC.1, hC.2.1, hC.2.2.1, hC.2.2.2.1, hts⟩ hM ⟨callB_of np hts (TsG_good lk.1.1) rfl k1 k2 (hts _ lk.1.2.1) (hts _ hl1) lk.1.2.2.1 ⟨k3, k4⟩, hts _ lk.2⟩ hpre rfl hn hl.1 rfl (lv_room hs) hd ⟨Nat.le_refl _, Nat.le_refl _⟩) hk (kk r1 S1)
  · refine k_after (vs := As.toArray) hw hl hC hD hS rfl (va_runSN (As := As) (rest := st) (g := F0 (xM X) pc ls (As.reverse ++ st)) ⟨hC.1, hC.2.1, hC.2.2.1, hC.2.2.2.1, hts⟩ hM ⟨va_cnB np hts (TsG_good lk.1.1) rfl k1 k2 (hC.2.2.2.2.2.2.2.2.2 _ hl1) (hts _ lk.1.2.1) lk.1.2.2.1 ⟨k3, k4⟩, hts _ lk.2, trivial⟩ hpre rfl hn hl.1 rfl (lv_room hs) hd ⟨Nat.le_refl _, Nat.le_refl _⟩) hk (kk r1 S1)
end KC
