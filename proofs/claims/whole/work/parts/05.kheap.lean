/-! ===== rows, fields, calls, ends ===== -/
theorem inB_lt {i : Int32} {n : Nat} (h : inB i n = true) : i.toNatClampNeg < n := by
  simp only [inB, Bool.and_eq_true, decide_eq_true_eq] at h
  exact h.2
/-- cell c of the world is an int row of length n, number c of the store -/
def AI (wl : Dt → St → va_W) (c n : Nat) : Prop := ∀ (d : Dt) (S : St), (wl d S)[c]? = some (d.1 c, .inl (d.2.1, n, .inl (gA S c))) ∧ ∀ f : Nat → Int32, (wl d S).set c (d.1 c, .inl (d.2.1, n, .inl f)) = wl d (sA S c f)
def AL (wl : Dt → St → va_W) (c n : Nat) : Prop := ∀ (d : Dt) (S : St), (wl d S)[c]? = some (d.1 c, .inl (d.2.2.1, n, .inr (.inl (gB S c)))) ∧ ∀ f : Nat → Int64, (wl d S).set c (d.1 c, .inl (d.2.2.1, n, .inr (.inl f))) = wl d (sB S c f)
def AZ (wl : Dt → St → va_W) (c n : Nat) : Prop := ∀ (d : Dt) (S : St), (wl d S)[c]? = some (d.1 c, .inl (d.2.2.2.1, n, .inl (gA S c))) ∧ ∀ f : Nat → Int32, (wl d S).set c (d.1 c, .inl (d.2.2.2.1, n, .inl f)) = wl d (sA S c f)
/-- cell c is a row of n rows, the cells b, b + 1, .. -/
def AR (wl : Dt → St → va_W) (c n b : Nat) : Prop := ∃ (t0 : Nat) (ty : FieldType) (cR : Dt → ClassId), (∀ d : Dt, (dtT d)[t0]? = some (cR d, .array ty)) ∧ ∀ (d : Dt) (S : St), (wl d S)[c]? = some (d.1 c, .inl (cR d, n, .inr (.inr (.inr (.inr (fun i => some (d.1 (b + i))))))))
/-- getfield idx in class own at cell q gives v -/
def GF (wl : Dt → St → va_W) (own : String) (idx q : Nat) (v : Dt → St → Value) : Prop := ∃ (ci sl : Nat) (C : String) (T : u_T) (N : Nat), vwCl[ci]? = some (C, T, N) ∧ (∀ w ∈ u_ws C T N, w ∈ TsG) ∧ sl < N ∧ (Cond.fieldLink own idx C (T sl).2.1 (T sl).2.2.1 ∈ TsG ∨ ∃ host, Cond.fieldLinkNest own idx C (T sl).2.1 (T sl).2.2.1 host ∈ NsG) ∧ (T sl).1 = C ∧ ∀ (d : Dt) (S : St), ∃ fs : List Value, (wl d S)[q]? = some (d.1 q, .inr (ci, fs)) ∧ fs[sl]? = some (v d S)
/-- putfield idx in class own at cell q, of a value that fits -/
def PF (wl : Dt → St → va_W) (own : String) (idx q : Nat) (v : Value) (g : St → St) : Prop := ∃ (ci sl : Nat) (C : String) (T : u_T) (N : Nat) (ty0 : Nat → FieldType), vwCl[ci]? = some (C, T, N) ∧ (∀ w ∈ u_ws C T N, w ∈ TsG) ∧ sl < N ∧ Cond.fieldLink own idx C (T sl).2.1 (T sl).2.2.1 ∈ TsG ∧ (T sl).1 = C ∧ (∀ k, k < N → parseFieldDescriptor (T k).2.2.1 = some (ty0 k)) ∧ (∀ a, a < N → ∀ b, b < N → a ≠ b → (T a).2.1 ≠ (T b).2.1) ∧ (T sl).2.2.2 = false ∧ narrow (ty0 sl) v = v ∧ fits (ty0 sl) v = true ∧ ∀ (d : Dt) (S : St), ∃ fs : List Value, (wl d S)[q]? = some (d.1 q, .inr (ci, fs)) ∧ sl < fs.length ∧ (wl d S).set q (d.1 q, .inr (ci, fs.set sl v)) = wl d (g S)
section KH
variable {ρ : Type} {X : Cx} {cc : ByteArray} {own : String} {nL h : Nat} {rt : Option FieldType} {wl : Dt → St → va_W} {inj : ρ → Option Value} {pc tgt : Nat} {loc : List (Option Value)} {st : List Value} {S : St} {e e1 e2 : Option (ρ × St)} {off : Int} {c n : Nat}
theorem k_iald {i : Int32} (ha : AI wl c n) (hd : decode cc pc = .ok (.iaload, 1)) (k : KJ X (cc, own, nL, h, rt) wl inj (pc + 1) loc (.int (gA S c i.toNatClampNeg) :: st) S e) : KJ X (cc, own, nL, h, rt) wl inj pc loc (.int i :: .ref (xa X c) :: st) S (chk (inB i n) e) :=
  fun r S' he hC ls hl H locs hP hD hS => va_iald hC.1 hC.2.1 hC.2.2.2.2.2.2.1 hP c 0 (ha (xd X) S).1 rfl (inB_in (chk_some he).1) hd (k r S' (chk_some he).2 hC ls hl H locs hP hD hS)
theorem k_zald {i : Int32} (ha : AZ wl c n) (hd : decode cc pc = .ok (.baload, 1)) (k : KJ X (cc, own, nL, h, rt) wl inj (pc + 1) loc (.int (gA S c i.toNatClampNeg) :: st) S e) : KJ X (cc, own, nL, h, rt) wl inj pc loc (.int i :: .ref (xa X c) :: st) S (chk (inB i n) e) :=
  fun r S' he hC ls hl H locs hP hD hS => va_zald hC.1 hC.2.1 hC.2.2.2.2.2.2.1 hP c 2 (ha (xd X) S).1 rfl (inB_in (chk_some he).1) hd (k r S' (chk_some he).2 hC ls hl H locs hP hD hS)
theorem k_lald {i : Int32} (ha : AL wl c n) (hd : decode cc pc = .ok (.laload, 1)) (k : KJ X (cc, own, nL, h, rt) wl inj (pc + 1) loc (.long (gB S c i.toNatClampNeg) :: st) S e) : KJ X (cc, own, nL, h, rt) wl inj pc loc (.int i :: .ref (xa X c) :: st) S (chk (inB i n) e) :=
  fun r S' he hC ls hl H locs hP hD hS => va_lald hC.1 hC.2.1 hC.2.2.2.2.2.2.1 hP c 1 (ha (xd X) S).1 rfl (inB_in (chk_some he).1) hd (k r S' (chk_some he).2 hC ls hl H locs hP hD hS)
theorem k_iast {i x : Int32} (ha : AI wl c n) (hd : decode cc pc = .ok (.iastore, 1)) (k : KJ X (cc, own, nL, h, rt) wl inj (pc + 1) loc st (sA S c (upd (gA S c) i.toNatClampNeg x)) e) : KJ X (cc, own, nL, h, rt) wl inj pc loc (.int x :: .int i :: .ref (xa X c) :: st) S (chk (inB i n) e) :=
  fun r S' he hC ls hl H locs hP hD hS => va_iast hC.1 hC.2.1 hC.2.2.2.2.2.2.1 hP hD hS c 0 (ha (xd X) S).1 rfl (inB_in (chk_some he).1) hd (fun H1 locs1 hP1 hD1 hS1 => k r S' (chk_some he).2 hC ls hl H1 locs1 (by rw [← (ha (xd X) S).2]; exact hP1) (by rw [← (ha (xd X) S).2]; exact hD1) hS1)
theorem k_zast {i x : Int32} (ha : AZ wl c n) (hd : decode cc pc = .ok (.bastore, 1)) (k : KJ X (cc, own, nL, h, rt) wl inj (pc + 1) loc st (sA S c (upd (gA S c) i.toNatClampNeg (vp_nar .boolean x))) e) : KJ X (cc, own, nL, h, rt) wl inj pc loc (.int x :: .int i :: .ref (xa X c) :: st) S (chk (inB i n) e) :=
  fun r S' he hC ls hl H locs hP hD hS => va_zast hC.1 hC.2.1 hC.2.2.2.2.2.2.1 hP hD hS c 2 (ha (xd X) S).1 rfl (inB_in (chk_some he).1) hd (fun H1 locs1 hP1 hD1 hS1 => k r S' (chk_some he).2 hC ls hl H1 locs1 (by rw [← (ha (xd X) S).2]; exact hP1) (by rw [← (ha (xd X) S).2]; exact hD1) hS1)
theorem k_last {i : Int32} {x : Int64} (ha : AL wl c n) (hd : decode cc pc = .ok (.lastore, 1)) (k : KJ X (cc, own, nL, h, rt) wl inj (pc + 1) loc st (sB S c (vp_updL (gB S c) i.toNatClampNeg x)) e) : KJ X (cc, own, nL, h, rt) wl inj pc loc (.long x :: .int i :: .ref (xa X c) :: st) S (chk (inB i n) e) :=
  fun r S' he hC ls hl H locs hP hD hS => va_last hC.1 hC.2.1 hC.2.2.2.2.2.2.1 hP hD hS c 1 (ha (xd X) S).1 rfl (inB_in (chk_some he).1) hd (fun H1 locs1 hP1 hD1 hS1 => k r S' (chk_some he).2 hC ls hl H1 locs1 (by rw [← (ha (xd X) S).2]; exact hP1) (by rw [← (ha (xd X) S).2]; exact hD1) hS1)
theorem k_aald {i : Int32} {b : Nat} (ha : AR wl c n b) (hd : decode cc pc = .ok (.aaload, 1)) (k : inB i n = true → KJ X (cc, own, nL, h, rt) wl inj (pc + 1) loc (.ref (xa X (b + i.toNatClampNeg)) :: st) S e) : KJ X (cc, own, nL, h, rt) wl inj pc loc (.int i :: .ref (xa X c) :: st) S (chk (inB i n) e) := by
  intro r S' he hC ls hl H locs hP hD hS
  obtain ⟨t0, ty, cR, ht, hw⟩ := ha
  have hin := inB_in (chk_some he).1
  have hlt := inB_lt (chk_some he).1
  exact W.aald (v := .ref (xa X (b + i.toNatClampNeg))) (ty := .array ty) hC.1 hC.2.1 (hP c _ (hw (xd X) S)) ((hC.2.2.2.2.2.2.1.2 t0 _ (ht (xd X))).1 n (fun j => va_rf (some ((xd X).1 (b + j))))) rfl (fun q => by cases q) (by show ¬ (i < 0 ∨ (arrV _ _ _).slots.size ≤ _); rw [arrV_size]; exact hin) (by show (arrV _ _ _).slots[_]? = _; rw [arrV_read _ _ hlt]; rfl) rfl rfl hd (k (chk_some he).1 r S' (chk_some he).2 hC ls hl H locs hP hD hS)
theorem k_get {idx q : Nat} {v : Dt → St → Value} (hf : GF wl own idx q v) (hd : decode cc pc = .ok (.getfield idx, 3)) (k : KJ X (cc, own, nL, h, rt) wl inj (pc + 3) loc (v (xd X) S :: st) S e) : KJ X (cc, own, nL, h, rt) wl inj pc loc (.ref (xa X q) :: st) S e := by
  intro r S' he hC ls hl H locs hP hD hS
  obtain ⟨ci, sl, C, T, N, h1, h2, h3, h4, h5, h6⟩ := hf
  obtain ⟨fs, h7, h8⟩ := h6 (xd X) S
  rcases h4 with h4 | ⟨host, h4⟩
  · exact va_get hC.1 hC.2.1 hC.2.2.2.2.1 h2 hC.2.2.2.1 hC.2.2.2.2.2.2.1 hP q h7 h1 sl h3 (hC.2.2.2.2.1 _ h4) (fun x hx => by rw [h5] at hx; exact hx) h8 hd (k r S' he hC ls hl H locs hP hD hS)
  · exact va_getN hC.1 hC.2.1 hC.2.2.2.2.1 h2 hC.2.2.2.1 hC.2.2.2.2.2.2.1 hP q h7 h1 sl h3 (va_Nw.use rfl (hC.2.2.2.2.2.2.2.2.2 _ h4)) (fun x hx => by rw [h5] at hx; exact hx) h8 hd (k r S' he hC ls hl H locs hP hD hS)
theorem k_put {idx q : Nat} {v : Value} {g : St → St} (hf : PF wl own idx q v g) (hd : decode cc pc = .ok (.putfield idx, 3)) (k : KJ X (cc, own, nL, h, rt) wl inj (pc + 3) loc st (g S) e) : KJ X (cc, own, nL, h, rt) wl inj pc loc (v :: .ref (xa X q) :: st) S e := by
  intro r S' he hC ls hl H locs hP hD hS
  obtain ⟨ci, sl, C, T, N, ty0, h1, h2, h3, h4, h5, g1, g2, g3, g4, g5, h6⟩ := hf
  obtain ⟨fs, h7, h8, h9⟩ := h6 (xd X) S
  exact va_put hC.1 hC.2.1 hC.2.2.2.2.1 h2 ty0 g1 g2 hC.2.2.2.1 hC.2.2.2.2.2.2.1 hP hD hS q h7 h1 sl h3 (hC.2.2.2.2.1 _ h4) (fun x hx => by rw [h5] at hx; exact hx) g3 (g1 sl h3) g4 g5 h8 hd (fun H1 locs1 hP1 hD1 hS1 => k r S' he hC ls hl H1 locs1 (by rw [← h9]; exact hP1) (by rw [← h9]; exact hD1) hS1)
theorem k_getI {idx q id : Nat} (hf : GF wl own idx q (fun _ S => .int (gI S id))) (hd : decode cc pc = .ok (.getfield idx, 3)) (k : KJ X (cc, own, nL, h, rt) wl inj (pc + 3) loc (.int (gI S id) :: st) S e) : KJ X (cc, own, nL, h, rt) wl inj pc loc (.ref (xa X q) :: st) S e := k_get hf hd k
theorem k_getL {idx q id : Nat} (hf : GF wl own idx q (fun _ S => .long (gL S id))) (hd : decode cc pc = .ok (.getfield idx, 3)) (k : KJ X (cc, own, nL, h, rt) wl inj (pc + 3) loc (.long (gL S id) :: st) S e) : KJ X (cc, own, nL, h, rt) wl inj pc loc (.ref (xa X q) :: st) S e := k_get hf hd k
theorem k_getR {idx q id : Nat} (hf : GF wl own idx q (fun d _ => .ref (d.1 id))) (hd : decode cc pc = .ok (.getfield idx, 3)) (k : KJ X (cc, own, nL, h, rt) wl inj (pc + 3) loc (.ref (xa X id) :: st) S e) : KJ X (cc, own, nL, h, rt) wl inj pc loc (.ref (xa X q) :: st) S e := k_get hf hd k
theorem k_putI {idx q id : Nat} {x : Int32} (hf : ∀ x : Int32, PF wl own idx q (.int x) (fun S => sI S id x)) (hd : decode cc pc = .ok (.putfield idx, 3)) (k : KJ X (cc, own, nL, h, rt) wl inj (pc + 3) loc st (sI S id x) e) : KJ X (cc, own, nL, h, rt) wl inj pc loc (.int x :: .ref (xa X q) :: st) S e := k_put (hf x) hd k
theorem k_putL {idx q id : Nat} {x : Int64} (hf : ∀ x : Int64, PF wl own idx q (.long x) (fun S => sL S id x)) (hd : decode cc pc = .ok (.putfield idx, 3)) (k : KJ X (cc, own, nL, h, rt) wl inj (pc + 3) loc st (sL S id x) e) : KJ X (cc, own, nL, h, rt) wl inj pc loc (.long x :: .ref (xa X q) :: st) S e := k_put (hf x) hd k
theorem k_putZ {idx q id : Nat} {x : Int32} (hf : ∀ x : Int32, (x = 0 ∨ x = 1) → PF wl own idx q (.int x) (fun S => sI S id x)) (hx : x = 0 ∨ x = 1) (hd : decode cc pc = .ok (.putfield idx, 3)) (k : KJ X (cc, own, nL, h, rt) wl inj (pc + 3) loc st (sI S id x) e) : KJ X (cc, own, nL, h, rt) wl inj pc loc (.int x :: .ref (xa X q) :: st) S e := k_put (hf x hx) hd k
theorem k_iret {v : Int32} (hd : decode cc pc = .ok (.ireturn, 1)) : KJ X (cc, own, nL, h, some .int) wl jI pc loc [.int v] S (some (v, S)) := by
  intro r S' he hC ls hl H locs hP hD hS
  cases he
  have hlocks := hC.2.2.2.2.2.1
  exact W.iret hC.1 hC.2.1 hC.2.2.2.2.2.2.2.2.1 (fun t ht hW => ⟨⟨rfl, by rw [ht]; exact hP, va_K.moved hW.alike hC.2.2.2.2.2.2.1, hD⟩, hS.F ht⟩) hS.2.2 hd
theorem k_zret {v : Int32} (hv : v = 0 ∨ v = 1) (hd : decode cc pc = .ok (.ireturn, 1)) : KJ X (cc, own, nL, h, some .boolean) wl jI pc loc [.int v] S (some (v, S)) := by
  intro r S' he hC ls hl H locs hP hD hS
  cases he
  have hlocks := hC.2.2.2.2.2.1
  exact W.zret hC.1 hC.2.1 hC.2.2.2.2.2.2.2.2.1 (by rcases hv with rfl | rfl <;> rfl) (fun t ht hW => ⟨⟨rfl, by rw [ht]; exact hP, va_K.moved hW.alike hC.2.2.2.2.2.2.1, hD⟩, hS.F ht⟩) hS.2.2 hd
/-- a truth value that isn't written out -/
def isB (v : Int32) : Bool := decide (v = 0) || decide (v = 1)
theorem k_zretB {v : Int32} (hd : decode cc pc = .ok (.ireturn, 1)) : KJ X (cc, own, nL, h, some .boolean) wl jI pc loc [.int v] S (chk (isB v) (some (v, S))) := by
  intro r S' he hC ls hl H locs hP hD hS
  have hv : v = 0 ∨ v = 1 := by simpa [isB] using (chk_some he).1
  exact k_zret hv hd r S' (chk_some he).2 hC ls hl H locs hP hD hS
theorem k_lret {v : Int64} (hd : decode cc pc = .ok (.lreturn, 1)) : KJ X (cc, own, nL, h, some .long) wl jL pc loc [.long v] S (some (v, S)) := by
  intro r S' he hC ls hl H locs hP hD hS
  cases he
  have hlocks := hC.2.2.2.2.2.1
  exact W.lret hC.1 hC.2.1 hC.2.2.2.2.2.2.2.2.1 (fun t ht hW => ⟨⟨rfl, by rw [ht]; exact hP, va_K.moved hW.alike hC.2.2.2.2.2.2.1, hD⟩, hS.F ht⟩) hS.2.2 hd
theorem k_vret (hd : decode cc pc = .ok (.return_, 1)) : KJ X (cc, own, nL, h, none) wl jV pc loc [] S (some ((), S)) := by
  intro r S' he hC ls hl H locs hP hD hS
  cases he
  have hlocks := hC.2.2.2.2.2.1
  exact W.vret hC.1 hC.2.1 hC.2.2.2.2.2.2.2.2.1 (fun t ht hW => ⟨⟨rfl, by rw [ht]; exact hP, va_K.moved hW.alike hC.2.2.2.2.2.2.1, hD⟩, hS.F ht⟩) hS.2.2 hd
theorem k_mmin {x y : Int32} {idx : Nat} (w1 : Cond.methodLink own idx Lib.Math.min.name ∈ TsG) (w2 : Cond.static Lib.Math.min.name ∈ TsG) (w3 : Cond.initialized "java/lang/Math" ∈ TsG) (w4 : Cond.code Lib.Math.min.name Lib.Math.min.code 2 (some .int) ∈ TsG) (hh : 1 ≤ h) (hs : (st.map fun v => v.category).sum ≤ 8) (hd : decode cc pc = .ok (.invokestatic idx, 3)) (k : KJ X (cc, own, nL, h, rt) wl inj (pc + 3) loc (.int (if y < x then y else x) :: st) S e) : KJ X (cc, own, nL, h, rt) wl inj pc loc (.int y :: .int x :: st) S e :=
  fun r S' he hC ls hl H locs hP hD hS => va_mmin hC.1 hC.2.1 (hC.2.2.1.trans hl.1.symm) hC.2.2.2.1 (hC.2.2.2.2.1 _ w1) (hC.2.2.2.2.1 _ w2) (hC.2.2.2.2.1 _ w3) (hC.2.2.2.2.1 _ w4) hh (by show _ ≤ 64 * h; omega) (Nat.zero_le _) (Nat.zero_le _) hd (k r S' he hC ls hl H locs hP hD hS)
theorem k_mmax {x y : Int32} {idx : Nat} (w1 : Cond.methodLink own idx Lib.Math.max.name ∈ TsG) (w2 : Cond.static Lib.Math.max.name ∈ TsG) (w3 : Cond.initialized "java/lang/Math" ∈ TsG) (w4 : Cond.code Lib.Math.max.name Lib.Math.max.code 2 (some .int) ∈ TsG) (hh : 1 ≤ h) (hs : (st.map fun v => v.category).sum ≤ 8) (hd : decode cc pc = .ok (.invokestatic idx, 3)) (k : KJ X (cc, own, nL, h, rt) wl inj (pc + 3) loc (.int (if x < y then y else x) :: st) S e) : KJ X (cc, own, nL, h, rt) wl inj pc loc (.int y :: .int x :: st) S e :=
  fun r S' he hC ls hl H locs hP hD hS => va_mmax hC.1 hC.2.1 (hC.2.2.1.trans hl.1.symm) hC.2.2.2.1 (hC.2.2.2.2.1 _ w1) (hC.2.2.2.2.1 _ w2) (hC.2.2.2.2.1 _ w3) (hC.2.2.2.2.1 _ w4) hh (by show _ ≤ 64 * h; omega) (Nat.zero_le _) (Nat.zero_le _) hd (k r S' he hC ls hl H locs hP hD hS)
theorem cpB_s {sp dp m : Int32} {n0 n1 : Nat} (hc : cpB sp dp m n0 n1 = true) : ¬ sp < 0 ∧ ¬ dp < 0 ∧ ¬ m < 0 ∧ sp.toNatClampNeg + m.toNatClampNeg ≤ n0 ∧ dp.toNatClampNeg + m.toNatClampNeg ≤ n1 := by
  simp only [cpB, Bool.and_eq_true, decide_eq_true_eq] at hc
  exact ⟨Int32.not_lt.mpr hc.1, Int32.not_lt.mpr hc.2.1, Int32.not_lt.mpr hc.2.2.1, hc.2.2.2.1, hc.2.2.2.2⟩
theorem k_copyi {sp dp m : Int32} {idx : Nat} (ha : AI wl c n) (w1 : Cond.methodLink own idx arraycopyName ∈ TsG) (w2 : Cond.native arraycopyName ∈ TsG) (w3 : Cond.static arraycopyName ∈ TsG) (w4 : Cond.initialized "java/lang/System" ∈ TsG) (hh : 1 ≤ h) (hs : (st.map fun v => v.category).sum ≤ 8) (hd : decode cc pc = .ok (.invokestatic idx, 3)) (k : KJ X (cc, own, nL, h, rt) wl inj (pc + 3) loc st (sA S c (va_cpy (gA S c) (gA S c) sp.toNatClampNeg dp.toNatClampNeg m.toNatClampNeg)) e) : KJ X (cc, own, nL, h, rt) wl inj pc loc (.int m :: .int dp :: .ref (xa X c) :: .int sp :: .ref (xa X c) :: st) S (chk (cpB sp dp m n n) e) := by
  intro r S' he hC ls hl H locs hP hD hS
  obtain ⟨c1, c2, c3, c4, c5⟩ := cpB_s (chk_some he).1
  have hroom : (st.map fun v => v.category).sum + (nativeFrameWords "java/lang/System" "arraycopy" 5 + 11) ≤ (rmD h).locals := by
    have h50 : nativeFrameWords "java/lang/System" "arraycopy" 5 + 11 ≤ 50 := by decide +kernel
    show _ ≤ 64 * h
    omega
  exact va_copyi hC.1 hC.2.1 (hC.2.2.1.trans hl.1.symm) hC.2.2.2.1 (hC.2.2.2.2.1 _ w1) (hC.2.2.2.2.1 _ w2) (hC.2.2.2.2.1 _ w3) (hC.2.2.2.2.1 _ w4) hC.2.2.2.2.2.2.1 hP hD hS c c 0 0 (ha (xd X) S).1 (ha (xd X) S).1 rfl rfl rfl c1 c2 c3 c4 c5 (fun _ _ => rfl) hh hroom hd (fun H1 locs1 hP1 hD1 hS1 => k r S' (chk_some he).2 hC ls hl H1 locs1 (by rw [← (ha (xd X) S).2]; exact hP1) (by rw [← (ha (xd X) S).2]; exact hD1) hS1)
theorem k_copyl {sp dp m : Int32} {idx : Nat} (ha : AL wl c n) (w1 : Cond.methodLink own idx arraycopyName ∈ TsG) (w2 : Cond.native arraycopyName ∈ TsG) (w3 : Cond.static arraycopyName ∈ TsG) (w4 : Cond.initialized "java/lang/System" ∈ TsG) (hh : 1 ≤ h) (hs : (st.map fun v => v.category).sum ≤ 8) (hd : decode cc pc = .ok (.invokestatic idx, 3)) (k : KJ X (cc, own, nL, h, rt) wl inj (pc + 3) loc st (sB S c (va_cpy (gB S c) (gB S c) sp.toNatClampNeg dp.toNatClampNeg m.toNatClampNeg)) e) : KJ X (cc, own, nL, h, rt) wl inj pc loc (.int m :: .int dp :: .ref (xa X c) :: .int sp :: .ref (xa X c) :: st) S (chk (cpB sp dp m n n) e) := by
  intro r S' he hC ls hl H locs hP hD hS
  obtain ⟨c1, c2, c3, c4, c5⟩ := cpB_s (chk_some he).1
  have hroom : (st.map fun v => v.category).sum + (nativeFrameWords "java/lang/System" "arraycopy" 5 + 11) ≤ (rmD h).locals := by
    have h50 : nativeFrameWords "java/lang/System" "arraycopy" 5 + 11 ≤ 50 := by decide +kernel
    show _ ≤ 64 * h
    omega
  exact va_copyl hC.1 hC.2.1 (hC.2.2.1.trans hl.1.symm) hC.2.2.2.1 (hC.2.2.2.2.1 _ w1) (hC.2.2.2.2.1 _ w2) (hC.2.2.2.2.1 _ w3) (hC.2.2.2.2.1 _ w4) hC.2.2.2.2.2.2.1 hP hD hS c c 1 1 (ha (xd X) S).1 (ha (xd X) S).1 rfl rfl rfl c1 c2 c3 c4 c5 (fun _ _ => rfl) hh hroom hd (fun H1 locs1 hP1 hD1 hS1 => k r S' (chk_some he).2 hC ls hl H1 locs1 (by rw [← (ha (xd X) S).2]; exact hP1) (by rw [← (ha (xd X) S).2]; exact hD1) hS1)
theorem k_tin {x v : Int32} {dflt lo hi : Int} {offs : Array Int} {len : Nat} (hd : decode cc pc = .ok (.tableswitch dflt lo hi offs, len)) (h1 : ¬ v.toInt < lo) (h2 : ¬ hi < v.toInt) (ho : offs[(v.toInt - lo).toNat]? = some off) (ht : (pc : Int) + off = (tgt : Int)) (kt : x = v → KJ X (cc, own, nL, h, rt) wl inj tgt loc st S e1) (kf : ¬ x = v → KJ X (cc, own, nL, h, rt) wl inj pc loc (.int x :: st) S e2) : KJ X (cc, own, nL, h, rt) wl inj pc loc (.int x :: st) S (if x = v then e1 else e2) := by
  intro r S' he hC ls hl H locs hP hD hS
  by_cases c : x = v
  · rw [if_pos c] at he
    have k := kt c r S' he hC ls hl H locs hP hD hS
    subst c
    exact lv_tableIn hC.1 hC.2.1 hd h1 h2 ho ht k
  · rw [if_neg c] at he
    exact kf c r S' he hC ls hl H locs hP hD hS
theorem k_tout {x : Int32} {dflt lo hi : Int} {offs : Array Int} {len : Nat} (hd : decode cc pc = .ok (.tableswitch dflt lo hi offs, len)) (hx : x.toInt < lo ∨ hi < x.toInt) (ht : (pc : Int) + dflt = (tgt : Int)) (k : KJ X (cc, own, nL, h, rt) wl inj tgt loc st S e) : KJ X (cc, own, nL, h, rt) wl inj pc loc (.int x :: st) S e :=
  fun r S' he hC ls hl H locs hP hD hS => lv_tableOut hC.1 hC.2.1 hd hx ht (k r S' he hC ls hl H locs hP hD hS)
theorem ne_int {x v : Int32} (h : ¬ x = v) : ¬ x.toInt = v.toInt := fun q => h (Int32.toInt_inj.mp q)
end KH
