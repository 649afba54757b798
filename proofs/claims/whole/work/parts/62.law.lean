/-! ===== the law's cases: printed by genlaw.py ===== -/
theorem swapP {D : va_G} {a b c : va_W} {H : Heap} (h : va_P D vwCl ((a ++ b) ++ c) H) : va_P D vwCl ((a ++ c) ++ b) H := P_perm (by rw [List.append_assoc, List.append_assoc]; exact List.Perm.append_left a List.perm_append_comm) h
theorem swapD {A : Nat → Prop} {a b c : va_W} (h : va_D A ((a ++ b) ++ c)) : va_D A ((a ++ c) ++ b) := D_perm (by rw [List.append_assoc, List.append_assoc]; exact List.Perm.append_left a List.perm_append_comm) h
abbrev D2 : Type := ClassId × ClassId × ClassId × ClassId × ClassId
/-- what stays through the law -/
def LwO (p : Program) (l : Launch) (R : Room) (s : State) (m : MethodId) (args : Array Value) (c : Code) (D : va_G) (d2 : D2) (b L sa : Nat) (xs : Nat → Int32) : Prop :=
  p.tables.exec = Jvm.exec ∧ c.code = cL_law ∧ c.maxLocals = 8 ∧ s.vm.findClass RL = some m.cls ∧ (∀ w ∈ TsG, w.before args s = true) ∧ NwU s ∧ va_K D vwCl (dtT (fun _ => 0, d2)) s ∧ va_X b L xs s s.heap ∧ b < s.heap.size ∧ TxU sa (fun q => s.heap.size ≤ q) s ∧ l.stackTraces = false ∧ 2000 ≤ R.frames ∧ 80000 ≤ R.locals ∧ L ≤ 2560
def lwW (aC aM : Nat → Nat) (d2 : D2) (o : Nat) (f : Nat → Int64) (SC SM : St) : va_W := (roL o (aC, d2) f ++ wlM (aM, d2) SM) ++ wlC (aC, d2) SC
def lwL (aC aM : Nat → Nat) (b o : Nat) (i : Nat) : List (Nat × Value) := [(4, .int (iv i)), (0, .ref b), (1, .ref (aC 0)), (2, .ref (aM 0)), (3, .ref o)]
/-- how things stand at a round's head and end -/
def LwS (s : State) (D : va_G) (aC aM : Nat → Nat) (d2 : D2) (b o i : Nat) (H : Heap) (locs : List Loc) (ls : Array Slot) : Prop :=
  ∃ (Z : Zt) (SC SM : St) (f : Nat → Int64), Inv Z SC SM ∧ va_P D vwCl (lwW aC aM d2 o f SC SM) H ∧ va_D (fun q => s.heap.size ≤ q) (lwW aC aM d2 o f SC SM) ∧ va_S (fun q => s.heap.size ≤ q) s.heap H locs ∧ lv_has ls 8 (lwL aC aM b o i)
theorem zeq {x y : Int64} (h : x = y) : lg_cmp x y = 0 := (lg_cmp_eq x y).mpr h
section LW
variable {p : Program} {l : Launch} {e : Env} {R : Room} {s : State} {m : MethodId} {args : Array Value} {below : List Frame} {meth : Method} {c : Code} {H : Heap} {locs : List Loc} {cells slots : Nat} {Q : State → Prop}
variable {D : va_G} {aC aM : Nat → Nat} {d2 : D2} {b L o i sa pc : Nat} {xs : Nat → Int32} {ls : Array Slot} {rest : List Value}
/-- an int of the script -/
theorem ldN {k : Nat} {kz : Int} (hx : p.tables.exec = Jvm.exec) (hb : c.code = cL_law) (hX : va_X b L xs s s.heap) (hbl : b < s.heap.size) (hS : va_S (fun q => s.heap.size ≤ q) s.heap H locs) (hL : L ≤ 2560) (hi : i + 5 ≤ L) (hk : k < 5) (hkz : kz = k)
    (h0 : ls[0]? = some (.val (.ref b))) (h4 : ls[4]? = some (.val (.int (iv i)))) (e0 : decode cL_law pc = .ok (.aload_n 0, 1)) (e1 : decode cL_law (pc + 1) = .ok (.iload 4, 2)) (e2 : decode cL_law (pc + 1 + 2) = .ok (.iconst kz, 1)) (e3 : decode cL_law (pc + 1 + 2 + 1) = .ok (.iadd, 1)) (e4 : decode cL_law (pc + 1 + 2 + 1 + 1) = .ok (.iaload, 1))
    (kk : W p l e R s m args below meth c H locs cells slots Q (F0 m (pc + 1 + 2 + 1 + 1 + 1) ls (.int (xs (i + k)) :: rest))) : W p l e R s m args below meth c H locs cells slots Q (F0 m pc ls rest) := by
  refine lv_aload_n hx hb e0 rfl h0 ?_
  refine lv_iload hx hb e1 h4 ?_
  refine lv_iconst (v := iv k) hx hb e2 (by rw [hkz]; rfl) ?_
  refine lv_iadd hx hb e3 ?_
  rw [iv_add]
  refine va_sld (A := fun q => s.heap.size ≤ q) hx hb hX hbl (Nat.not_le.mpr hbl) hS (inB_in (iv_in (by omega) (by omega) (by omega))) e4 ?_
  rw [iv_cl (by omega) (by omega), show ((i : Int) + (k : Int)).toNat = i + k by omega]
  exact kk

set_option maxHeartbeats 1000000 in
theorem law_weight (hO : LwO p l R s m args c D d2 b L sa xs) (hi : i + 5 ≤ L) (hs : LwS s D aC aM d2 b o i H locs ls) (hc : cells ≤ R.cells ∧ slots ≤ R.slots)
    (kk : ∀ (H1 : Heap) (locs1 : List Loc) (ls1 : Array Slot), LwS s D aC aM d2 b o i H1 locs1 ls1 → W p l e R s m args below meth c H1 locs1 cells slots Q (F0 m 866 ls1 [])) : W p l e R s m args below meth c H locs cells slots Q (F0 m 136 ls []) := by
  obtain ⟨hx, hb, hml, hown, hts, hN, hK, hX, hbl, hT, hlt, hRf, hRl, hL⟩ := hO
  obtain ⟨Z, SC, SM, f, hI, hP, hD, hS, hl⟩ := hs
  have hA : ∀ q : Nat, s.heap.size ≤ q → s.heap.size ≤ q := fun _ h => h
  obtain ⟨r, SC1, SM1, Z1, h1, h2, hI1⟩ := sm_weight (xs (i + 1)) (xs (i + 2)) (xs (i + 3)) Z SC SM hI
  refine lv_aload_n hx hb dL_law_136 rfl (lv_at hl 2 rfl) ?_
  refine ldN (k := 1) (pc := 137) hx hb hX hbl hS hL hi (by decide) rfl (lv_at hl 1 rfl) (lv_at hl 0 rfl) dL_law_137 dL_law_138 dL_law_140 dL_law_141 dL_law_142 ?_
  refine ldN (k := 2) (pc := 143) hx hb hX hbl hS hL hi (by decide) rfl (lv_at hl 1 rfl) (lv_at hl 0 rfl) dL_law_143 dL_law_144 dL_law_146 dL_law_147 dL_law_148 ?_
  refine ldN (k := 3) (pc := 149) hx hb hX hbl hS hL hi (by decide) rfl (lv_at hl 1 rfl) (lv_at hl 0 rfl) dL_law_149 dL_law_150 dL_law_152 dL_law_153 dL_law_154 ?_
  refine fr_callV (wr := roL o (aC, d2) f ++ wlM (aM, d2) SM) (wl := wlC) (d := (aC, d2)) (S := SC) (S1 := SC1) (q := 0) (As := [.int (xs (i + 1)), .int (xs (i + 2)), .int (xs (i + 3))]) (st := []) (r := some (.int r)) wadC hx hb hml hown hts hN hK hP hD hS hA lkL_19 obX4 (m_X4_weight (xs (i + 1)) (xs (i + 2)) (xs (i + 3)) SC r SC1 h1) rfl (Nat.le_of_ble_eq_true rfl) (Nat.le_trans (Nat.le_of_ble_eq_true rfl) hRf) (Nat.le_trans (Nat.le_of_ble_eq_true rfl) hRl) hl.1 hc dL_law_155 rfl (fun H locs hP hD hS => ?_)
  refine lv_aload_n hx hb dL_law_158 rfl (lv_at hl 3 rfl) ?_
  refine ldN (k := 1) (pc := 159) hx hb hX hbl hS hL hi (by decide) rfl (lv_at hl 1 rfl) (lv_at hl 0 rfl) dL_law_159 dL_law_160 dL_law_162 dL_law_163 dL_law_164 ?_
  refine ldN (k := 2) (pc := 165) hx hb hX hbl hS hL hi (by decide) rfl (lv_at hl 1 rfl) (lv_at hl 0 rfl) dL_law_165 dL_law_166 dL_law_168 dL_law_169 dL_law_170 ?_
  refine ldN (k := 3) (pc := 171) hx hb hX hbl hS hL hi (by decide) rfl (lv_at hl 1 rfl) (lv_at hl 0 rfl) dL_law_171 dL_law_172 dL_law_174 dL_law_175 dL_law_176 ?_
  refine fr_callV (wr := roL o (aC, d2) f ++ wlC (aC, d2) SC1) (wl := wlM) (d := (aM, d2)) (S := SM) (S1 := SM1) (q := 0) (As := [.int (xs (i + 1)), .int (xs (i + 2)), .int (xs (i + 3))]) (st := [.int r]) (r := some (.int r)) wadM hx hb hml hown hts hN hK (swapP hP) (swapD hD) hS hA lkL_23 obX5 (m_X5_weight (xs (i + 1)) (xs (i + 2)) (xs (i + 3)) SM r SM1 h2) rfl (Nat.le_of_ble_eq_true rfl) (Nat.le_trans (Nat.le_of_ble_eq_true rfl) hRf) (Nat.le_trans (Nat.le_of_ble_eq_true rfl) hRl) hl.1 hc dL_law_177 rfl (fun H locs hP hD hS => ?_)
  refine lv_icmp_eq (tgt := 866) hx hb dL_law_180 (by decide) (fun _ => ?_) (fun q => absurd rfl q)
  exact kk H locs ls ⟨Z1, SC1, SM1, f, hI1, swapP hP, swapD hD, hS, hl⟩

set_option maxHeartbeats 1000000 in
theorem law_draw (hO : LwO p l R s m args c D d2 b L sa xs) (hi : i + 5 ≤ L) (hs : LwS s D aC aM d2 b o i H locs ls) (hc : cells ≤ R.cells ∧ slots ≤ R.slots)
    (kk : ∀ (H1 : Heap) (locs1 : List Loc) (ls1 : Array Slot), LwS s D aC aM d2 b o i H1 locs1 ls1 → W p l e R s m args below meth c H1 locs1 cells slots Q (F0 m 866 ls1 [])) : W p l e R s m args below meth c H locs cells slots Q (F0 m 185 ls []) := by
  obtain ⟨hx, hb, hml, hown, hts, hN, hK, hX, hbl, hT, hlt, hRf, hRl, hL⟩ := hO
  obtain ⟨Z, SC, SM, f, hI, hP, hD, hS, hl⟩ := hs
  have hA : ∀ q : Nat, s.heap.size ≤ q → s.heap.size ≤ q := fun _ h => h
  obtain ⟨r, SC1, SM1, Z1, h1, h2, hI1⟩ := sm_draw (xs (i + 1)) (xs (i + 2)) Z SC SM hI
  refine lv_aload_n hx hb dL_law_185 rfl (lv_at hl 2 rfl) ?_
  refine ldN (k := 1) (pc := 186) hx hb hX hbl hS hL hi (by decide) rfl (lv_at hl 1 rfl) (lv_at hl 0 rfl) dL_law_186 dL_law_187 dL_law_189 dL_law_190 dL_law_191 ?_
  refine ldN (k := 2) (pc := 192) hx hb hX hbl hS hL hi (by decide) rfl (lv_at hl 1 rfl) (lv_at hl 0 rfl) dL_law_192 dL_law_193 dL_law_195 dL_law_196 dL_law_197 ?_
  refine fr_callV (wr := roL o (aC, d2) f ++ wlM (aM, d2) SM) (wl := wlC) (d := (aC, d2)) (S := SC) (S1 := SC1) (q := 0) (As := [.int (xs (i + 1)), .int (xs (i + 2))]) (st := []) (r := some (.int r)) wadC hx hb hml hown hts hN hK hP hD hS hA lkL_24 obX4 (m_X4_draw (xs (i + 1)) (xs (i + 2)) SC r SC1 h1) rfl (Nat.le_of_ble_eq_true rfl) (Nat.le_trans (Nat.le_of_ble_eq_true rfl) hRf) (Nat.le_trans (Nat.le_of_ble_eq_true rfl) hRl) hl.1 hc dL_law_198 rfl (fun H locs hP hD hS => ?_)
  refine lv_aload_n hx hb dL_law_201 rfl (lv_at hl 3 rfl) ?_
  refine ldN (k := 1) (pc := 202) hx hb hX hbl hS hL hi (by decide) rfl (lv_at hl 1 rfl) (lv_at hl 0 rfl) dL_law_202 dL_law_203 dL_law_205 dL_law_206 dL_law_207 ?_
  refine ldN (k := 2) (pc := 208) hx hb hX hbl hS hL hi (by decide) rfl (lv_at hl 1 rfl) (lv_at hl 0 rfl) dL_law_208 dL_law_209 dL_law_211 dL_law_212 dL_law_213 ?_
  refine fr_callV (wr := roL o (aC, d2) f ++ wlC (aC, d2) SC1) (wl := wlM) (d := (aM, d2)) (S := SM) (S1 := SM1) (q := 0) (As := [.int (xs (i + 1)), .int (xs (i + 2))]) (st := [.int r]) (r := some (.int r)) wadM hx hb hml hown hts hN hK (swapP hP) (swapD hD) hS hA lkL_28 obX5 (m_X5_draw (xs (i + 1)) (xs (i + 2)) SM r SM1 h2) rfl (Nat.le_of_ble_eq_true rfl) (Nat.le_trans (Nat.le_of_ble_eq_true rfl) hRf) (Nat.le_trans (Nat.le_of_ble_eq_true rfl) hRl) hl.1 hc dL_law_214 rfl (fun H locs hP hD hS => ?_)
  refine lv_icmp_eq (tgt := 866) hx hb dL_law_217 (by decide) (fun _ => ?_) (fun q => absurd rfl q)
  exact kk H locs ls ⟨Z1, SC1, SM1, f, hI1, swapP hP, swapD hD, hS, hl⟩

set_option maxHeartbeats 1000000 in
theorem law_set (hO : LwO p l R s m args c D d2 b L sa xs) (hi : i + 5 ≤ L) (hs : LwS s D aC aM d2 b o i H locs ls) (hc : cells ≤ R.cells ∧ slots ≤ R.slots)
    (kk : ∀ (H1 : Heap) (locs1 : List Loc) (ls1 : Array Slot), LwS s D aC aM d2 b o i H1 locs1 ls1 → W p l e R s m args below meth c H1 locs1 cells slots Q (F0 m 866 ls1 [])) : W p l e R s m args below meth c H locs cells slots Q (F0 m 222 ls []) := by
  obtain ⟨hx, hb, hml, hown, hts, hN, hK, hX, hbl, hT, hlt, hRf, hRl, hL⟩ := hO
  obtain ⟨Z, SC, SM, f, hI, hP, hD, hS, hl⟩ := hs
  have hA : ∀ q : Nat, s.heap.size ≤ q → s.heap.size ≤ q := fun _ h => h
  obtain ⟨r, SC1, SM1, Z1, h1, h2, hI1⟩ := sm_set (xs (i + 1)) (xs (i + 2)) (xs (i + 3)) (xs (i + 4)) Z SC SM hI
  refine lv_aload_n hx hb dL_law_222 rfl (lv_at hl 2 rfl) ?_
  refine ldN (k := 1) (pc := 223) hx hb hX hbl hS hL hi (by decide) rfl (lv_at hl 1 rfl) (lv_at hl 0 rfl) dL_law_223 dL_law_224 dL_law_226 dL_law_227 dL_law_228 ?_
  refine ldN (k := 2) (pc := 229) hx hb hX hbl hS hL hi (by decide) rfl (lv_at hl 1 rfl) (lv_at hl 0 rfl) dL_law_229 dL_law_230 dL_law_232 dL_law_233 dL_law_234 ?_
  refine ldN (k := 3) (pc := 235) hx hb hX hbl hS hL hi (by decide) rfl (lv_at hl 1 rfl) (lv_at hl 0 rfl) dL_law_235 dL_law_236 dL_law_238 dL_law_239 dL_law_240 ?_
  refine ldN (k := 4) (pc := 241) hx hb hX hbl hS hL hi (by decide) rfl (lv_at hl 1 rfl) (lv_at hl 0 rfl) dL_law_241 dL_law_242 dL_law_244 dL_law_245 dL_law_246 ?_
  refine fr_callV (wr := roL o (aC, d2) f ++ wlM (aM, d2) SM) (wl := wlC) (d := (aC, d2)) (S := SC) (S1 := SC1) (q := 0) (As := [.int (xs (i + 1)), .int (xs (i + 2)), .int (xs (i + 3)), .int (xs (i + 4))]) (st := []) (r := some (.int r)) wadC hx hb hml hown hts hN hK hP hD hS hA lkL_29 obX4 (m_X4_set (xs (i + 1)) (xs (i + 2)) (xs (i + 3)) (xs (i + 4)) SC r SC1 h1) rfl (Nat.le_of_ble_eq_true rfl) (Nat.le_trans (Nat.le_of_ble_eq_true rfl) hRf) (Nat.le_trans (Nat.le_of_ble_eq_true rfl) hRl) hl.1 hc dL_law_247 rfl (fun H locs hP hD hS => ?_)
  refine lv_aload_n hx hb dL_law_250 rfl (lv_at hl 3 rfl) ?_
  refine ldN (k := 1) (pc := 251) hx hb hX hbl hS hL hi (by decide) rfl (lv_at hl 1 rfl) (lv_at hl 0 rfl) dL_law_251 dL_law_252 dL_law_254 dL_law_255 dL_law_256 ?_
  refine ldN (k := 2) (pc := 257) hx hb hX hbl hS hL hi (by decide) rfl (lv_at hl 1 rfl) (lv_at hl 0 rfl) dL_law_257 dL_law_258 dL_law_260 dL_law_261 dL_law_262 ?_
  refine ldN (k := 3) (pc := 263) hx hb hX hbl hS hL hi (by decide) rfl (lv_at hl 1 rfl) (lv_at hl 0 rfl) dL_law_263 dL_law_264 dL_law_266 dL_law_267 dL_law_268 ?_
  refine ldN (k := 4) (pc := 269) hx hb hX hbl hS hL hi (by decide) rfl (lv_at hl 1 rfl) (lv_at hl 0 rfl) dL_law_269 dL_law_270 dL_law_272 dL_law_273 dL_law_274 ?_
  refine fr_callV (wr := roL o (aC, d2) f ++ wlC (aC, d2) SC1) (wl := wlM) (d := (aM, d2)) (S := SM) (S1 := SM1) (q := 0) (As := [.int (xs (i + 1)), .int (xs (i + 2)), .int (xs (i + 3)), .int (xs (i + 4))]) (st := [.int r]) (r := some (.int r)) wadM hx hb hml hown hts hN hK (swapP hP) (swapD hD) hS hA lkL_33 obX5 (m_X5_set (xs (i + 1)) (xs (i + 2)) (xs (i + 3)) (xs (i + 4)) SM r SM1 h2) rfl (Nat.le_of_ble_eq_true rfl) (Nat.le_trans (Nat.le_of_ble_eq_true rfl) hRf) (Nat.le_trans (Nat.le_of_ble_eq_true rfl) hRl) hl.1 hc dL_law_275 rfl (fun H locs hP hD hS => ?_)
  refine lv_icmp_eq (tgt := 866) hx hb dL_law_278 (by decide) (fun _ => ?_) (fun q => absurd rfl q)
  exact kk H locs ls ⟨Z1, SC1, SM1, f, hI1, swapP hP, swapD hD, hS, hl⟩

set_option maxHeartbeats 1000000 in
theorem law_observe (hO : LwO p l R s m args c D d2 b L sa xs) (hi : i + 5 ≤ L) (hs : LwS s D aC aM d2 b o i H locs ls) (hc : cells ≤ R.cells ∧ slots ≤ R.slots)
    (kk : ∀ (H1 : Heap) (locs1 : List Loc) (ls1 : Array Slot), LwS s D aC aM d2 b o i H1 locs1 ls1 → W p l e R s m args below meth c H1 locs1 cells slots Q (F0 m 866 ls1 [])) : W p l e R s m args below meth c H locs cells slots Q (F0 m 283 ls []) := by
  obtain ⟨hx, hb, hml, hown, hts, hN, hK, hX, hbl, hT, hlt, hRf, hRl, hL⟩ := hO
  obtain ⟨Z, SC, SM, f, hI, hP, hD, hS, hl⟩ := hs
  have hA : ∀ q : Nat, s.heap.size ≤ q → s.heap.size ≤ q := fun _ h => h
  obtain ⟨r, SC1, SM1, Z1, h1, h2, hI1⟩ := sm_observe (xs (i + 1)) (xs (i + 2)) (xs (i + 3)) Z SC SM hI
  refine lv_aload_n hx hb dL_law_283 rfl (lv_at hl 2 rfl) ?_
  refine ldN (k := 1) (pc := 284) hx hb hX hbl hS hL hi (by decide) rfl (lv_at hl 1 rfl) (lv_at hl 0 rfl) dL_law_284 dL_law_285 dL_law_287 dL_law_288 dL_law_289 ?_
  refine ldN (k := 2) (pc := 290) hx hb hX hbl hS hL hi (by decide) rfl (lv_at hl 1 rfl) (lv_at hl 0 rfl) dL_law_290 dL_law_291 dL_law_293 dL_law_294 dL_law_295 ?_
  refine ldN (k := 3) (pc := 296) hx hb hX hbl hS hL hi (by decide) rfl (lv_at hl 1 rfl) (lv_at hl 0 rfl) dL_law_296 dL_law_297 dL_law_299 dL_law_300 dL_law_301 ?_
  refine fr_callV (wr := roL o (aC, d2) f ++ wlM (aM, d2) SM) (wl := wlC) (d := (aC, d2)) (S := SC) (S1 := SC1) (q := 0) (As := [.int (xs (i + 1)), .int (xs (i + 2)), .int (xs (i + 3))]) (st := []) (r := some (.int r)) wadC hx hb hml hown hts hN hK hP hD hS hA lkL_34 obX4 (m_X4_observe (xs (i + 1)) (xs (i + 2)) (xs (i + 3)) SC r SC1 h1) rfl (Nat.le_of_ble_eq_true rfl) (Nat.le_trans (Nat.le_of_ble_eq_true rfl) hRf) (Nat.le_trans (Nat.le_of_ble_eq_true rfl) hRl) hl.1 hc dL_law_302 rfl (fun H locs hP hD hS => ?_)
  refine lv_aload_n hx hb dL_law_305 rfl (lv_at hl 3 rfl) ?_
  refine ldN (k := 1) (pc := 306) hx hb hX hbl hS hL hi (by decide) rfl (lv_at hl 1 rfl) (lv_at hl 0 rfl) dL_law_306 dL_law_307 dL_law_309 dL_law_310 dL_law_311 ?_
  refine ldN (k := 2) (pc := 312) hx hb hX hbl hS hL hi (by decide) rfl (lv_at hl 1 rfl) (lv_at hl 0 rfl) dL_law_312 dL_law_313 dL_law_315 dL_law_316 dL_law_317 ?_
  refine ldN (k := 3) (pc := 318) hx hb hX hbl hS hL hi (by decide) rfl (lv_at hl 1 rfl) (lv_at hl 0 rfl) dL_law_318 dL_law_319 dL_law_321 dL_law_322 dL_law_323 ?_
  refine fr_callV (wr := roL o (aC, d2) f ++ wlC (aC, d2) SC1) (wl := wlM) (d := (aM, d2)) (S := SM) (S1 := SM1) (q := 0) (As := [.int (xs (i + 1)), .int (xs (i + 2)), .int (xs (i + 3))]) (st := [.int r]) (r := some (.int r)) wadM hx hb hml hown hts hN hK (swapP hP) (swapD hD) hS hA lkL_37 obX5 (m_X5_observe (xs (i + 1)) (xs (i + 2)) (xs (i + 3)) SM r SM1 h2) rfl (Nat.le_of_ble_eq_true rfl) (Nat.le_trans (Nat.le_of_ble_eq_true rfl) hRf) (Nat.le_trans (Nat.le_of_ble_eq_true rfl) hRl) hl.1 hc dL_law_324 rfl (fun H locs hP hD hS => ?_)
  refine lv_icmp_eq (tgt := 866) hx hb dL_law_327 (by decide) (fun _ => ?_) (fun q => absurd rfl q)
  exact kk H locs ls ⟨Z1, SC1, SM1, f, hI1, swapP hP, swapD hD, hS, hl⟩

set_option maxHeartbeats 1000000 in
theorem law_weigh (hO : LwO p l R s m args c D d2 b L sa xs) (hi : i + 5 ≤ L) (hs : LwS s D aC aM d2 b o i H locs ls) (hc : cells ≤ R.cells ∧ slots ≤ R.slots)
    (kk : ∀ (H1 : Heap) (locs1 : List Loc) (ls1 : Array Slot), LwS s D aC aM d2 b o i H1 locs1 ls1 → W p l e R s m args below meth c H1 locs1 cells slots Q (F0 m 866 ls1 [])) : W p l e R s m args below meth c H locs cells slots Q (F0 m 332 ls []) := by
  obtain ⟨hx, hb, hml, hown, hts, hN, hK, hX, hbl, hT, hlt, hRf, hRl, hL⟩ := hO
  obtain ⟨Z, SC, SM, f, hI, hP, hD, hS, hl⟩ := hs
  have hA : ∀ q : Nat, s.heap.size ≤ q → s.heap.size ≤ q := fun _ h => h
  obtain ⟨r, SC1, SM1, Z1, h1, h2, hI1⟩ := sm_weigh (xs (i + 1)) Z SC SM hI
  refine lv_aload_n hx hb dL_law_332 rfl (lv_at hl 2 rfl) ?_
  refine ldN (k := 1) (pc := 333) hx hb hX hbl hS hL hi (by decide) rfl (lv_at hl 1 rfl) (lv_at hl 0 rfl) dL_law_333 dL_law_334 dL_law_336 dL_law_337 dL_law_338 ?_
  refine fr_callV (wr := roL o (aC, d2) f ++ wlM (aM, d2) SM) (wl := wlC) (d := (aC, d2)) (S := SC) (S1 := SC1) (q := 0) (As := [.int (xs (i + 1))]) (st := []) (r := some (.int r)) wadC hx hb hml hown hts hN hK hP hD hS hA lkL_38 obX4 (m_X4_weigh (xs (i + 1)) SC r SC1 h1) rfl (Nat.le_of_ble_eq_true rfl) (Nat.le_trans (Nat.le_of_ble_eq_true rfl) hRf) (Nat.le_trans (Nat.le_of_ble_eq_true rfl) hRl) hl.1 hc dL_law_339 rfl (fun H locs hP hD hS => ?_)
  refine lv_aload_n hx hb dL_law_342 rfl (lv_at hl 3 rfl) ?_
  refine ldN (k := 1) (pc := 343) hx hb hX hbl hS hL hi (by decide) rfl (lv_at hl 1 rfl) (lv_at hl 0 rfl) dL_law_343 dL_law_344 dL_law_346 dL_law_347 dL_law_348 ?_
  refine fr_callV (wr := roL o (aC, d2) f ++ wlC (aC, d2) SC1) (wl := wlM) (d := (aM, d2)) (S := SM) (S1 := SM1) (q := 0) (As := [.int (xs (i + 1))]) (st := [.int r]) (r := some (.int r)) wadM hx hb hml hown hts hN hK (swapP hP) (swapD hD) hS hA lkL_42 obX5 (m_X5_weigh (xs (i + 1)) SM r SM1 h2) rfl (Nat.le_of_ble_eq_true rfl) (Nat.le_trans (Nat.le_of_ble_eq_true rfl) hRf) (Nat.le_trans (Nat.le_of_ble_eq_true rfl) hRl) hl.1 hc dL_law_349 rfl (fun H locs hP hD hS => ?_)
  refine lv_icmp_eq (tgt := 866) hx hb dL_law_352 (by decide) (fun _ => ?_) (fun q => absurd rfl q)
  exact kk H locs ls ⟨Z1, SC1, SM1, f, hI1, swapP hP, swapD hD, hS, hl⟩

set_option maxHeartbeats 1000000 in
theorem law_skip (hO : LwO p l R s m args c D d2 b L sa xs) (hi : i + 5 ≤ L) (hs : LwS s D aC aM d2 b o i H locs ls) (hc : cells ≤ R.cells ∧ slots ≤ R.slots)
    (kk : ∀ (H1 : Heap) (locs1 : List Loc) (ls1 : Array Slot), LwS s D aC aM d2 b o i H1 locs1 ls1 → W p l e R s m args below meth c H1 locs1 cells slots Q (F0 m 866 ls1 [])) : W p l e R s m args below meth c H locs cells slots Q (F0 m 357 ls []) := by
  obtain ⟨hx, hb, hml, hown, hts, hN, hK, hX, hbl, hT, hlt, hRf, hRl, hL⟩ := hO
  obtain ⟨Z, SC, SM, f, hI, hP, hD, hS, hl⟩ := hs
  have hA : ∀ q : Nat, s.heap.size ≤ q → s.heap.size ≤ q := fun _ h => h
  obtain ⟨r, SC1, SM1, Z1, h1, h2, hI1⟩ := sm_skip (xs (i + 1)) (xs (i + 2)) Z SC SM hI
  refine lv_aload_n hx hb dL_law_357 rfl (lv_at hl 2 rfl) ?_
  refine ldN (k := 1) (pc := 358) hx hb hX hbl hS hL hi (by decide) rfl (lv_at hl 1 rfl) (lv_at hl 0 rfl) dL_law_358 dL_law_359 dL_law_361 dL_law_362 dL_law_363 ?_
  refine ldN (k := 2) (pc := 364) hx hb hX hbl hS hL hi (by decide) rfl (lv_at hl 1 rfl) (lv_at hl 0 rfl) dL_law_364 dL_law_365 dL_law_367 dL_law_368 dL_law_369 ?_
  refine fr_callV (wr := roL o (aC, d2) f ++ wlM (aM, d2) SM) (wl := wlC) (d := (aC, d2)) (S := SC) (S1 := SC1) (q := 0) (As := [.int (xs (i + 1)), .int (xs (i + 2))]) (st := []) (r := some (.int r)) wadC hx hb hml hown hts hN hK hP hD hS hA lkL_43 obX4 (m_X4_skip (xs (i + 1)) (xs (i + 2)) SC r SC1 h1) rfl (Nat.le_of_ble_eq_true rfl) (Nat.le_trans (Nat.le_of_ble_eq_true rfl) hRf) (Nat.le_trans (Nat.le_of_ble_eq_true rfl) hRl) hl.1 hc dL_law_370 rfl (fun H locs hP hD hS => ?_)
  refine lv_aload_n hx hb dL_law_373 rfl (lv_at hl 3 rfl) ?_
  refine ldN (k := 1) (pc := 374) hx hb hX hbl hS hL hi (by decide) rfl (lv_at hl 1 rfl) (lv_at hl 0 rfl) dL_law_374 dL_law_375 dL_law_377 dL_law_378 dL_law_379 ?_
  refine ldN (k := 2) (pc := 380) hx hb hX hbl hS hL hi (by decide) rfl (lv_at hl 1 rfl) (lv_at hl 0 rfl) dL_law_380 dL_law_381 dL_law_383 dL_law_384 dL_law_385 ?_
  refine fr_callV (wr := roL o (aC, d2) f ++ wlC (aC, d2) SC1) (wl := wlM) (d := (aM, d2)) (S := SM) (S1 := SM1) (q := 0) (As := [.int (xs (i + 1)), .int (xs (i + 2))]) (st := [.int r]) (r := some (.int r)) wadM hx hb hml hown hts hN hK (swapP hP) (swapD hD) hS hA lkL_46 obX5 (m_X5_skip (xs (i + 1)) (xs (i + 2)) SM r SM1 h2) rfl (Nat.le_of_ble_eq_true rfl) (Nat.le_trans (Nat.le_of_ble_eq_true rfl) hRf) (Nat.le_trans (Nat.le_of_ble_eq_true rfl) hRl) hl.1 hc dL_law_386 rfl (fun H locs hP hD hS => ?_)
  refine lv_icmp_eq (tgt := 866) hx hb dL_law_389 (by decide) (fun _ => ?_) (fun q => absurd rfl q)
  exact kk H locs ls ⟨Z1, SC1, SM1, f, hI1, swapP hP, swapD hD, hS, hl⟩

set_option maxHeartbeats 1000000 in
theorem law_drop (hO : LwO p l R s m args c D d2 b L sa xs) (hi : i + 5 ≤ L) (hs : LwS s D aC aM d2 b o i H locs ls) (hc : cells ≤ R.cells ∧ slots ≤ R.slots)
    (kk : ∀ (H1 : Heap) (locs1 : List Loc) (ls1 : Array Slot), LwS s D aC aM d2 b o i H1 locs1 ls1 → W p l e R s m args below meth c H1 locs1 cells slots Q (F0 m 866 ls1 [])) : W p l e R s m args below meth c H locs cells slots Q (F0 m 394 ls []) := by
  obtain ⟨hx, hb, hml, hown, hts, hN, hK, hX, hbl, hT, hlt, hRf, hRl, hL⟩ := hO
  obtain ⟨Z, SC, SM, f, hI, hP, hD, hS, hl⟩ := hs
  have hA : ∀ q : Nat, s.heap.size ≤ q → s.heap.size ≤ q := fun _ h => h
  obtain ⟨r, SC1, SM1, Z1, h1, h2, hI1⟩ := sm_drop  Z SC SM hI
  refine lv_aload_n hx hb dL_law_394 rfl (lv_at hl 2 rfl) ?_
  refine fr_callV (wr := roL o (aC, d2) f ++ wlM (aM, d2) SM) (wl := wlC) (d := (aC, d2)) (S := SC) (S1 := SC1) (q := 0) (As := []) (st := []) (r := some (.int r)) wadC hx hb hml hown hts hN hK hP hD hS hA lkL_47 obX4 (m_X4_drop  SC r SC1 h1) rfl (Nat.le_of_ble_eq_true rfl) (Nat.le_trans (Nat.le_of_ble_eq_true rfl) hRf) (Nat.le_trans (Nat.le_of_ble_eq_true rfl) hRl) hl.1 hc dL_law_395 rfl (fun H locs hP hD hS => ?_)
  refine lv_aload_n hx hb dL_law_398 rfl (lv_at hl 3 rfl) ?_
  refine fr_callV (wr := roL o (aC, d2) f ++ wlC (aC, d2) SC1) (wl := wlM) (d := (aM, d2)) (S := SM) (S1 := SM1) (q := 0) (As := []) (st := [.int r]) (r := some (.int r)) wadM hx hb hml hown hts hN hK (swapP hP) (swapD hD) hS hA lkL_51 obX5 (m_X5_drop  SM r SM1 h2) rfl (Nat.le_of_ble_eq_true rfl) (Nat.le_trans (Nat.le_of_ble_eq_true rfl) hRf) (Nat.le_trans (Nat.le_of_ble_eq_true rfl) hRl) hl.1 hc dL_law_399 rfl (fun H locs hP hD hS => ?_)
  refine lv_icmp_eq (tgt := 866) hx hb dL_law_402 (by decide) (fun _ => ?_) (fun q => absurd rfl q)
  exact kk H locs ls ⟨Z1, SC1, SM1, f, hI1, swapP hP, swapD hD, hS, hl⟩

set_option maxHeartbeats 1000000 in
theorem law_ask (hO : LwO p l R s m args c D d2 b L sa xs) (hi : i + 5 ≤ L) (hs : LwS s D aC aM d2 b o i H locs ls) (hc : cells ≤ R.cells ∧ slots ≤ R.slots)
    (kk : ∀ (H1 : Heap) (locs1 : List Loc) (ls1 : Array Slot), LwS s D aC aM d2 b o i H1 locs1 ls1 → W p l e R s m args below meth c H1 locs1 cells slots Q (F0 m 866 ls1 [])) : W p l e R s m args below meth c H locs cells slots Q (F0 m 407 ls []) := by
  obtain ⟨hx, hb, hml, hown, hts, hN, hK, hX, hbl, hT, hlt, hRf, hRl, hL⟩ := hO
  obtain ⟨Z, SC, SM, f, hI, hP, hD, hS, hl⟩ := hs
  have hA : ∀ q : Nat, s.heap.size ≤ q → s.heap.size ≤ q := fun _ h => h
  obtain ⟨vb, hvb, hvx⟩ : ∃ v : Int32, (v = 0 ∨ v = 1) ∧ v = (if xs (i + 2) = 0 then 0 else 1) := by
    by_cases h : xs (i + 2) = 0
    · exact ⟨0, Or.inl rfl, by rw [if_pos h]⟩
    · exact ⟨1, Or.inr rfl, by rw [if_neg h]⟩
  obtain ⟨r, SC1, SM1, Z1, h1, h2, hI1⟩ := sm_ask (xs (i + 1)) vb hvb Z SC SM hI
  refine lv_aload_n hx hb dL_law_407 rfl (lv_at hl 2 rfl) ?_
  refine ldN (k := 1) (pc := 408) hx hb hX hbl hS hL hi (by decide) rfl (lv_at hl 1 rfl) (lv_at hl 0 rfl) dL_law_408 dL_law_409 dL_law_411 dL_law_412 dL_law_413 ?_
  refine ldN (k := 2) (pc := 414) hx hb hX hbl hS hL hi (by decide) rfl (lv_at hl 1 rfl) (lv_at hl 0 rfl) dL_law_414 dL_law_415 dL_law_417 dL_law_418 dL_law_419 ?_
  have hjoin0 : ∀ v : Int32, v = vb → W p l e R s m args below meth c H locs cells slots Q (F0 m 428 ls (.int v :: .int (xs (i + 1)) :: .ref (aC 0) :: [])) → W p l e R s m args below meth c H locs cells slots Q (F0 m 420 ls (.int (xs (i + 2)) :: .int (xs (i + 1)) :: .ref (aC 0) :: [])) := by
    intro v hv hw
    refine lv_if_eq (tgt := 427) hx hb dL_law_420 (by decide) (fun h => ?_) (fun h => ?_)
    · refine lv_iconst (v := 0) hx hb dL_law_427 (by decide) ?_
      have : v = 0 := by rw [hv, hvx, if_pos h]
      rw [this] at hw
      exact hw
    · refine lv_iconst (v := 1) hx hb dL_law_423 (by decide) ?_
      refine lv_goto (tgt := 428) hx hb dL_law_424 (by decide) ?_
      have : v = 1 := by rw [hv, hvx, if_neg h]
      rw [this] at hw
      exact hw
  refine hjoin0 vb rfl ?_
  refine fr_callV (wr := roL o (aC, d2) f ++ wlM (aM, d2) SM) (wl := wlC) (d := (aC, d2)) (S := SC) (S1 := SC1) (q := 0) (As := [.int (xs (i + 1)), .int vb]) (st := []) (r := some (.int r)) wadC hx hb hml hown hts hN hK hP hD hS hA lkL_52 obX4 (m_X4_ask (xs (i + 1)) vb SC r SC1 h1) rfl (Nat.le_of_ble_eq_true rfl) (Nat.le_trans (Nat.le_of_ble_eq_true rfl) hRf) (Nat.le_trans (Nat.le_of_ble_eq_true rfl) hRl) hl.1 hc dL_law_428 rfl (fun H locs hP hD hS => ?_)
  refine lv_aload_n hx hb dL_law_431 rfl (lv_at hl 3 rfl) ?_
  refine ldN (k := 1) (pc := 432) hx hb hX hbl hS hL hi (by decide) rfl (lv_at hl 1 rfl) (lv_at hl 0 rfl) dL_law_432 dL_law_433 dL_law_435 dL_law_436 dL_law_437 ?_
  refine ldN (k := 2) (pc := 438) hx hb hX hbl hS hL hi (by decide) rfl (lv_at hl 1 rfl) (lv_at hl 0 rfl) dL_law_438 dL_law_439 dL_law_441 dL_law_442 dL_law_443 ?_
  have hjoin1 : ∀ v : Int32, v = vb → W p l e R s m args below meth c H locs cells slots Q (F0 m 452 ls (.int v :: .int (xs (i + 1)) :: .ref (aM 0) :: [.int r])) → W p l e R s m args below meth c H locs cells slots Q (F0 m 444 ls (.int (xs (i + 2)) :: .int (xs (i + 1)) :: .ref (aM 0) :: [.int r])) := by
    intro v hv hw
    refine lv_if_eq (tgt := 451) hx hb dL_law_444 (by decide) (fun h => ?_) (fun h => ?_)
    · refine lv_iconst (v := 0) hx hb dL_law_451 (by decide) ?_
      have : v = 0 := by rw [hv, hvx, if_pos h]
      rw [this] at hw
      exact hw
    · refine lv_iconst (v := 1) hx hb dL_law_447 (by decide) ?_
      refine lv_goto (tgt := 452) hx hb dL_law_448 (by decide) ?_
      have : v = 1 := by rw [hv, hvx, if_neg h]
      rw [this] at hw
      exact hw
  refine hjoin1 vb rfl ?_
  refine fr_callV (wr := roL o (aC, d2) f ++ wlC (aC, d2) SC1) (wl := wlM) (d := (aM, d2)) (S := SM) (S1 := SM1) (q := 0) (As := [.int (xs (i + 1)), .int vb]) (st := [.int r]) (r := some (.int r)) wadM hx hb hml hown hts hN hK (swapP hP) (swapD hD) hS hA lkL_56 obX5 (m_X5_ask (xs (i + 1)) vb SM r SM1 h2) rfl (Nat.le_of_ble_eq_true rfl) (Nat.le_trans (Nat.le_of_ble_eq_true rfl) hRf) (Nat.le_trans (Nat.le_of_ble_eq_true rfl) hRl) hl.1 hc dL_law_452 rfl (fun H locs hP hD hS => ?_)
  refine lv_icmp_eq (tgt := 866) hx hb dL_law_455 (by decide) (fun _ => ?_) (fun q => absurd rfl q)
  exact kk H locs ls ⟨Z1, SC1, SM1, f, hI1, swapP hP, swapD hD, hS, hl⟩

set_option maxHeartbeats 1000000 in
theorem law_live (hO : LwO p l R s m args c D d2 b L sa xs) (hi : i + 5 ≤ L) (hs : LwS s D aC aM d2 b o i H locs ls) (hc : cells ≤ R.cells ∧ slots ≤ R.slots)
    (kk : ∀ (H1 : Heap) (locs1 : List Loc) (ls1 : Array Slot), LwS s D aC aM d2 b o i H1 locs1 ls1 → W p l e R s m args below meth c H1 locs1 cells slots Q (F0 m 866 ls1 [])) : W p l e R s m args below meth c H locs cells slots Q (F0 m 460 ls []) := by
  obtain ⟨hx, hb, hml, hown, hts, hN, hK, hX, hbl, hT, hlt, hRf, hRl, hL⟩ := hO
  obtain ⟨Z, SC, SM, f, hI, hP, hD, hS, hl⟩ := hs
  have hA : ∀ q : Nat, s.heap.size ≤ q → s.heap.size ≤ q := fun _ h => h
  obtain ⟨r, SC1, SM1, Z1, h1, h2, hI1⟩ := sm_live (xs (i + 1)) Z SC SM hI
  refine lv_aload_n hx hb dL_law_460 rfl (lv_at hl 2 rfl) ?_
  refine ldN (k := 1) (pc := 461) hx hb hX hbl hS hL hi (by decide) rfl (lv_at hl 1 rfl) (lv_at hl 0 rfl) dL_law_461 dL_law_462 dL_law_464 dL_law_465 dL_law_466 ?_
  refine fr_callV (wr := roL o (aC, d2) f ++ wlM (aM, d2) SM) (wl := wlC) (d := (aC, d2)) (S := SC) (S1 := SC1) (q := 0) (As := [.int (xs (i + 1))]) (st := []) (r := some (.int r)) wadC hx hb hml hown hts hN hK hP hD hS hA lkL_57 obX4 (m_X4_live (xs (i + 1)) SC r SC1 h1) rfl (Nat.le_of_ble_eq_true rfl) (Nat.le_trans (Nat.le_of_ble_eq_true rfl) hRf) (Nat.le_trans (Nat.le_of_ble_eq_true rfl) hRl) hl.1 hc dL_law_467 rfl (fun H locs hP hD hS => ?_)
  refine lv_aload_n hx hb dL_law_470 rfl (lv_at hl 3 rfl) ?_
  refine ldN (k := 1) (pc := 471) hx hb hX hbl hS hL hi (by decide) rfl (lv_at hl 1 rfl) (lv_at hl 0 rfl) dL_law_471 dL_law_472 dL_law_474 dL_law_475 dL_law_476 ?_
  refine fr_callV (wr := roL o (aC, d2) f ++ wlC (aC, d2) SC1) (wl := wlM) (d := (aM, d2)) (S := SM) (S1 := SM1) (q := 0) (As := [.int (xs (i + 1))]) (st := [.int r]) (r := some (.int r)) wadM hx hb hml hown hts hN hK (swapP hP) (swapD hD) hS hA lkL_60 obX5 (m_X5_live (xs (i + 1)) SM r SM1 h2) rfl (Nat.le_of_ble_eq_true rfl) (Nat.le_trans (Nat.le_of_ble_eq_true rfl) hRf) (Nat.le_trans (Nat.le_of_ble_eq_true rfl) hRl) hl.1 hc dL_law_477 rfl (fun H locs hP hD hS => ?_)
  refine lv_icmp_eq (tgt := 866) hx hb dL_law_480 (by decide) (fun _ => ?_) (fun q => absurd rfl q)
  exact kk H locs ls ⟨Z1, SC1, SM1, f, hI1, swapP hP, swapD hD, hS, hl⟩

set_option maxHeartbeats 1000000 in
theorem law_begin (hO : LwO p l R s m args c D d2 b L sa xs) (hi : i + 5 ≤ L) (hs : LwS s D aC aM d2 b o i H locs ls) (hc : cells ≤ R.cells ∧ slots ≤ R.slots)
    (kk : ∀ (H1 : Heap) (locs1 : List Loc) (ls1 : Array Slot), LwS s D aC aM d2 b o i H1 locs1 ls1 → W p l e R s m args below meth c H1 locs1 cells slots Q (F0 m 866 ls1 [])) : W p l e R s m args below meth c H locs cells slots Q (F0 m 485 ls []) := by
  obtain ⟨hx, hb, hml, hown, hts, hN, hK, hX, hbl, hT, hlt, hRf, hRl, hL⟩ := hO
  obtain ⟨Z, SC, SM, f, hI, hP, hD, hS, hl⟩ := hs
  have hA : ∀ q : Nat, s.heap.size ≤ q → s.heap.size ≤ q := fun _ h => h
  obtain ⟨r, SC1, SM1, Z1, h1, h2, hI1⟩ := sm_begin  Z SC SM hI
  refine lv_aload_n hx hb dL_law_485 rfl (lv_at hl 2 rfl) ?_
  refine fr_callV (wr := roL o (aC, d2) f ++ wlM (aM, d2) SM) (wl := wlC) (d := (aC, d2)) (S := SC) (S1 := SC1) (q := 0) (As := []) (st := []) (r := some (.int r)) wadC hx hb hml hown hts hN hK hP hD hS hA lkL_61 obX4 (m_X4_begin  SC r SC1 h1) rfl (Nat.le_of_ble_eq_true rfl) (Nat.le_trans (Nat.le_of_ble_eq_true rfl) hRf) (Nat.le_trans (Nat.le_of_ble_eq_true rfl) hRl) hl.1 hc dL_law_486 rfl (fun H locs hP hD hS => ?_)
  refine lv_aload_n hx hb dL_law_489 rfl (lv_at hl 3 rfl) ?_
  refine fr_callV (wr := roL o (aC, d2) f ++ wlC (aC, d2) SC1) (wl := wlM) (d := (aM, d2)) (S := SM) (S1 := SM1) (q := 0) (As := []) (st := [.int r]) (r := some (.int r)) wadM hx hb hml hown hts hN hK (swapP hP) (swapD hD) hS hA lkL_64 obX5 (m_X5_begin  SM r SM1 h2) rfl (Nat.le_of_ble_eq_true rfl) (Nat.le_trans (Nat.le_of_ble_eq_true rfl) hRf) (Nat.le_trans (Nat.le_of_ble_eq_true rfl) hRl) hl.1 hc dL_law_490 rfl (fun H locs hP hD hS => ?_)
  refine lv_icmp_eq (tgt := 866) hx hb dL_law_493 (by decide) (fun _ => ?_) (fun q => absurd rfl q)
  exact kk H locs ls ⟨Z1, SC1, SM1, f, hI1, swapP hP, swapD hD, hS, hl⟩

set_option maxHeartbeats 1000000 in
theorem law_list (hO : LwO p l R s m args c D d2 b L sa xs) (hi : i + 5 ≤ L) (hs : LwS s D aC aM d2 b o i H locs ls) (hc : cells ≤ R.cells ∧ slots ≤ R.slots)
    (kk : ∀ (H1 : Heap) (locs1 : List Loc) (ls1 : Array Slot), LwS s D aC aM d2 b o i H1 locs1 ls1 → W p l e R s m args below meth c H1 locs1 cells slots Q (F0 m 866 ls1 [])) : W p l e R s m args below meth c H locs cells slots Q (F0 m 498 ls []) := by
  obtain ⟨hx, hb, hml, hown, hts, hN, hK, hX, hbl, hT, hlt, hRf, hRl, hL⟩ := hO
  obtain ⟨Z, SC, SM, f, hI, hP, hD, hS, hl⟩ := hs
  have hA : ∀ q : Nat, s.heap.size ≤ q → s.heap.size ≤ q := fun _ h => h
  obtain ⟨r, SC1, SM1, Z1, h1, h2, hI1⟩ := sm_list (xs (i + 1)) Z SC SM hI
  refine lv_aload_n hx hb dL_law_498 rfl (lv_at hl 2 rfl) ?_
  refine ldN (k := 1) (pc := 499) hx hb hX hbl hS hL hi (by decide) rfl (lv_at hl 1 rfl) (lv_at hl 0 rfl) dL_law_499 dL_law_500 dL_law_502 dL_law_503 dL_law_504 ?_
  refine fr_callV (wr := roL o (aC, d2) f ++ wlM (aM, d2) SM) (wl := wlC) (d := (aC, d2)) (S := SC) (S1 := SC1) (q := 0) (As := [.int (xs (i + 1))]) (st := []) (r := some (.int r)) wadC hx hb hml hown hts hN hK hP hD hS hA lkL_65 obX4 (m_X4_list (xs (i + 1)) SC r SC1 h1) rfl (Nat.le_of_ble_eq_true rfl) (Nat.le_trans (Nat.le_of_ble_eq_true rfl) hRf) (Nat.le_trans (Nat.le_of_ble_eq_true rfl) hRl) hl.1 hc dL_law_505 rfl (fun H locs hP hD hS => ?_)
  refine lv_aload_n hx hb dL_law_508 rfl (lv_at hl 3 rfl) ?_
  refine ldN (k := 1) (pc := 509) hx hb hX hbl hS hL hi (by decide) rfl (lv_at hl 1 rfl) (lv_at hl 0 rfl) dL_law_509 dL_law_510 dL_law_512 dL_law_513 dL_law_514 ?_
  refine fr_callV (wr := roL o (aC, d2) f ++ wlC (aC, d2) SC1) (wl := wlM) (d := (aM, d2)) (S := SM) (S1 := SM1) (q := 0) (As := [.int (xs (i + 1))]) (st := [.int r]) (r := some (.int r)) wadM hx hb hml hown hts hN hK (swapP hP) (swapD hD) hS hA lkL_68 obX5 (m_X5_list (xs (i + 1)) SM r SM1 h2) rfl (Nat.le_of_ble_eq_true rfl) (Nat.le_trans (Nat.le_of_ble_eq_true rfl) hRf) (Nat.le_trans (Nat.le_of_ble_eq_true rfl) hRl) hl.1 hc dL_law_515 rfl (fun H locs hP hD hS => ?_)
  refine lv_icmp_eq (tgt := 866) hx hb dL_law_518 (by decide) (fun _ => ?_) (fun q => absurd rfl q)
  exact kk H locs ls ⟨Z1, SC1, SM1, f, hI1, swapP hP, swapD hD, hS, hl⟩

set_option maxHeartbeats 1000000 in
theorem law_done (hO : LwO p l R s m args c D d2 b L sa xs) (hi : i + 5 ≤ L) (hs : LwS s D aC aM d2 b o i H locs ls) (hc : cells ≤ R.cells ∧ slots ≤ R.slots)
    (kk : ∀ (H1 : Heap) (locs1 : List Loc) (ls1 : Array Slot), LwS s D aC aM d2 b o i H1 locs1 ls1 → W p l e R s m args below meth c H1 locs1 cells slots Q (F0 m 866 ls1 [])) : W p l e R s m args below meth c H locs cells slots Q (F0 m 523 ls []) := by
  obtain ⟨hx, hb, hml, hown, hts, hN, hK, hX, hbl, hT, hlt, hRf, hRl, hL⟩ := hO
  obtain ⟨Z, SC, SM, f, hI, hP, hD, hS, hl⟩ := hs
  have hA : ∀ q : Nat, s.heap.size ≤ q → s.heap.size ≤ q := fun _ h => h
  obtain ⟨r, SC1, SM1, Z1, h1, h2, hI1⟩ := sm_done  Z SC SM hI
  refine lv_aload_n hx hb dL_law_523 rfl (lv_at hl 2 rfl) ?_
  refine fr_callV (wr := roL o (aC, d2) f ++ wlM (aM, d2) SM) (wl := wlC) (d := (aC, d2)) (S := SC) (S1 := SC1) (q := 0) (As := []) (st := []) (r := some (.int r)) wadC hx hb hml hown hts hN hK hP hD hS hA lkL_69 obX4 (m_X4_done  SC r SC1 h1) rfl (Nat.le_of_ble_eq_true rfl) (Nat.le_trans (Nat.le_of_ble_eq_true rfl) hRf) (Nat.le_trans (Nat.le_of_ble_eq_true rfl) hRl) hl.1 hc dL_law_524 rfl (fun H locs hP hD hS => ?_)
  refine lv_aload_n hx hb dL_law_527 rfl (lv_at hl 3 rfl) ?_
  refine fr_callV (wr := roL o (aC, d2) f ++ wlC (aC, d2) SC1) (wl := wlM) (d := (aM, d2)) (S := SM) (S1 := SM1) (q := 0) (As := []) (st := [.int r]) (r := some (.int r)) wadM hx hb hml hown hts hN hK (swapP hP) (swapD hD) hS hA lkL_72 obX5 (m_X5_done  SM r SM1 h2) rfl (Nat.le_of_ble_eq_true rfl) (Nat.le_trans (Nat.le_of_ble_eq_true rfl) hRf) (Nat.le_trans (Nat.le_of_ble_eq_true rfl) hRl) hl.1 hc dL_law_528 rfl (fun H locs hP hD hS => ?_)
  refine lv_icmp_eq (tgt := 866) hx hb dL_law_531 (by decide) (fun _ => ?_) (fun q => absurd rfl q)
  exact kk H locs ls ⟨Z1, SC1, SM1, f, hI1, swapP hP, swapD hD, hS, hl⟩

set_option maxHeartbeats 1000000 in
theorem law_states (hO : LwO p l R s m args c D d2 b L sa xs) (hi : i + 5 ≤ L) (hs : LwS s D aC aM d2 b o i H locs ls) (hc : cells ≤ R.cells ∧ slots ≤ R.slots)
    (kk : ∀ (H1 : Heap) (locs1 : List Loc) (ls1 : Array Slot), LwS s D aC aM d2 b o i H1 locs1 ls1 → W p l e R s m args below meth c H1 locs1 cells slots Q (F0 m 866 ls1 [])) : W p l e R s m args below meth c H locs cells slots Q (F0 m 536 ls []) := by
  obtain ⟨hx, hb, hml, hown, hts, hN, hK, hX, hbl, hT, hlt, hRf, hRl, hL⟩ := hO
  obtain ⟨Z, SC, SM, f, hI, hP, hD, hS, hl⟩ := hs
  have hA : ∀ q : Nat, s.heap.size ≤ q → s.heap.size ≤ q := fun _ h => h
  obtain ⟨r, SC1, SM1, Z1, h1, h2, hI1⟩ := sm_states (xs (i + 1)) (xs (i + 2)) Z SC SM hI
  refine lv_aload_n hx hb dL_law_536 rfl (lv_at hl 2 rfl) ?_
  refine ldN (k := 1) (pc := 537) hx hb hX hbl hS hL hi (by decide) rfl (lv_at hl 1 rfl) (lv_at hl 0 rfl) dL_law_537 dL_law_538 dL_law_540 dL_law_541 dL_law_542 ?_
  refine ldN (k := 2) (pc := 543) hx hb hX hbl hS hL hi (by decide) rfl (lv_at hl 1 rfl) (lv_at hl 0 rfl) dL_law_543 dL_law_544 dL_law_546 dL_law_547 dL_law_548 ?_
  refine fr_callV (wr := roL o (aC, d2) f ++ wlM (aM, d2) SM) (wl := wlC) (d := (aC, d2)) (S := SC) (S1 := SC1) (q := 0) (As := [.int (xs (i + 1)), .int (xs (i + 2))]) (st := []) (r := some (.int r)) wadC hx hb hml hown hts hN hK hP hD hS hA lkL_73 obX4 (m_X4_states (xs (i + 1)) (xs (i + 2)) SC r SC1 h1) rfl (Nat.le_of_ble_eq_true rfl) (Nat.le_trans (Nat.le_of_ble_eq_true rfl) hRf) (Nat.le_trans (Nat.le_of_ble_eq_true rfl) hRl) hl.1 hc dL_law_549 rfl (fun H locs hP hD hS => ?_)
  refine lv_aload_n hx hb dL_law_552 rfl (lv_at hl 3 rfl) ?_
  refine ldN (k := 1) (pc := 553) hx hb hX hbl hS hL hi (by decide) rfl (lv_at hl 1 rfl) (lv_at hl 0 rfl) dL_law_553 dL_law_554 dL_law_556 dL_law_557 dL_law_558 ?_
  refine ldN (k := 2) (pc := 559) hx hb hX hbl hS hL hi (by decide) rfl (lv_at hl 1 rfl) (lv_at hl 0 rfl) dL_law_559 dL_law_560 dL_law_562 dL_law_563 dL_law_564 ?_
  refine fr_callV (wr := roL o (aC, d2) f ++ wlC (aC, d2) SC1) (wl := wlM) (d := (aM, d2)) (S := SM) (S1 := SM1) (q := 0) (As := [.int (xs (i + 1)), .int (xs (i + 2))]) (st := [.int r]) (r := some (.int r)) wadM hx hb hml hown hts hN hK (swapP hP) (swapD hD) hS hA lkL_76 obX5 (m_X5_states (xs (i + 1)) (xs (i + 2)) SM r SM1 h2) rfl (Nat.le_of_ble_eq_true rfl) (Nat.le_trans (Nat.le_of_ble_eq_true rfl) hRf) (Nat.le_trans (Nat.le_of_ble_eq_true rfl) hRl) hl.1 hc dL_law_565 rfl (fun H locs hP hD hS => ?_)
  refine lv_icmp_eq (tgt := 866) hx hb dL_law_568 (by decide) (fun _ => ?_) (fun q => absurd rfl q)
  exact kk H locs ls ⟨Z1, SC1, SM1, f, hI1, swapP hP, swapD hD, hS, hl⟩

set_option maxHeartbeats 1000000 in
theorem law_code (hO : LwO p l R s m args c D d2 b L sa xs) (hi : i + 5 ≤ L) (hs : LwS s D aC aM d2 b o i H locs ls) (hc : cells ≤ R.cells ∧ slots ≤ R.slots)
    (kk : ∀ (H1 : Heap) (locs1 : List Loc) (ls1 : Array Slot), LwS s D aC aM d2 b o i H1 locs1 ls1 → W p l e R s m args below meth c H1 locs1 cells slots Q (F0 m 866 ls1 [])) : W p l e R s m args below meth c H locs cells slots Q (F0 m 573 ls []) := by
  obtain ⟨hx, hb, hml, hown, hts, hN, hK, hX, hbl, hT, hlt, hRf, hRl, hL⟩ := hO
  obtain ⟨Z, SC, SM, f, hI, hP, hD, hS, hl⟩ := hs
  have hA : ∀ q : Nat, s.heap.size ≤ q → s.heap.size ≤ q := fun _ h => h
  obtain ⟨r, SC1, SM1, Z1, h1, h2, hI1⟩ := sm_code (xs (i + 1)) (xs (i + 2)) Z SC SM hI
  refine lv_aload_n hx hb dL_law_573 rfl (lv_at hl 2 rfl) ?_
  refine ldN (k := 1) (pc := 574) hx hb hX hbl hS hL hi (by decide) rfl (lv_at hl 1 rfl) (lv_at hl 0 rfl) dL_law_574 dL_law_575 dL_law_577 dL_law_578 dL_law_579 ?_
  refine ldN (k := 2) (pc := 580) hx hb hX hbl hS hL hi (by decide) rfl (lv_at hl 1 rfl) (lv_at hl 0 rfl) dL_law_580 dL_law_581 dL_law_583 dL_law_584 dL_law_585 ?_
  refine fr_callV (wr := roL o (aC, d2) f ++ wlM (aM, d2) SM) (wl := wlC) (d := (aC, d2)) (S := SC) (S1 := SC1) (q := 0) (As := [.int (xs (i + 1)), .int (xs (i + 2))]) (st := []) (r := some (.int r)) wadC hx hb hml hown hts hN hK hP hD hS hA lkL_77 obX4 (m_X4_code (xs (i + 1)) (xs (i + 2)) SC r SC1 h1) rfl (Nat.le_of_ble_eq_true rfl) (Nat.le_trans (Nat.le_of_ble_eq_true rfl) hRf) (Nat.le_trans (Nat.le_of_ble_eq_true rfl) hRl) hl.1 hc dL_law_586 rfl (fun H locs hP hD hS => ?_)
  refine lv_aload_n hx hb dL_law_589 rfl (lv_at hl 3 rfl) ?_
  refine ldN (k := 1) (pc := 590) hx hb hX hbl hS hL hi (by decide) rfl (lv_at hl 1 rfl) (lv_at hl 0 rfl) dL_law_590 dL_law_591 dL_law_593 dL_law_594 dL_law_595 ?_
  refine ldN (k := 2) (pc := 596) hx hb hX hbl hS hL hi (by decide) rfl (lv_at hl 1 rfl) (lv_at hl 0 rfl) dL_law_596 dL_law_597 dL_law_599 dL_law_600 dL_law_601 ?_
  refine fr_callV (wr := roL o (aC, d2) f ++ wlC (aC, d2) SC1) (wl := wlM) (d := (aM, d2)) (S := SM) (S1 := SM1) (q := 0) (As := [.int (xs (i + 1)), .int (xs (i + 2))]) (st := [.int r]) (r := some (.int r)) wadM hx hb hml hown hts hN hK (swapP hP) (swapD hD) hS hA lkL_80 obX5 (m_X5_code (xs (i + 1)) (xs (i + 2)) SM r SM1 h2) rfl (Nat.le_of_ble_eq_true rfl) (Nat.le_trans (Nat.le_of_ble_eq_true rfl) hRf) (Nat.le_trans (Nat.le_of_ble_eq_true rfl) hRl) hl.1 hc dL_law_602 rfl (fun H locs hP hD hS => ?_)
  refine lv_icmp_eq (tgt := 866) hx hb dL_law_605 (by decide) (fun _ => ?_) (fun q => absurd rfl q)
  exact kk H locs ls ⟨Z1, SC1, SM1, f, hI1, swapP hP, swapD hD, hS, hl⟩

set_option maxHeartbeats 1000000 in
theorem law_mass (hO : LwO p l R s m args c D d2 b L sa xs) (hi : i + 5 ≤ L) (hs : LwS s D aC aM d2 b o i H locs ls) (hc : cells ≤ R.cells ∧ slots ≤ R.slots)
    (kk : ∀ (H1 : Heap) (locs1 : List Loc) (ls1 : Array Slot), LwS s D aC aM d2 b o i H1 locs1 ls1 → W p l e R s m args below meth c H1 locs1 cells slots Q (F0 m 866 ls1 [])) : W p l e R s m args below meth c H locs cells slots Q (F0 m 610 ls []) := by
  obtain ⟨hx, hb, hml, hown, hts, hN, hK, hX, hbl, hT, hlt, hRf, hRl, hL⟩ := hO
  obtain ⟨Z, SC, SM, f, hI, hP, hD, hS, hl⟩ := hs
  have hA : ∀ q : Nat, s.heap.size ≤ q → s.heap.size ≤ q := fun _ h => h
  obtain ⟨r, SC1, SM1, Z1, h1, h2, hI1⟩ := sm_mass (xs (i + 1)) (xs (i + 2)) Z SC SM hI
  refine lv_aload_n hx hb dL_law_610 rfl (lv_at hl 2 rfl) ?_
  refine ldN (k := 1) (pc := 611) hx hb hX hbl hS hL hi (by decide) rfl (lv_at hl 1 rfl) (lv_at hl 0 rfl) dL_law_611 dL_law_612 dL_law_614 dL_law_615 dL_law_616 ?_
  refine ldN (k := 2) (pc := 617) hx hb hX hbl hS hL hi (by decide) rfl (lv_at hl 1 rfl) (lv_at hl 0 rfl) dL_law_617 dL_law_618 dL_law_620 dL_law_621 dL_law_622 ?_
  refine fr_callV (wr := roL o (aC, d2) f ++ wlM (aM, d2) SM) (wl := wlC) (d := (aC, d2)) (S := SC) (S1 := SC1) (q := 0) (As := [.int (xs (i + 1)), .int (xs (i + 2))]) (st := []) (r := some (.long r)) wadC hx hb hml hown hts hN hK hP hD hS hA lkL_81 obX4 (m_X4_mass (xs (i + 1)) (xs (i + 2)) SC r SC1 h1) rfl (Nat.le_of_ble_eq_true rfl) (Nat.le_trans (Nat.le_of_ble_eq_true rfl) hRf) (Nat.le_trans (Nat.le_of_ble_eq_true rfl) hRl) hl.1 hc dL_law_623 rfl (fun H locs hP hD hS => ?_)
  refine lv_aload_n hx hb dL_law_626 rfl (lv_at hl 3 rfl) ?_
  refine ldN (k := 1) (pc := 627) hx hb hX hbl hS hL hi (by decide) rfl (lv_at hl 1 rfl) (lv_at hl 0 rfl) dL_law_627 dL_law_628 dL_law_630 dL_law_631 dL_law_632 ?_
  refine ldN (k := 2) (pc := 633) hx hb hX hbl hS hL hi (by decide) rfl (lv_at hl 1 rfl) (lv_at hl 0 rfl) dL_law_633 dL_law_634 dL_law_636 dL_law_637 dL_law_638 ?_
  refine fr_callV (wr := roL o (aC, d2) f ++ wlC (aC, d2) SC1) (wl := wlM) (d := (aM, d2)) (S := SM) (S1 := SM1) (q := 0) (As := [.int (xs (i + 1)), .int (xs (i + 2))]) (st := [.long r]) (r := some (.long r)) wadM hx hb hml hown hts hN hK (swapP hP) (swapD hD) hS hA lkL_85 obX5 (m_X5_mass (xs (i + 1)) (xs (i + 2)) SM r SM1 h2) rfl (Nat.le_of_ble_eq_true rfl) (Nat.le_trans (Nat.le_of_ble_eq_true rfl) hRf) (Nat.le_trans (Nat.le_of_ble_eq_true rfl) hRl) hl.1 hc dL_law_639 rfl (fun H locs hP hD hS => ?_)
  refine W.lcmp hx hb dL_law_642 ?_
  refine lv_if_eq (tgt := 866) hx hb dL_law_643 (by decide) (fun _ => ?_) (fun q => absurd (zeq rfl) q)
  exact kk H locs ls ⟨Z1, SC1, SM1, f, hI1, swapP hP, swapD hD, hS, hl⟩

set_option maxHeartbeats 1000000 in
theorem law_sum (hO : LwO p l R s m args c D d2 b L sa xs) (hi : i + 5 ≤ L) (hs : LwS s D aC aM d2 b o i H locs ls) (hc : cells ≤ R.cells ∧ slots ≤ R.slots)
    (kk : ∀ (H1 : Heap) (locs1 : List Loc) (ls1 : Array Slot), LwS s D aC aM d2 b o i H1 locs1 ls1 → W p l e R s m args below meth c H1 locs1 cells slots Q (F0 m 866 ls1 [])) : W p l e R s m args below meth c H locs cells slots Q (F0 m 648 ls []) := by
  obtain ⟨hx, hb, hml, hown, hts, hN, hK, hX, hbl, hT, hlt, hRf, hRl, hL⟩ := hO
  obtain ⟨Z, SC, SM, f, hI, hP, hD, hS, hl⟩ := hs
  have hA : ∀ q : Nat, s.heap.size ≤ q → s.heap.size ≤ q := fun _ h => h
  obtain ⟨r, SC1, SM1, Z1, h1, h2, hI1⟩ := sm_sum (xs (i + 1)) (xs (i + 2)) (xs (i + 3)) Z SC SM hI
  refine lv_aload_n hx hb dL_law_648 rfl (lv_at hl 2 rfl) ?_
  refine ldN (k := 1) (pc := 649) hx hb hX hbl hS hL hi (by decide) rfl (lv_at hl 1 rfl) (lv_at hl 0 rfl) dL_law_649 dL_law_650 dL_law_652 dL_law_653 dL_law_654 ?_
  refine ldN (k := 2) (pc := 655) hx hb hX hbl hS hL hi (by decide) rfl (lv_at hl 1 rfl) (lv_at hl 0 rfl) dL_law_655 dL_law_656 dL_law_658 dL_law_659 dL_law_660 ?_
  refine ldN (k := 3) (pc := 661) hx hb hX hbl hS hL hi (by decide) rfl (lv_at hl 1 rfl) (lv_at hl 0 rfl) dL_law_661 dL_law_662 dL_law_664 dL_law_665 dL_law_666 ?_
  refine fr_callV (wr := roL o (aC, d2) f ++ wlM (aM, d2) SM) (wl := wlC) (d := (aC, d2)) (S := SC) (S1 := SC1) (q := 0) (As := [.int (xs (i + 1)), .int (xs (i + 2)), .int (xs (i + 3))]) (st := []) (r := some (.long r)) wadC hx hb hml hown hts hN hK hP hD hS hA lkL_86 obX4 (m_X4_sum (xs (i + 1)) (xs (i + 2)) (xs (i + 3)) SC r SC1 h1) rfl (Nat.le_of_ble_eq_true rfl) (Nat.le_trans (Nat.le_of_ble_eq_true rfl) hRf) (Nat.le_trans (Nat.le_of_ble_eq_true rfl) hRl) hl.1 hc dL_law_667 rfl (fun H locs hP hD hS => ?_)
  refine lv_aload_n hx hb dL_law_670 rfl (lv_at hl 3 rfl) ?_
  refine ldN (k := 1) (pc := 671) hx hb hX hbl hS hL hi (by decide) rfl (lv_at hl 1 rfl) (lv_at hl 0 rfl) dL_law_671 dL_law_672 dL_law_674 dL_law_675 dL_law_676 ?_
  refine ldN (k := 2) (pc := 677) hx hb hX hbl hS hL hi (by decide) rfl (lv_at hl 1 rfl) (lv_at hl 0 rfl) dL_law_677 dL_law_678 dL_law_680 dL_law_681 dL_law_682 ?_
  refine ldN (k := 3) (pc := 683) hx hb hX hbl hS hL hi (by decide) rfl (lv_at hl 1 rfl) (lv_at hl 0 rfl) dL_law_683 dL_law_684 dL_law_686 dL_law_687 dL_law_688 ?_
  refine fr_callV (wr := roL o (aC, d2) f ++ wlC (aC, d2) SC1) (wl := wlM) (d := (aM, d2)) (S := SM) (S1 := SM1) (q := 0) (As := [.int (xs (i + 1)), .int (xs (i + 2)), .int (xs (i + 3))]) (st := [.long r]) (r := some (.long r)) wadM hx hb hml hown hts hN hK (swapP hP) (swapD hD) hS hA lkL_89 obX5 (m_X5_sum (xs (i + 1)) (xs (i + 2)) (xs (i + 3)) SM r SM1 h2) rfl (Nat.le_of_ble_eq_true rfl) (Nat.le_trans (Nat.le_of_ble_eq_true rfl) hRf) (Nat.le_trans (Nat.le_of_ble_eq_true rfl) hRl) hl.1 hc dL_law_689 rfl (fun H locs hP hD hS => ?_)
  refine W.lcmp hx hb dL_law_692 ?_
  refine lv_if_eq (tgt := 866) hx hb dL_law_693 (by decide) (fun _ => ?_) (fun q => absurd (zeq rfl) q)
  exact kk H locs ls ⟨Z1, SC1, SM1, f, hI1, swapP hP, swapD hD, hS, hl⟩

set_option maxHeartbeats 1000000 in
theorem law_runs (hO : LwO p l R s m args c D d2 b L sa xs) (hi : i + 5 ≤ L) (hs : LwS s D aC aM d2 b o i H locs ls) (hc : cells ≤ R.cells ∧ slots ≤ R.slots)
    (kk : ∀ (H1 : Heap) (locs1 : List Loc) (ls1 : Array Slot), LwS s D aC aM d2 b o i H1 locs1 ls1 → W p l e R s m args below meth c H1 locs1 cells slots Q (F0 m 866 ls1 [])) : W p l e R s m args below meth c H locs cells slots Q (F0 m 777 ls []) := by
  obtain ⟨hx, hb, hml, hown, hts, hN, hK, hX, hbl, hT, hlt, hRf, hRl, hL⟩ := hO
  obtain ⟨Z, SC, SM, f, hI, hP, hD, hS, hl⟩ := hs
  have hA : ∀ q : Nat, s.heap.size ≤ q → s.heap.size ≤ q := fun _ h => h
  obtain ⟨r, SC1, SM1, Z1, h1, h2, hI1⟩ := sm_runs  Z SC SM hI
  refine lv_aload_n hx hb dL_law_777 rfl (lv_at hl 2 rfl) ?_
  refine fr_callV (wr := roL o (aC, d2) f ++ wlM (aM, d2) SM) (wl := wlC) (d := (aC, d2)) (S := SC) (S1 := SC1) (q := 0) (As := []) (st := []) (r := some (.int r)) wadC hx hb hml hown hts hN hK hP hD hS hA lkL_99 obX4 (m_X4_runs  SC r SC1 h1) rfl (Nat.le_of_ble_eq_true rfl) (Nat.le_trans (Nat.le_of_ble_eq_true rfl) hRf) (Nat.le_trans (Nat.le_of_ble_eq_true rfl) hRl) hl.1 hc dL_law_778 rfl (fun H locs hP hD hS => ?_)
  refine lv_aload_n hx hb dL_law_781 rfl (lv_at hl 3 rfl) ?_
  refine fr_callV (wr := roL o (aC, d2) f ++ wlC (aC, d2) SC1) (wl := wlM) (d := (aM, d2)) (S := SM) (S1 := SM1) (q := 0) (As := []) (st := [.int r]) (r := some (.int r)) wadM hx hb hml hown hts hN hK (swapP hP) (swapD hD) hS hA lkL_102 obX5 (m_X5_runs  SM r SM1 h2) rfl (Nat.le_of_ble_eq_true rfl) (Nat.le_trans (Nat.le_of_ble_eq_true rfl) hRf) (Nat.le_trans (Nat.le_of_ble_eq_true rfl) hRl) hl.1 hc dL_law_782 rfl (fun H locs hP hD hS => ?_)
  refine lv_icmp_eq (tgt := 866) hx hb dL_law_785 (by decide) (fun _ => ?_) (fun q => absurd rfl q)
  exact kk H locs ls ⟨Z1, SC1, SM1, f, hI1, swapP hP, swapD hD, hS, hl⟩

set_option maxHeartbeats 1000000 in
theorem law_plain (hO : LwO p l R s m args c D d2 b L sa xs) (hi : i + 5 ≤ L) (hs : LwS s D aC aM d2 b o i H locs ls) (hc : cells ≤ R.cells ∧ slots ≤ R.slots)
    (kk : ∀ (H1 : Heap) (locs1 : List Loc) (ls1 : Array Slot), LwS s D aC aM d2 b o i H1 locs1 ls1 → W p l e R s m args below meth c H1 locs1 cells slots Q (F0 m 866 ls1 [])) : W p l e R s m args below meth c H locs cells slots Q (F0 m 790 ls []) := by
  obtain ⟨hx, hb, hml, hown, hts, hN, hK, hX, hbl, hT, hlt, hRf, hRl, hL⟩ := hO
  obtain ⟨Z, SC, SM, f, hI, hP, hD, hS, hl⟩ := hs
  have hA : ∀ q : Nat, s.heap.size ≤ q → s.heap.size ≤ q := fun _ h => h
  obtain ⟨r, SC1, SM1, Z1, h1, h2, hI1⟩ := sm_plain (xs (i + 1)) (xs (i + 2)) Z SC SM hI
  refine lv_aload_n hx hb dL_law_790 rfl (lv_at hl 2 rfl) ?_
  refine ldN (k := 1) (pc := 791) hx hb hX hbl hS hL hi (by decide) rfl (lv_at hl 1 rfl) (lv_at hl 0 rfl) dL_law_791 dL_law_792 dL_law_794 dL_law_795 dL_law_796 ?_
  refine ldN (k := 2) (pc := 797) hx hb hX hbl hS hL hi (by decide) rfl (lv_at hl 1 rfl) (lv_at hl 0 rfl) dL_law_797 dL_law_798 dL_law_800 dL_law_801 dL_law_802 ?_
  refine fr_callV (wr := roL o (aC, d2) f ++ wlM (aM, d2) SM) (wl := wlC) (d := (aC, d2)) (S := SC) (S1 := SC1) (q := 0) (As := [.int (xs (i + 1)), .int (xs (i + 2))]) (st := []) (r := some (.long r)) wadC hx hb hml hown hts hN hK hP hD hS hA lkL_103 obX4 (m_X4_plain (xs (i + 1)) (xs (i + 2)) SC r SC1 h1) rfl (Nat.le_of_ble_eq_true rfl) (Nat.le_trans (Nat.le_of_ble_eq_true rfl) hRf) (Nat.le_trans (Nat.le_of_ble_eq_true rfl) hRl) hl.1 hc dL_law_803 rfl (fun H locs hP hD hS => ?_)
  refine lv_aload_n hx hb dL_law_806 rfl (lv_at hl 3 rfl) ?_
  refine ldN (k := 1) (pc := 807) hx hb hX hbl hS hL hi (by decide) rfl (lv_at hl 1 rfl) (lv_at hl 0 rfl) dL_law_807 dL_law_808 dL_law_810 dL_law_811 dL_law_812 ?_
  refine ldN (k := 2) (pc := 813) hx hb hX hbl hS hL hi (by decide) rfl (lv_at hl 1 rfl) (lv_at hl 0 rfl) dL_law_813 dL_law_814 dL_law_816 dL_law_817 dL_law_818 ?_
  refine fr_callV (wr := roL o (aC, d2) f ++ wlC (aC, d2) SC1) (wl := wlM) (d := (aM, d2)) (S := SM) (S1 := SM1) (q := 0) (As := [.int (xs (i + 1)), .int (xs (i + 2))]) (st := [.long r]) (r := some (.long r)) wadM hx hb hml hown hts hN hK (swapP hP) (swapD hD) hS hA lkL_106 obX5 (m_X5_plain (xs (i + 1)) (xs (i + 2)) SM r SM1 h2) rfl (Nat.le_of_ble_eq_true rfl) (Nat.le_trans (Nat.le_of_ble_eq_true rfl) hRf) (Nat.le_trans (Nat.le_of_ble_eq_true rfl) hRl) hl.1 hc dL_law_819 rfl (fun H locs hP hD hS => ?_)
  refine W.lcmp hx hb dL_law_822 ?_
  refine lv_if_eq (tgt := 866) hx hb dL_law_823 (by decide) (fun _ => ?_) (fun q => absurd (zeq rfl) q)
  exact kk H locs ls ⟨Z1, SC1, SM1, f, hI1, swapP hP, swapD hD, hS, hl⟩

set_option maxHeartbeats 1000000 in
theorem law_count (hO : LwO p l R s m args c D d2 b L sa xs) (hi : i + 5 ≤ L) (hs : LwS s D aC aM d2 b o i H locs ls) (hc : cells ≤ R.cells ∧ slots ≤ R.slots)
    (kk : ∀ (H1 : Heap) (locs1 : List Loc) (ls1 : Array Slot), LwS s D aC aM d2 b o i H1 locs1 ls1 → W p l e R s m args below meth c H1 locs1 cells slots Q (F0 m 866 ls1 [])) : W p l e R s m args below meth c H locs cells slots Q (F0 m 828 ls []) := by
  obtain ⟨hx, hb, hml, hown, hts, hN, hK, hX, hbl, hT, hlt, hRf, hRl, hL⟩ := hO
  obtain ⟨Z, SC, SM, f, hI, hP, hD, hS, hl⟩ := hs
  have hA : ∀ q : Nat, s.heap.size ≤ q → s.heap.size ≤ q := fun _ h => h
  obtain ⟨r, SC1, SM1, Z1, h1, h2, hI1⟩ := sm_count (xs (i + 1)) Z SC SM hI
  refine lv_aload_n hx hb dL_law_828 rfl (lv_at hl 2 rfl) ?_
  refine ldN (k := 1) (pc := 829) hx hb hX hbl hS hL hi (by decide) rfl (lv_at hl 1 rfl) (lv_at hl 0 rfl) dL_law_829 dL_law_830 dL_law_832 dL_law_833 dL_law_834 ?_
  refine fr_callV (wr := roL o (aC, d2) f ++ wlM (aM, d2) SM) (wl := wlC) (d := (aC, d2)) (S := SC) (S1 := SC1) (q := 0) (As := [.int (xs (i + 1))]) (st := []) (r := some (.int r)) wadC hx hb hml hown hts hN hK hP hD hS hA lkL_107 obX4 (m_X4_count (xs (i + 1)) SC r SC1 h1) rfl (Nat.le_of_ble_eq_true rfl) (Nat.le_trans (Nat.le_of_ble_eq_true rfl) hRf) (Nat.le_trans (Nat.le_of_ble_eq_true rfl) hRl) hl.1 hc dL_law_835 rfl (fun H locs hP hD hS => ?_)
  refine lv_aload_n hx hb dL_law_838 rfl (lv_at hl 3 rfl) ?_
  refine ldN (k := 1) (pc := 839) hx hb hX hbl hS hL hi (by decide) rfl (lv_at hl 1 rfl) (lv_at hl 0 rfl) dL_law_839 dL_law_840 dL_law_842 dL_law_843 dL_law_844 ?_
  refine fr_callV (wr := roL o (aC, d2) f ++ wlC (aC, d2) SC1) (wl := wlM) (d := (aM, d2)) (S := SM) (S1 := SM1) (q := 0) (As := [.int (xs (i + 1))]) (st := [.int r]) (r := some (.int r)) wadM hx hb hml hown hts hN hK (swapP hP) (swapD hD) hS hA lkL_110 obX5 (m_X5_count (xs (i + 1)) SM r SM1 h2) rfl (Nat.le_of_ble_eq_true rfl) (Nat.le_trans (Nat.le_of_ble_eq_true rfl) hRf) (Nat.le_trans (Nat.le_of_ble_eq_true rfl) hRl) hl.1 hc dL_law_845 rfl (fun H locs hP hD hS => ?_)
  refine lv_icmp_eq (tgt := 866) hx hb dL_law_848 (by decide) (fun _ => ?_) (fun q => absurd rfl q)
  exact kk H locs ls ⟨Z1, SC1, SM1, f, hI1, swapP hP, swapD hD, hS, hl⟩

set_option maxHeartbeats 1000000 in
theorem law_clear (hO : LwO p l R s m args c D d2 b L sa xs) (hi : i + 5 ≤ L) (hs : LwS s D aC aM d2 b o i H locs ls) (hc : cells ≤ R.cells ∧ slots ≤ R.slots)
    (kk : ∀ (H1 : Heap) (locs1 : List Loc) (ls1 : Array Slot), LwS s D aC aM d2 b o i H1 locs1 ls1 → W p l e R s m args below meth c H1 locs1 cells slots Q (F0 m 866 ls1 [])) : W p l e R s m args below meth c H locs cells slots Q (F0 m 853 ls []) := by
  obtain ⟨hx, hb, hml, hown, hts, hN, hK, hX, hbl, hT, hlt, hRf, hRl, hL⟩ := hO
  obtain ⟨Z, SC, SM, f, hI, hP, hD, hS, hl⟩ := hs
  have hA : ∀ q : Nat, s.heap.size ≤ q → s.heap.size ≤ q := fun _ h => h
  obtain ⟨r, SC1, SM1, Z1, h1, h2, hI1⟩ := sm_clear  Z SC SM hI
  refine lv_aload_n hx hb dL_law_853 rfl (lv_at hl 2 rfl) ?_
  refine fr_callV (wr := roL o (aC, d2) f ++ wlM (aM, d2) SM) (wl := wlC) (d := (aC, d2)) (S := SC) (S1 := SC1) (q := 0) (As := []) (st := []) (r := some (.int r)) wadC hx hb hml hown hts hN hK hP hD hS hA lkL_111 obX4 (m_X4_clear  SC r SC1 h1) rfl (Nat.le_of_ble_eq_true rfl) (Nat.le_trans (Nat.le_of_ble_eq_true rfl) hRf) (Nat.le_trans (Nat.le_of_ble_eq_true rfl) hRl) hl.1 hc dL_law_854 rfl (fun H locs hP hD hS => ?_)
  refine lv_aload_n hx hb dL_law_857 rfl (lv_at hl 3 rfl) ?_
  refine fr_callV (wr := roL o (aC, d2) f ++ wlC (aC, d2) SC1) (wl := wlM) (d := (aM, d2)) (S := SM) (S1 := SM1) (q := 0) (As := []) (st := [.int r]) (r := some (.int r)) wadM hx hb hml hown hts hN hK (swapP hP) (swapD hD) hS hA lkL_114 obX5 (m_X5_clear  SM r SM1 h2) rfl (Nat.le_of_ble_eq_true rfl) (Nat.le_trans (Nat.le_of_ble_eq_true rfl) hRf) (Nat.le_trans (Nat.le_of_ble_eq_true rfl) hRl) hl.1 hc dL_law_858 rfl (fun H locs hP hD hS => ?_)
  refine lv_icmp_eq (tgt := 866) hx hb dL_law_861 (by decide) (fun _ => ?_) (fun q => absurd rfl q)
  exact kk H locs ls ⟨Z1, SC1, SM1, f, hI1, swapP hP, swapD hD, hS, hl⟩

theorem wsL : GoodIn TsG (va_wsS RL 90 yL_odds (Cond.codeWith yL_odds cL_odds 6 (some .int) hhL :: TsG)) := by
  intro w hw
  unfold va_wsS at hw
  rcases List.mem_append.mp hw with h | h
  · refine (fun z : w ∈ TsG => ⟨z, good_of_word (List.mem_filter.mp z).2⟩) ?_
    simp only [List.mem_cons, List.not_mem_nil, or_false] at h
    rcases h with rfl | rfl | rfl
    · first | exact T11 (i := 0) rfl rfl | exact T13 (i := 18) rfl rfl | exact T13 (i := 19) rfl rfl
    · first | exact T11 (i := 0) rfl rfl | exact T13 (i := 18) rfl rfl | exact T13 (i := 19) rfl rfl
    · first | exact T11 (i := 0) rfl rfl | exact T13 (i := 18) rfl rfl | exact T13 (i := 19) rfl rfl
  · exact TsG_goodW (T13 (i := 20) rfl rfl) w h
/-- behind the law's odds: the other cells stay -/
theorem fr_joinO {D : va_G} {A0 : Nat → Prop} {wr : va_W} {d : Dt} {S : St} {o : Nat} {f f1 : Nat → Int64} {H H1 : Heap} (hP : va_P D vwCl (wr ++ (roL o d f ++ wlC d S)) H) (hD : va_D A0 (wr ++ (roL o d f ++ wlC d S)))
    (hk : ∀ q : Nat, q < H.size → ¬ aO o d H.size q → H1[q]? = H[q]?) (hP1 : va_P D vwCl (roL o d f1 ++ wlC d S) H1) (hD1 : va_D (aO o d H.size) (roL o d f1 ++ wlC d S)) (hA : ∀ q, aO o d H.size q → A0 q) : va_P D vwCl (wr ++ (roL o d f1 ++ wlC d S)) H1 ∧ va_D A0 (wr ++ (roL o d f1 ++ wlC d S)) := by
  have hlt : ∀ (k : Nat) (x : Nat × va_E), wr[k]? = some x → x.1 < H.size := fun k x hx => ((P_app hP).1 k x hx).lt
  have hnd := D_nd.mp hD
  have hin : ∀ q, aO o d H.size q → q < H.size → ∃ e : va_E, (q, e) ∈ (roL o d f ++ wlC d S) := by
    intro q hq hl
    rcases hq with rfl | ⟨k, e, hq⟩ | hq
    · exact ⟨_, List.mem_cons_self⟩
    · obtain ⟨e', he'⟩ := wadC d st0 S k q e hq
      exact ⟨e', List.mem_cons_of_mem _ (List.mem_of_getElem? he')⟩
    · omega
  have hout : ∀ x ∈ wr, ¬ aO o d H.size x.1 := by
    intro x hx hq
    obtain ⟨k, hk'⟩ := List.getElem?_of_mem hx
    obtain ⟨e, he⟩ := hin x.1 hq (hlt k x hk')
    have h1 := hnd.1
    rw [List.map_append, List.nodup_append] at h1
    exact h1.2.2 x.1 (List.mem_map.mpr ⟨x, hx, rfl⟩) x.1 (List.mem_map.mpr ⟨(x.1, e), he, rfl⟩) rfl
  have hPr : va_P D vwCl wr H1 := (P_app hP).1.kept (fun k x hx => hk x.1 (hlt k x hx) (hout x (List.mem_of_getElem? hx)))
  refine ⟨hPr.app hP1, D_nd.mpr ⟨?_, fun x hx => ?_⟩⟩
  · have h1 := hnd.1
    rw [List.map_append] at h1 ⊢
    exact h1
  · rcases List.mem_append.mp hx with h | h
    · exact hnd.2 x (List.mem_append_left _ h)
    · exact hA _ ((D_nd.mp hD1).2 x h)
set_option maxHeartbeats 1000000 in
theorem law_odds (hO : LwO p l R s m args c D d2 b L sa xs) (hi : i + 5 ≤ L) (hs : LwS s D aC aM d2 b o i H locs ls) (hc : cells + 1 ≤ R.cells ∧ slots + 6 ≤ R.slots)
    (kk : ∀ (H1 : Heap) (locs1 : List Loc) (ls1 : Array Slot), LwS s D aC aM d2 b o i H1 locs1 ls1 → W p l e R s m args below meth c H1 locs1 (cells + 1) (slots + 6) Q (F0 m 866 ls1 [])) : W p l e R s m args below meth c H locs cells slots Q (F0 m 698 ls []) := by
  obtain ⟨hx, hb, hml, hown, hts, hN, hK, hX, hbl, hT, hlt, hRf, hRl, hL⟩ := hO
  obtain ⟨Z, SC, SM, f, hI, hP, hD, hS, hl⟩ := hs
  have hA : ∀ q : Nat, s.heap.size ≤ q → s.heap.size ≤ q := fun _ h => h
  obtain ⟨SM1, h12⟩ := sm_odds (xs (i + 1)) (xs (i + 2)) (xs (i + 3)) Z SC SM hI
  obtain ⟨k, f1, v, hodd, h2, h3, hI1, hv⟩ : ∃ (k : Int32) (f1 : Nat → Int64) (v : Int64), oddR (xs (i + 1)) (xs (i + 2)) (xs (i + 3)) SC f k f1 ∧ f_X5_odds (xs (i + 1)) (xs (i + 2)) (xs (i + 3)) SM = some (v, SM1) ∧ gI SM1 0 = k ∧ Inv Z SC SM1 ∧ (k = 0 → f1 0 = v) := by
    rcases h12 with ⟨r, a1, a2, a3, a4⟩ | ⟨a1, a2, a3, a4⟩
    · exact ⟨0, vp_updL f 0 r, r, Or.inl ⟨r, a1, rfl, rfl⟩, a2, a3, a4, fun _ => by simp [vp_updL]⟩
    · exact ⟨1, f, 0, Or.inr ⟨a1, rfl, rfl⟩, a2, a3, a4, fun h => absurd h (by decide)⟩
  refine lv_aload_n hx hb dL_law_698 rfl (lv_at hl 2 rfl) ?_
  refine ldN (k := 1) (pc := 699) hx hb hX hbl hS hL hi (by decide) rfl (lv_at hl 1 rfl) (lv_at hl 0 rfl) dL_law_699 dL_law_700 dL_law_702 dL_law_703 dL_law_704 ?_
  refine ldN (k := 2) (pc := 705) hx hb hX hbl hS hL hi (by decide) rfl (lv_at hl 1 rfl) (lv_at hl 0 rfl) dL_law_705 dL_law_706 dL_law_708 dL_law_709 dL_law_710 ?_
  refine ldN (k := 3) (pc := 711) hx hb hX hbl hS hL hi (by decide) rfl (lv_at hl 1 rfl) (lv_at hl 0 rfl) dL_law_711 dL_law_712 dL_law_714 dL_law_715 dL_law_716 ?_
  refine lv_aload_n hx hb dL_law_717 rfl (lv_at hl 4 rfl) ?_
  have hP1 : va_P D vwCl (wlM (aM, d2) SM ++ (roL o (aC, d2) f ++ wlC (aC, d2) SC)) H := P_perm (by unfold lwW; rw [← List.append_assoc]; exact List.Perm.append_right _ List.perm_append_comm) hP
  have hD1 : va_D (fun q => s.heap.size ≤ q) (wlM (aM, d2) SM ++ (roL o (aC, d2) f ++ wlC (aC, d2) SC)) := D_perm (by unfold lwW; rw [← List.append_assoc]; exact List.Perm.append_right _ List.perm_append_comm) hD
  have hPc := (P_app hP1).2
  have hDc : va_D (aO o (aC, d2) H.size) (roL o (aC, d2) f ++ wlC (aC, d2) SC) := aO_D ⟨(D_app hD1).1, (D_app hD1).2⟩
  have haO : ∀ q, aO o (aC, d2) H.size q → s.heap.size ≤ q := by
    intro q hq
    rcases hq with rfl | ⟨k, e, hq⟩ | hq
    · exact (D_app hD1).2 0 _ rfl
    · obtain ⟨e', he'⟩ := wadC (aC, d2) st0 SC k q e hq
      exact (D_app hD1).2 (k + 1) (q, e') he'
    · exact Nat.le_trans hS.1 hq
  have hpre : PreS s H (va_Pc [.ref (aC 0), .int (xs (i + 1)), .int (xs (i + 2)), .int (xs (i + 3)), .ref o] (fun U => U.heap.size = H.size ∧ va_P D vwCl (roL o (aC, d2) f ++ wlC (aC, d2) SC) U.heap ∧ va_K D vwCl (dtT (aC, d2)) U ∧ va_D (fun _ => True) (roL o (aC, d2) f ++ wlC (aC, d2) SC) ∧ NwU U ∧ TxU sa (aO o (aC, d2) H.size) U)) [.ref (aC 0), .int (xs (i + 1)), .int (xs (i + 2)), .int (xs (i + 3)), .ref o] := by
    refine ⟨fun a U g mk q => ?_, fun U hU hW => ⟨rfl, by rw [hU], by rw [hU]; exact hPc, va_K.moved hW.alike hK, ⟨hDc.1, fun _ _ _ => trivial⟩, hN.warm hW, hT.call hU hW (fun a h1 h2 => hS.2.1 a h1 h2) haO⟩⟩
    obtain ⟨q0, q1, qP, qK, qD, qN, qT⟩ := q
    exact ⟨q0, q1, qP, va_K.moved (u := U) (U := U.calling g mk a) (Vm.Alike.refl U.vm) qK, qD, NwU.same (s := U) (U := U.calling g mk a) rfl qN, TxU.same (s := U) (U := U.calling g mk a) rfl rfl qT⟩
  refine vx_calli (A0 := fun q => s.heap.size ≤ q) (rest := []) (vx_runSX (As := [.ref (aC 0), .int (xs (i + 1)), .int (xs (i + 2)), .int (xs (i + 3)), .ref o]) (rest := []) (g := F0 m 718 ls [.ref o, .int (xs (i + 3)), .int (xs (i + 2)), .int (xs (i + 1)), .ref (aC 0)]) ⟨hx, hb, hml, hown, hts⟩ (c_L_odds l hlt D (aC, d2) SC sa o (xs (i + 1)) (xs (i + 2)) (xs (i + 3)) f f1 k H.size hodd) (vx_cwSW 5 hts wsL rfl rfl rfl (by decide +kernel) ⟨Nat.le_trans (Nat.le_of_ble_eq_true rfl) hRf, Nat.le_trans (Nat.le_of_ble_eq_true rfl) hRl⟩) hpre rfl rfl hl.1 rfl (lv_room (Nat.le_of_ble_eq_true rfl)) dL_law_718 hc) hS (fun q _ h => haO q h) (fun q h => haO q h) (fun q _ h => haO q h) (fun E ce q9 u t H1 locs1 e1 al hp => hp.elim) (fun r u t H1 locs1 e1 al hr hB hz hk hS => ?_)
  subst hr
  obtain ⟨hP2, hD2⟩ := hB
  rw [e1] at hP2
  have hj : va_P D vwCl (wlM (aM, d2) SM ++ (roL o (aC, d2) f1 ++ wlC (aC, d2) SC)) H1 ∧ va_D (fun q => s.heap.size ≤ q) (wlM (aM, d2) SM ++ (roL o (aC, d2) f1 ++ wlC (aC, d2) SC)) := by
    refine fr_joinO hP1 hD1 hk hP2 hD2 haO
  obtain ⟨hP3, hD3⟩ := hj
  have hP4 : va_P D vwCl (lwW aC aM d2 o f1 SC SM) H1 := P_perm (by unfold lwW; rw [← List.append_assoc]; exact List.Perm.append_right _ List.perm_append_comm) hP3
  have hD4 : va_D (fun q => s.heap.size ≤ q) (lwW aC aM d2 o f1 SC SM) := D_perm (by unfold lwW; rw [← List.append_assoc]; exact List.Perm.append_right _ List.perm_append_comm) hD3
  refine lv_istore (lv' := (5, .int r) :: lwL aC aM b o i) hx hb dL_law_721 hl (by decide) rfl (fun ls hl => ?_)
  refine lv_aload_n hx hb dL_law_723 rfl (lv_at hl 4 rfl) ?_
  refine ldN (k := 1) (pc := 724) hx hb hX hbl hS hL hi (by decide) rfl (lv_at hl 2 rfl) (lv_at hl 1 rfl) dL_law_724 dL_law_725 dL_law_727 dL_law_728 dL_law_729 ?_
  refine ldN (k := 2) (pc := 730) hx hb hX hbl hS hL hi (by decide) rfl (lv_at hl 2 rfl) (lv_at hl 1 rfl) dL_law_730 dL_law_731 dL_law_733 dL_law_734 dL_law_735 ?_
  refine ldN (k := 3) (pc := 736) hx hb hX hbl hS hL hi (by decide) rfl (lv_at hl 2 rfl) (lv_at hl 1 rfl) dL_law_736 dL_law_737 dL_law_739 dL_law_740 dL_law_741 ?_
  refine fr_callV (wr := roL o (aC, d2) f1 ++ wlC (aC, d2) SC) (wl := wlM) (d := (aM, d2)) (S := SM) (S1 := SM1) (q := 0) (As := [.int (xs (i + 1)), .int (xs (i + 2)), .int (xs (i + 3))]) (st := []) (r := some (.long v)) wadM hx hb hml hown hts hN hK (swapP hP4) (swapD hD4) hS hA lkL_95 obX5 (m_X5_odds (xs (i + 1)) (xs (i + 2)) (xs (i + 3)) SM v SM1 h2) rfl (Nat.le_of_ble_eq_true rfl) (Nat.le_trans (Nat.le_of_ble_eq_true rfl) hRf) (Nat.le_trans (Nat.le_of_ble_eq_true rfl) hRl) hl.1 hc dL_law_742 rfl (fun H locs hP hD hS => ?_)
  refine lv_lstore (lv' := (6, .long v) :: (5, .int r) :: lwL aC aM b o i) hx hb dL_law_745 hl (by decide) rfl (fun ls hl => ?_)
  refine lv_aload_n hx hb dL_law_747 rfl (lv_at hl 5 rfl) ?_
  refine fr_callV (wr := roL o (aC, d2) f1 ++ wlC (aC, d2) SC) (wl := wlM) (d := (aM, d2)) (S := SM1) (S1 := SM1) (q := 0) (As := []) (st := []) (r := some (.int r)) wadM hx hb hml hown hts hN hK hP hD hS hA lkL_96 obX5 (m_X5_thrown SM1 r SM1 (by rw [← h3]; rfl)) rfl (Nat.le_of_ble_eq_true rfl) (Nat.le_trans (Nat.le_of_ble_eq_true rfl) hRf) (Nat.le_trans (Nat.le_of_ble_eq_true rfl) hRl) hl.1 hc dL_law_748 rfl (fun H locs hP hD hS => ?_)
  refine lv_iload hx hb dL_law_751 (lv_at hl 1 rfl) ?_
  refine lv_icmp_eq (tgt := 758) hx hb dL_law_753 (by decide) (fun _ => ?_) (fun q => absurd rfl q)
  have hlE : lv_has ls 8 (lwL aC aM b o i) := lv_sub hl [2, 3, 4, 5, 6] rfl
  have hfin : LwS s D aC aM d2 b o i H locs ls := ⟨Z, SC, SM1, f1, hI1, swapP hP, swapD hD, hS, hlE⟩
  refine lv_iload hx hb dL_law_758 (lv_at hl 1 rfl) ?_
  have hgo : W p l e R s m args below meth c H locs (cells + 1) (slots + 6) Q (F0 m 774 ls []) := lv_goto (tgt := 866) hx hb dL_law_774 (by decide) (kk H locs ls hfin)
  refine lv_if_ne (tgt := 774) hx hb dL_law_760 (by decide) (fun _ => hgo) (fun h0 => ?_)
  refine lv_aload_n hx hb dL_law_763 rfl (lv_at hl 6 rfl) ?_
  refine lv_iconst (v := 0) hx hb dL_law_764 (by decide) ?_
  refine va_lald (ws := (roL o (aC, d2) f1 ++ wlC (aC, d2) SC) ++ wlM (aM, d2) SM1) (f := f1) (i := 0) hx hb hK hP 0 1 rfl rfl (inB_in (by decide)) dL_law_765 ?_
  refine lv_lload hx hb dL_law_766 (lv_at hl 0 rfl) ?_
  refine W.lcmp hx hb dL_law_768 ?_
  exact lv_if_eq (tgt := 774) hx hb dL_law_769 (by decide) (fun _ => hgo) (fun q => absurd (zeq (hv h0)) q)

end LW
