/-! ===== the store of a side, the words of all methods, the judgement KJ ===== -/
/-- a side's store: int fields, long fields, int arrays, long arrays, each by a number -/
abbrev St : Type := (Nat → Int32) × (Nat → Int64) × (Nat → Nat → Int32) × (Nat → Nat → Int64)
def gI (S : St) (k : Nat) : Int32 := S.1 k
def gL (S : St) (k : Nat) : Int64 := S.2.1 k
def gA (S : St) (k : Nat) : Nat → Int32 := S.2.2.1 k
def gB (S : St) (k : Nat) : Nat → Int64 := S.2.2.2 k
def sI (S : St) (k : Nat) (v : Int32) : St := (fun j => if j = k then v else S.1 j, S.2.1, S.2.2.1, S.2.2.2)
def sL (S : St) (k : Nat) (v : Int64) : St := (S.1, fun j => if j = k then v else S.2.1 j, S.2.2.1, S.2.2.2)
def sA (S : St) (k : Nat) (f : Nat → Int32) : St := (S.1, S.2.1, fun j => if j = k then f else S.2.2.1 j, S.2.2.2)
def sB (S : St) (k : Nat) (f : Nat → Int64) : St := (S.1, S.2.1, S.2.2.1, fun j => if j = k then f else S.2.2.2 j)
theorem gI_sI (S : St) (k j : Nat) (v : Int32) : gI (sI S k v) j = if j = k then v else gI S j := rfl
theorem gI_sL (S : St) (k j : Nat) (v : Int64) : gI (sL S k v) j = gI S j := rfl
theorem gI_sA (S : St) (k j : Nat) (v : Nat → Int32) : gI (sA S k v) j = gI S j := rfl
theorem gI_sB (S : St) (k j : Nat) (v : Nat → Int64) : gI (sB S k v) j = gI S j := rfl
theorem gL_sI (S : St) (k j : Nat) (v : Int32) : gL (sI S k v) j = gL S j := rfl
theorem gL_sL (S : St) (k j : Nat) (v : Int64) : gL (sL S k v) j = if j = k then v else gL S j := rfl
theorem gL_sA (S : St) (k j : Nat) (v : Nat → Int32) : gL (sA S k v) j = gL S j := rfl
theorem gL_sB (S : St) (k j : Nat) (v : Nat → Int64) : gL (sB S k v) j = gL S j := rfl
theorem gA_sI (S : St) (k j : Nat) (v : Int32) : gA (sI S k v) j = gA S j := rfl
theorem gA_sL (S : St) (k j : Nat) (v : Int64) : gA (sL S k v) j = gA S j := rfl
theorem gA_sA (S : St) (k j : Nat) (v : Nat → Int32) : gA (sA S k v) j = if j = k then v else gA S j := rfl
theorem gA_sB (S : St) (k j : Nat) (v : Nat → Int64) : gA (sB S k v) j = gA S j := rfl
theorem gB_sI (S : St) (k j : Nat) (v : Int32) : gB (sI S k v) j = gB S j := rfl
theorem gB_sL (S : St) (k j : Nat) (v : Int64) : gB (sL S k v) j = gB S j := rfl
theorem gB_sA (S : St) (k j : Nat) (v : Nat → Int32) : gB (sA S k v) j = gB S j := rfl
theorem gB_sB (S : St) (k j : Nat) (v : Nat → Int64) : gB (sB S k v) j = if j = k then v else gB S j := rfl
/-- a test that stands where the machine itself would throw -/
def chk {α : Type} (b : Bool) (e : Option α) : Option α := if b = true then e else none
theorem chk_some {α : Type} {b : Bool} {e : Option α} {x : α} (h : chk b e = some x) : b = true ∧ e = some x := by
  unfold chk at h
  by_cases c : b = true
  · rw [if_pos c] at h
    exact ⟨c, h⟩
  · rw [if_neg c] at h
    cases h
theorem chk_t {α : Type} {b : Bool} {e : Option α} (h : b = true) : chk b e = e := if_pos h
/-- an index in its row -/
def inB (i : Int32) (n : Nat) : Bool := decide (0 ≤ i) && decide (i.toNatClampNeg < n)
theorem inB_in {i : Int32} {n : Nat} (h : inB i n = true) : vp_in i n := by
  simp only [inB, Bool.and_eq_true, decide_eq_true_eq] at h
  intro q
  rcases q with q | q
  · exact absurd h.1 (Int32.not_le.mpr q)
  · omega
/-- copying inside two rows -/
def cpB (sp dp n : Int32) (n0 n1 : Nat) : Bool := decide (0 ≤ sp) && (decide (0 ≤ dp) && (decide (0 ≤ n) && (decide (sp.toNatClampNeg + n.toNatClampNeg ≤ n0) && decide (dp.toNatClampNeg + n.toNatClampNeg ≤ n1))))
/-- the words that every method here carries: all of the tables' that stay -/
def TsG : List Cond := lw_tbl.filter goodWord
theorem TsG_of {w : Cond} (h : w ∈ lw_tbl) (g : goodWord w = true) : w ∈ TsG := List.mem_filter.mpr ⟨h, g⟩
theorem TsG_good {y : MethodName} {cc : ByteArray} {n : Nat} {rt : Option FieldType} (h : Cond.code y cc n rt ∈ TsG) : GoodIn TsG (Cond.code y cc n rt :: TsG) := by
  intro w hw
  rcases List.mem_cons.mp hw with rfl | hw
  · exact ⟨h, good_of_word (List.mem_filter.mp h).2⟩
  · exact ⟨hw, good_of_word (List.mem_filter.mp hw).2⟩
theorem T1_in {w : Cond} (h : w ∈ tables_1) (g : goodWord w = true) : w ∈ TsG := TsG_of (List.mem_append_right _ h) g
theorem T11 {i : Nat} {w : Cond} (h : tables_1_1[i]? = some w) (g : goodWord w = true) : w ∈ TsG := T1_in (List.mem_append_left _ (List.mem_of_getElem? h)) g
theorem T12 {i : Nat} {w : Cond} (h : tables_1_2[i]? = some w) (g : goodWord w = true) : w ∈ TsG := T1_in (List.mem_append_right _ (List.mem_append_left _ (List.mem_of_getElem? h))) g
theorem T13 {i : Nat} {w : Cond} (h : tables_1_3[i]? = some w) (g : goodWord w = true) : w ∈ TsG := T1_in (List.mem_append_right _ (List.mem_append_right _ (List.mem_append_left _ (List.mem_of_getElem? h)))) g
theorem T14 {i : Nat} {w : Cond} (h : tables_1_4[i]? = some w) (g : goodWord w = true) : w ∈ TsG := T1_in (List.mem_append_right _ (List.mem_append_right _ (List.mem_append_right _ (List.mem_of_getElem? h)))) g
theorem T10 {i : Nat} {w : Cond} (h : (k2_sels lw_privs)[i]? = some w) (g : goodWord w = true) : w ∈ TsG := TsG_of (List.mem_append_left _ (List.mem_of_getElem? h)) g
/-- the words of nest mates: they hold at every later state too, but in a way of their own -/
def isNest : Cond → Bool
  | .fieldLinkNest .. => true
  | .methodLinkNest .. => true
  | _ => false
def NsG : List Cond := lw_tbl.filter isNest
def NwU (U : State) : Prop := ∀ w ∈ NsG, va_Nw w U
theorem NwU.warm {s U : State} (hW : s.WarmedH U.vm) (h : NwU s) : NwU U := by
  intro w hw
  have h1 := h w hw
  have h2 := (List.mem_filter.mp hw).2
  cases w <;> first | exact va_Nw.warmF hW h1 | exact va_Nw.warmM hW h1 | (simp [isNest] at h2; done)
theorem NwU.same {s U : State} (hv : s.vm = U.vm) (h : NwU s) : NwU U := by
  intro w hw
  have h1 := h w hw
  have h2 := (List.mem_filter.mp hw).2
  cases w <;> first | exact va_Nw.same rfl hv h1 | (simp [isNest] at h2; done)
theorem NsG_of {w : Cond} (h : w ∈ lw_tbl) (g : isNest w = true) : w ∈ NsG := List.mem_filter.mpr ⟨h, g⟩
theorem N11 {i : Nat} {w : Cond} (h : tables_1_1[i]? = some w) (g : isNest w = true) : w ∈ NsG := NsG_of (List.mem_append_right _ (List.mem_append_left _ (List.mem_of_getElem? h))) g
theorem N12 {i : Nat} {w : Cond} (h : tables_1_2[i]? = some w) (g : isNest w = true) : w ∈ NsG := NsG_of (List.mem_append_right _ (List.mem_append_right _ (List.mem_append_left _ (List.mem_of_getElem? h)))) g
theorem N13 {i : Nat} {w : Cond} (h : tables_1_3[i]? = some w) (g : isNest w = true) : w ∈ NsG := NsG_of (List.mem_append_right _ (List.mem_append_right _ (List.mem_append_right _ (List.mem_append_left _ (List.mem_of_getElem? h))))) g
theorem N14 {i : Nat} {w : Cond} (h : tables_1_4[i]? = some w) (g : isNest w = true) : w ∈ NsG := NsG_of (List.mem_append_right _ (List.mem_append_right _ (List.mem_append_right _ (List.mem_append_right _ (List.mem_of_getElem? h))))) g
/-- the room of a method of height h -/
def rmD (h : Nat) : Room := { frames := h, cells := 0, slots := 0, locals := 64 * h }
/-- locals by their places -/
def lvO (ls : Array Slot) (nL : Nat) (loc : List (Option Value)) : Prop := ls.size = nL ∧ lv_wf ls ∧ ∀ (i : Nat) (v : Value), loc[i]? = some (some v) → ls[i]? = some (.val v)
/-- where a side's cells lie, and the classes of its rows -/
-- the machine around a method: program, launch, environment, start, method, arguments, frames below, the method's row and code, what may change, the classes, the rows' classes
abbrev Dt : Type := (Nat → Nat) × ClassId × ClassId × ClassId × ClassId × ClassId
/-- the classes of the rows: int[], long[], boolean[], int[][], long[][] -/
def dtT (d : Dt) : List (ClassId × FieldType) := [(d.2.1, .int), (d.2.2.1, .long), (d.2.2.2.1, .boolean), (d.2.2.2.2.1, .array .int), (d.2.2.2.2.2, .array .long)]
abbrev Cx : Type := Program × Launch × Env × State × MethodId × Array Value × List Frame × Method × Code × (Nat → Prop) × va_G × Dt
/-- what a method is: its code, its class, its locals, its height, its answer's type -/
abbrev My : Type := ByteArray × String × Nat × Nat × Option FieldType
def xP (X : Cx) : Program := X.1
def xL (X : Cx) : Launch := X.2.1
def xE (X : Cx) : Env := X.2.2.1
def xS (X : Cx) : State := X.2.2.2.1
def xM (X : Cx) : MethodId := X.2.2.2.2.1
def xArgs (X : Cx) : Array Value := X.2.2.2.2.2.1
def xBelow (X : Cx) : List Frame := X.2.2.2.2.2.2.1
def xMeth (X : Cx) : Method := X.2.2.2.2.2.2.2.1
def xC (X : Cx) : Code := X.2.2.2.2.2.2.2.2.1
def xA (X : Cx) : Nat → Prop := X.2.2.2.2.2.2.2.2.2.1
def xD (X : Cx) : va_G := X.2.2.2.2.2.2.2.2.2.2.1
def xd (X : Cx) : Dt := X.2.2.2.2.2.2.2.2.2.2.2
def xT (X : Cx) : List (ClassId × FieldType) := dtT (xd X)
def xa (X : Cx) (c : Nat) : Nat := (xd X).1 c
def CxOk (X : Cx) (Y : My) : Prop :=
  (xP X).tables.exec = Jvm.exec ∧ (xC X).code = Y.1 ∧ (xC X).maxLocals = Y.2.2.1 ∧ (xS X).vm.findClass Y.2.1 = some (xM X).cls ∧ (∀ w ∈ TsG, w.before (xArgs X) (xS X) = true) ∧ (xMeth X).locks = false ∧ va_K (xD X) vwCl (xT X) (xS X) ∧ (∀ q, (xS X).heap.size ≤ q → xA X q) ∧ (xMeth X).sig.returnType = Y.2.2.2.2 ∧ NwU (xS X)
/-- the end of a method: its answer, the world, what else stays -/
def QcU (wl : Dt → St → va_W) (D : va_G) (d : Dt) (A : Nat → Prop) (r : Option Value) (S : St) : Array Value → State → Outcome → State → Prop := fun _ st oc t => (oc = .returned r ∧ va_P D vwCl (wl d S) t.heap ∧ va_K D vwCl (dtT d) t ∧ va_D A (wl d S)) ∧ va_F A st t
/-- from here, if the computation e answers, the machine ends with its answer and its store -/
def KJ {ρ : Type} (X : Cx) (Y : My) (wl : Dt → St → va_W) (inj : ρ → Option Value) (pc : Nat) (loc : List (Option Value)) (st : List Value) (S : St) (e : Option (ρ × St)) : Prop :=
  ∀ (r : ρ) (S' : St), e = some (r, S') → CxOk X Y → ∀ ls : Array Slot, lvO ls Y.2.2.1 loc → ∀ (H : Heap) (locs : List Loc), va_P (xD X) vwCl (wl (xd X) S) H → va_D (xA X) (wl (xd X) S) → va_S (xA X) (xS X).heap H locs →
    W (xP X) (xL X) (xE X) (rmD Y.2.2.2.1) (xS X) (xM X) (xArgs X) (xBelow X) (xMeth X) (xC X) H locs 0 0 (MQ (xBelow X) (QcU wl (xD X) (xd X) (xA X) (inj r) S') (xArgs X) (xS X) 0 0 (xA X)) (F0 (xM X) pc ls st)
def jI : Int32 → Option Value := fun r => some (.int r)
def jL : Int64 → Option Value := fun r => some (.long r)
def jV : Unit → Option Value := fun _ => none
section KL
variable {ρ : Type} {X : Cx} {cc : ByteArray} {own : String} {nL h : Nat} {rt : Option FieldType} {wl : Dt → St → va_W} {inj : ρ → Option Value} {pc tgt : Nat} {loc : List (Option Value)} {st : List Value} {S : St} {e e1 e2 : Option (ρ × St)} {off : Int}
theorem k_none : KJ X (cc, own, nL, h, rt) wl inj pc loc st S (none : Option (ρ × St)) := fun _ _ he => by cases he
theorem k_to {pc' : Nat} (hp : pc = pc') (k : KJ X (cc, own, nL, h, rt) wl inj pc' loc st S e) : KJ X (cc, own, nL, h, rt) wl inj pc loc st S e := hp ▸ k
theorem k_iconst {n : Int} {v : Int32} (hd : decode cc pc = .ok (.iconst n, 1)) (hv : Int32.ofInt n = v) (k : KJ X (cc, own, nL, h, rt) wl inj (pc + 1) loc (.int v :: st) S e) : KJ X (cc, own, nL, h, rt) wl inj pc loc st S e :=
  fun r S' he hC ls hl H locs hP hD hS => lv_iconst hC.1 hC.2.1 hd hv (k r S' he hC ls hl H locs hP hD hS)
theorem k_bipush {n : Int} {v : Int32} (hd : decode cc pc = .ok (.bipush n, 2)) (hv : (Int8.ofInt n).toInt32 = v) (k : KJ X (cc, own, nL, h, rt) wl inj (pc + 2) loc (.int v :: st) S e) : KJ X (cc, own, nL, h, rt) wl inj pc loc st S e :=
  fun r S' he hC ls hl H locs hP hD hS => lv_bipush hC.1 hC.2.1 hd hv (k r S' he hC ls hl H locs hP hD hS)
theorem k_sipush {n : Int} {v : Int32} (hd : decode cc pc = .ok (.sipush n, 3)) (hv : (Int16.ofInt n).toInt32 = v) (k : KJ X (cc, own, nL, h, rt) wl inj (pc + 3) loc (.int v :: st) S e) : KJ X (cc, own, nL, h, rt) wl inj pc loc st S e :=
  fun r S' he hC ls hl H locs hP hD hS => lv_sipush hC.1 hC.2.1 hd hv (k r S' he hC ls hl H locs hP hD hS)
theorem k_lconst {n : Fin 2} {v : Int64} (hd : decode cc pc = .ok (.lconst n, 1)) (hv : Int64.ofNat (n : Nat) = v) (k : KJ X (cc, own, nL, h, rt) wl inj (pc + 1) loc (.long v :: st) S e) : KJ X (cc, own, nL, h, rt) wl inj pc loc st S e :=
  fun r S' he hC ls hl H locs hP hD hS => lv_lconst hC.1 hC.2.1 hd hv (k r S' he hC ls hl H locs hP hD hS)
theorem k_ldc2 {index : Nat} {v : Int64} (hd : decode cc pc = .ok (.ldc2_w index, 3)) (hw : Cond.constantLong own index v ∈ TsG) (k : KJ X (cc, own, nL, h, rt) wl inj (pc + 3) loc (.long v :: st) S e) : KJ X (cc, own, nL, h, rt) wl inj pc loc st S e :=
  fun r S' he hC ls hl H locs hP hD hS => lv_ldc2 hC.1 hC.2.1 hC.2.2.2.1 (hC.2.2.2.2.1 _ hw) hd (k r S' he hC ls hl H locs hP hD hS)
theorem k_iload_n {j : Fin 4} {x : Int32} (hd : decode cc pc = .ok (.iload_n j, 1)) (hv : loc[(j : Nat)]? = some (some (.int x))) (k : KJ X (cc, own, nL, h, rt) wl inj (pc + 1) loc (.int x :: st) S e) : KJ X (cc, own, nL, h, rt) wl inj pc loc st S e :=
  fun r S' he hC ls hl H locs hP hD hS => lv_iload_n hC.1 hC.2.1 hd rfl (hl.2.2 _ _ hv) (k r S' he hC ls hl H locs hP hD hS)
theorem k_iload {j : Nat} {x : Int32} (hd : decode cc pc = .ok (.iload j, 2)) (hv : loc[j]? = some (some (.int x))) (k : KJ X (cc, own, nL, h, rt) wl inj (pc + 2) loc (.int x :: st) S e) : KJ X (cc, own, nL, h, rt) wl inj pc loc st S e :=
  fun r S' he hC ls hl H locs hP hD hS => lv_iload hC.1 hC.2.1 hd (hl.2.2 _ _ hv) (k r S' he hC ls hl H locs hP hD hS)
theorem k_lload_n {j : Fin 4} {x : Int64} (hd : decode cc pc = .ok (.lload_n j, 1)) (hv : loc[(j : Nat)]? = some (some (.long x))) (k : KJ X (cc, own, nL, h, rt) wl inj (pc + 1) loc (.long x :: st) S e) : KJ X (cc, own, nL, h, rt) wl inj pc loc st S e :=
  fun r S' he hC ls hl H locs hP hD hS => lv_lload_n hC.1 hC.2.1 hd rfl (hl.2.2 _ _ hv) (k r S' he hC ls hl H locs hP hD hS)
theorem k_lload {j : Nat} {x : Int64} (hd : decode cc pc = .ok (.lload j, 2)) (hv : loc[j]? = some (some (.long x))) (k : KJ X (cc, own, nL, h, rt) wl inj (pc + 2) loc (.long x :: st) S e) : KJ X (cc, own, nL, h, rt) wl inj pc loc st S e :=
  fun r S' he hC ls hl H locs hP hD hS => lv_lload hC.1 hC.2.1 hd (hl.2.2 _ _ hv) (k r S' he hC ls hl H locs hP hD hS)
theorem k_aload_n {j : Fin 4} {x : Nat} (hd : decode cc pc = .ok (.aload_n j, 1)) (hv : loc[(j : Nat)]? = some (some (.ref x))) (k : KJ X (cc, own, nL, h, rt) wl inj (pc + 1) loc (.ref x :: st) S e) : KJ X (cc, own, nL, h, rt) wl inj pc loc st S e :=
  fun r S' he hC ls hl H locs hP hD hS => lv_aload_n hC.1 hC.2.1 hd rfl (hl.2.2 _ _ hv) (k r S' he hC ls hl H locs hP hD hS)
/-- the pairs that a list of locals has -/
def lvPr (loc : List (Option Value)) : List (Nat × Value) := (List.range loc.length).filterMap (fun i => match loc[i]? with | some (some v) => some (i, v) | _ => none)
theorem lvPr_mem {loc : List (Option Value)} {i : Nat} {v : Value} : (i, v) ∈ lvPr loc ↔ loc[i]? = some (some v) := by
  unfold lvPr
  rw [List.mem_filterMap]
  constructor
  · rintro ⟨j, -, hj⟩
    cases hq : loc[j]? with
    | none => rw [hq] at hj; cases hj
    | some o =>
      cases o with
      | none => rw [hq] at hj; cases hj
      | some w =>
        rw [hq] at hj
        cases hj
        exact hq
  · intro hq
    refine ⟨i, List.mem_range.mpr ?_, by rw [hq]⟩
    exact (List.getElem?_eq_some_iff.mp hq).1
theorem lvO.has {ls : Array Slot} (hl : lvO ls nL loc) : lv_has ls nL (lvPr loc) := ⟨hl.1, hl.2.1, fun q hq => hl.2.2 q.1 q.2 (lvPr_mem.mp hq)⟩
/-- no long stands just ahead of place i -/
def noL (loc : List (Option Value)) (i : Nat) : Bool := match i with
  | 0 => true
  | j + 1 => match loc[j]? with
    | some (some v) => decide (¬ v.category = 2)
    | _ => true
theorem lvO.set1 {ls' : Array Slot} {loc' : List (Option Value)} {i : Nat} {x : Value} (hn : noL loc i = true) (hs : loc.set i (some x) = loc') (hl : lv_has ls' nL ((i, x) :: (lvPr loc).filter (fun q => !(q.1 == i) && !(q.1 + 1 == i && q.2.category == 2)))) : lvO ls' nL loc' := by
  refine ⟨hl.1, hl.2.1, fun j v hj => ?_⟩
  rw [← hs, List.getElem?_set] at hj
  by_cases hij : i = j
  · subst hij
    rw [if_pos rfl] at hj
    by_cases hlt : i < loc.length
    · rw [if_pos hlt] at hj
      cases hj
      exact hl.2.2 _ List.mem_cons_self
    · rw [if_neg hlt] at hj
      cases hj
  · rw [if_neg hij] at hj
    refine hl.2.2 (j, v) (List.mem_cons_of_mem _ (List.mem_filter.mpr ⟨lvPr_mem.mpr hj, ?_⟩))
    simp only [Bool.and_eq_true, Bool.not_eq_true', beq_eq_false_iff_ne, ne_eq, Bool.and_eq_false_iff]
    refine ⟨fun q => hij q.symm, ?_⟩
    by_cases hi : j + 1 = i
    · right
      subst hi
      simp only [noL, hj, decide_eq_true_eq] at hn
      exact hn
    · exact Or.inl hi
theorem lvO.set2 {ls' : Array Slot} {loc' : List (Option Value)} {i : Nat} {x : Value} (hn : noL loc i = true) (hs : (loc.set i (some x)).set (i + 1) none = loc') (hl : lv_has ls' nL ((i, x) :: (lvPr loc).filter (fun q => !(q.1 == i) && (!(q.1 == i + 1) && !(q.1 + 1 == i && q.2.category == 2))))) : lvO ls' nL loc' := by
  refine ⟨hl.1, hl.2.1, fun j v hj => ?_⟩
  rw [← hs, List.getElem?_set] at hj
  by_cases hij1 : i + 1 = j
  · rw [if_pos hij1] at hj
    split at hj <;> cases hj
  · rw [if_neg hij1, List.getElem?_set] at hj
    by_cases hij : i = j
    · subst hij
      rw [if_pos rfl] at hj
      by_cases hlt : i < loc.length
      · rw [if_pos hlt] at hj
        cases hj
        exact hl.2.2 _ List.mem_cons_self
      · rw [if_neg hlt] at hj
        cases hj
    · rw [if_neg hij] at hj
      refine hl.2.2 (j, v) (List.mem_cons_of_mem _ (List.mem_filter.mpr ⟨lvPr_mem.mpr hj, ?_⟩))
      simp only [Bool.and_eq_true, Bool.not_eq_true', beq_eq_false_iff_ne, ne_eq, Bool.and_eq_false_iff]
      refine ⟨fun q => hij q.symm, fun q => hij1 q.symm, ?_⟩
      by_cases hi : j + 1 = i
      · right
        subst hi
        simp only [noL, hj, decide_eq_true_eq] at hn
        exact hn
      · exact Or.inl hi
theorem k_istore_n {j : Fin 4} {x : Int32} {loc' : List (Option Value)} (hd : decode cc pc = .ok (.istore_n j, 1)) (hi : (j : Nat) < nL) (hn : noL loc j = true) (hs : loc.set j (some (.int x)) = loc') (k : KJ X (cc, own, nL, h, rt) wl inj (pc + 1) loc' st S e) : KJ X (cc, own, nL, h, rt) wl inj pc loc (.int x :: st) S e :=
  fun r S' he hC ls hl H locs hP hD hS => lv_istore_n hC.1 hC.2.1 hd rfl hl.has hi rfl (fun ls' hl' => k r S' he hC ls' (lvO.set1 hn hs hl') H locs hP hD hS)
theorem k_istore {j : Nat} {x : Int32} {loc' : List (Option Value)} (hd : decode cc pc = .ok (.istore j, 2)) (hi : j < nL) (hn : noL loc j = true) (hs : loc.set j (some (.int x)) = loc') (k : KJ X (cc, own, nL, h, rt) wl inj (pc + 2) loc' st S e) : KJ X (cc, own, nL, h, rt) wl inj pc loc (.int x :: st) S e :=
  fun r S' he hC ls hl H locs hP hD hS => lv_istore hC.1 hC.2.1 hd hl.has hi rfl (fun ls' hl' => k r S' he hC ls' (lvO.set1 hn hs hl') H locs hP hD hS)
theorem k_lstore_n {j : Fin 4} {x : Int64} {loc' : List (Option Value)} (hd : decode cc pc = .ok (.lstore_n j, 1)) (hi : (j : Nat) + 1 < nL) (hn : noL loc j = true) (hs : (loc.set j (some (.long x))).set (j + 1) none = loc') (k : KJ X (cc, own, nL, h, rt) wl inj (pc + 1) loc' st S e) : KJ X (cc, own, nL, h, rt) wl inj pc loc (.long x :: st) S e :=
  fun r S' he hC ls hl H locs hP hD hS => lv_lstore_n hC.1 hC.2.1 hd rfl hl.has hi rfl (fun ls' hl' => k r S' he hC ls' (lvO.set2 hn hs hl') H locs hP hD hS)
theorem k_lstore {j : Nat} {x : Int64} {loc' : List (Option Value)} (hd : decode cc pc = .ok (.lstore j, 2)) (hi : j + 1 < nL) (hn : noL loc j = true) (hs : (loc.set j (some (.long x))).set (j + 1) none = loc') (k : KJ X (cc, own, nL, h, rt) wl inj (pc + 2) loc' st S e) : KJ X (cc, own, nL, h, rt) wl inj pc loc (.long x :: st) S e :=
  fun r S' he hC ls hl H locs hP hD hS => lv_lstore hC.1 hC.2.1 hd hl.has hi rfl (fun ls' hl' => k r S' he hC ls' (lvO.set2 hn hs hl') H locs hP hD hS)
theorem k_iinc {j : Nat} {n : Int} {x v : Int32} {loc' : List (Option Value)} (hd : decode cc pc = .ok (.iinc j n, 3)) (hv : loc[j]? = some (some (.int x))) (hw : Int32.ofInt n = v) (hi : j < nL) (hn : noL loc j = true) (hs : loc.set j (some (.int (x + v))) = loc') (k : KJ X (cc, own, nL, h, rt) wl inj (pc + 3) loc' st S e) : KJ X (cc, own, nL, h, rt) wl inj pc loc st S e := by
  intro r S' he hC ls hl H locs hP hD hS
  obtain ⟨k0, hk0⟩ := List.getElem?_of_mem (lvPr_mem.mpr hv)
  exact lv_iinc hC.1 hC.2.1 hd hl.has (k := k0) hk0 (by rw [hw]) hi rfl (fun ls' hl' => k r S' he hC ls' (lvO.set1 hn hs hl') H locs hP hD hS)
theorem k_iadd {x y : Int32} (hd : decode cc pc = .ok (.iadd, 1)) (k : KJ X (cc, own, nL, h, rt) wl inj (pc + 1) loc (.int (x + y) :: st) S e) : KJ X (cc, own, nL, h, rt) wl inj pc loc (.int y :: .int x :: st) S e :=
  fun r S' he hC ls hl H locs hP hD hS => lv_iadd hC.1 hC.2.1 hd (k r S' he hC ls hl H locs hP hD hS)
theorem k_isub {x y : Int32} (hd : decode cc pc = .ok (.isub, 1)) (k : KJ X (cc, own, nL, h, rt) wl inj (pc + 1) loc (.int (x - y) :: st) S e) : KJ X (cc, own, nL, h, rt) wl inj pc loc (.int y :: .int x :: st) S e :=
  fun r S' he hC ls hl H locs hP hD hS => lv_isub hC.1 hC.2.1 hd (k r S' he hC ls hl H locs hP hD hS)
theorem k_imul {x y : Int32} (hd : decode cc pc = .ok (.imul, 1)) (k : KJ X (cc, own, nL, h, rt) wl inj (pc + 1) loc (.int (x * y) :: st) S e) : KJ X (cc, own, nL, h, rt) wl inj pc loc (.int y :: .int x :: st) S e :=
  fun r S' he hC ls hl H locs hP hD hS => lv_imul hC.1 hC.2.1 hd (k r S' he hC ls hl H locs hP hD hS)
theorem k_iand {x y : Int32} (hd : decode cc pc = .ok (.iand, 1)) (k : KJ X (cc, own, nL, h, rt) wl inj (pc + 1) loc (.int (x &&& y) :: st) S e) : KJ X (cc, own, nL, h, rt) wl inj pc loc (.int y :: .int x :: st) S e :=
  fun r S' he hC ls hl H locs hP hD hS => lv_iand hC.1 hC.2.1 hd (k r S' he hC ls hl H locs hP hD hS)
theorem k_ior {x y : Int32} (hd : decode cc pc = .ok (.ior, 1)) (k : KJ X (cc, own, nL, h, rt) wl inj (pc + 1) loc (.int (x ||| y) :: st) S e) : KJ X (cc, own, nL, h, rt) wl inj pc loc (.int y :: .int x :: st) S e :=
  fun r S' he hC ls hl H locs hP hD hS => lv_ior hC.1 hC.2.1 hd (k r S' he hC ls hl H locs hP hD hS)
theorem k_ixor {x y : Int32} (hd : decode cc pc = .ok (.ixor, 1)) (k : KJ X (cc, own, nL, h, rt) wl inj (pc + 1) loc (.int (x ^^^ y) :: st) S e) : KJ X (cc, own, nL, h, rt) wl inj pc loc (.int y :: .int x :: st) S e :=
  fun r S' he hC ls hl H locs hP hD hS => lv_ixor hC.1 hC.2.1 hd (k r S' he hC ls hl H locs hP hD hS)
theorem k_ishl {x y : Int32} (hd : decode cc pc = .ok (.ishl, 1)) (k : KJ X (cc, own, nL, h, rt) wl inj (pc + 1) loc (.int (x <<< (y &&& 31)) :: st) S e) : KJ X (cc, own, nL, h, rt) wl inj pc loc (.int y :: .int x :: st) S e :=
  fun r S' he hC ls hl H locs hP hD hS => lv_ishl hC.1 hC.2.1 hd (k r S' he hC ls hl H locs hP hD hS)
theorem k_ishr {x y : Int32} (hd : decode cc pc = .ok (.ishr, 1)) (k : KJ X (cc, own, nL, h, rt) wl inj (pc + 1) loc (.int (x >>> (y &&& 31)) :: st) S e) : KJ X (cc, own, nL, h, rt) wl inj pc loc (.int y :: .int x :: st) S e :=
  fun r S' he hC ls hl H locs hP hD hS => lv_ishr hC.1 hC.2.1 hd (k r S' he hC ls hl H locs hP hD hS)
theorem k_idiv {x y : Int32} (hd : decode cc pc = .ok (.idiv, 1)) (k : KJ X (cc, own, nL, h, rt) wl inj (pc + 1) loc (.int (x / y) :: st) S e) : KJ X (cc, own, nL, h, rt) wl inj pc loc (.int y :: .int x :: st) S (chk (decide (¬ y = 0)) e) :=
  fun r S' he hC ls hl H locs hP hD hS => lv_idiv hC.1 hC.2.1 hd (of_decide_eq_true (chk_some he).1) (k r S' (chk_some he).2 hC ls hl H locs hP hD hS)
theorem k_irem {x y : Int32} (hd : decode cc pc = .ok (.irem, 1)) (k : KJ X (cc, own, nL, h, rt) wl inj (pc + 1) loc (.int (x - x / y * y) :: st) S e) : KJ X (cc, own, nL, h, rt) wl inj pc loc (.int y :: .int x :: st) S (chk (decide (¬ y = 0)) e) :=
  fun r S' he hC ls hl H locs hP hD hS => lv_irem hC.1 hC.2.1 hd (of_decide_eq_true (chk_some he).1) (k r S' (chk_some he).2 hC ls hl H locs hP hD hS)
theorem k_ladd {x y : Int64} (hd : decode cc pc = .ok (.ladd, 1)) (k : KJ X (cc, own, nL, h, rt) wl inj (pc + 1) loc (.long (x + y) :: st) S e) : KJ X (cc, own, nL, h, rt) wl inj pc loc (.long y :: .long x :: st) S e :=
  fun r S' he hC ls hl H locs hP hD hS => lv_ladd hC.1 hC.2.1 hd (k r S' he hC ls hl H locs hP hD hS)
theorem k_lmul {x y : Int64} (hd : decode cc pc = .ok (.lmul, 1)) (k : KJ X (cc, own, nL, h, rt) wl inj (pc + 1) loc (.long (x * y) :: st) S e) : KJ X (cc, own, nL, h, rt) wl inj pc loc (.long y :: .long x :: st) S e :=
  fun r S' he hC ls hl H locs hP hD hS => lv_lmul hC.1 hC.2.1 hd (k r S' he hC ls hl H locs hP hD hS)
theorem k_ldiv {x y : Int64} (hd : decode cc pc = .ok (.ldiv, 1)) (k : KJ X (cc, own, nL, h, rt) wl inj (pc + 1) loc (.long (x / y) :: st) S e) : KJ X (cc, own, nL, h, rt) wl inj pc loc (.long y :: .long x :: st) S (chk (decide (¬ y = 0)) e) :=
  fun r S' he hC ls hl H locs hP hD hS => lv_ldiv hC.1 hC.2.1 hd (of_decide_eq_true (chk_some he).1) (k r S' (chk_some he).2 hC ls hl H locs hP hD hS)
theorem k_lrem {x y : Int64} (hd : decode cc pc = .ok (.lrem, 1)) (k : KJ X (cc, own, nL, h, rt) wl inj (pc + 1) loc (.long (x - x / y * y) :: st) S e) : KJ X (cc, own, nL, h, rt) wl inj pc loc (.long y :: .long x :: st) S (chk (decide (¬ y = 0)) e) :=
  fun r S' he hC ls hl H locs hP hD hS => lv_lrem hC.1 hC.2.1 hd (of_decide_eq_true (chk_some he).1) (k r S' (chk_some he).2 hC ls hl H locs hP hD hS)
theorem k_i2l {x : Int32} (hd : decode cc pc = .ok (.i2l, 1)) (k : KJ X (cc, own, nL, h, rt) wl inj (pc + 1) loc (.long x.toInt64 :: st) S e) : KJ X (cc, own, nL, h, rt) wl inj pc loc (.int x :: st) S e :=
  fun r S' he hC ls hl H locs hP hD hS => lv_i2l hC.1 hC.2.1 hd rfl (k r S' he hC ls hl H locs hP hD hS)
theorem k_lcmp {x y : Int64} (hd : decode cc pc = .ok (.lcmp, 1)) (k : KJ X (cc, own, nL, h, rt) wl inj (pc + 1) loc (.int (lg_cmp x y) :: st) S e) : KJ X (cc, own, nL, h, rt) wl inj pc loc (.long y :: .long x :: st) S e :=
  fun r S' he hC ls hl H locs hP hD hS => W.lcmp hC.1 hC.2.1 hd (k r S' he hC ls hl H locs hP hD hS)
theorem k_dup {v : Value} (hd : decode cc pc = .ok (.dup, 1)) (hv : v.category = 1) (k : KJ X (cc, own, nL, h, rt) wl inj (pc + 1) loc (v :: v :: st) S e) : KJ X (cc, own, nL, h, rt) wl inj pc loc (v :: st) S e :=
  fun r S' he hC ls hl H locs hP hD hS => lv_dup hC.1 hC.2.1 hd hv (k r S' he hC ls hl H locs hP hD hS)
theorem k_dup2 {v w : Value} (hd : decode cc pc = .ok (.dup2, 1)) (hv : v.category = 1) (hw : w.category = 1) (k : KJ X (cc, own, nL, h, rt) wl inj (pc + 1) loc (v :: w :: v :: w :: st) S e) : KJ X (cc, own, nL, h, rt) wl inj pc loc (v :: w :: st) S e :=
  fun r S' he hC ls hl H locs hP hD hS => lv_dup2_11 hC.1 hC.2.1 hd hv hw (k r S' he hC ls hl H locs hP hD hS)
theorem k_goto (hd : decode cc pc = .ok (.goto off, 3)) (ht : (pc : Int) + off = (tgt : Int)) (k : KJ X (cc, own, nL, h, rt) wl inj tgt loc st S e) : KJ X (cc, own, nL, h, rt) wl inj pc loc st S e :=
  fun r S' he hC ls hl H locs hP hD hS => lv_goto hC.1 hC.2.1 hd ht (k r S' he hC ls hl H locs hP hD hS)
end KL
section KB
variable {ρ : Type} {X : Cx} {cc : ByteArray} {own : String} {nL h : Nat} {rt : Option FieldType} {wl : Dt → St → va_W} {inj : ρ → Option Value} {pc tgt : Nat} {loc : List (Option Value)} {st : List Value} {S : St} {e1 e2 : Option (ρ × St)} {off : Int}
theorem k_icmp_eq {x y : Int32} (hd : decode cc pc = .ok (.if_icmp .eq off, 3)) (ht : (pc : Int) + off = (tgt : Int)) (kt : x = y → KJ X (cc, own, nL, h, rt) wl inj tgt loc st S e1) (kf : ¬ x = y → KJ X (cc, own, nL, h, rt) wl inj (pc + 3) loc st S e2) : KJ X (cc, own, nL, h, rt) wl inj pc loc (.int y :: .int x :: st) S (if x = y then e1 else e2) :=
  fun r S' he hC ls hl H locs hP hD hS => lv_icmp_eq hC.1 hC.2.1 hd ht (fun c => kt c r S' (by rw [if_pos c] at he; exact he) hC ls hl H locs hP hD hS) (fun c => kf c r S' (by rw [if_neg c] at he; exact he) hC ls hl H locs hP hD hS)
theorem k_if_eq {x : Int32} (hd : decode cc pc = .ok (.ifCond .eq off, 3)) (ht : (pc : Int) + off = (tgt : Int)) (kt : x = 0 → KJ X (cc, own, nL, h, rt) wl inj tgt loc st S e1) (kf : ¬ x = 0 → KJ X (cc, own, nL, h, rt) wl inj (pc + 3) loc st S e2) : KJ X (cc, own, nL, h, rt) wl inj pc loc (.int x :: st) S (if x = 0 then e1 else e2) :=
  fun r S' he hC ls hl H locs hP hD hS => lv_if_eq hC.1 hC.2.1 hd ht (fun c => kt c r S' (by rw [if_pos c] at he; exact he) hC ls hl H locs hP hD hS) (fun c => kf c r S' (by rw [if_neg c] at he; exact he) hC ls hl H locs hP hD hS)
theorem k_icmp_lt {x y : Int32} (hd : decode cc pc = .ok (.if_icmp .lt off, 3)) (ht : (pc : Int) + off = (tgt : Int)) (kt : x < y → KJ X (cc, own, nL, h, rt) wl inj tgt loc st S e1) (kf : ¬ x < y → KJ X (cc, own, nL, h, rt) wl inj (pc + 3) loc st S e2) : KJ X (cc, own, nL, h, rt) wl inj pc loc (.int y :: .int x :: st) S (if x < y then e1 else e2) :=
  fun r S' he hC ls hl H locs hP hD hS => lv_icmp_lt hC.1 hC.2.1 hd ht (fun c => kt c r S' (by rw [if_pos c] at he; exact he) hC ls hl H locs hP hD hS) (fun c => kf c r S' (by rw [if_neg c] at he; exact he) hC ls hl H locs hP hD hS)
theorem k_if_lt {x : Int32} (hd : decode cc pc = .ok (.ifCond .lt off, 3)) (ht : (pc : Int) + off = (tgt : Int)) (kt : x < 0 → KJ X (cc, own, nL, h, rt) wl inj tgt loc st S e1) (kf : ¬ x < 0 → KJ X (cc, own, nL, h, rt) wl inj (pc + 3) loc st S e2) : KJ X (cc, own, nL, h, rt) wl inj pc loc (.int x :: st) S (if x < 0 then e1 else e2) :=
  fun r S' he hC ls hl H locs hP hD hS => lv_if_lt hC.1 hC.2.1 hd ht (fun c => kt c r S' (by rw [if_pos c] at he; exact he) hC ls hl H locs hP hD hS) (fun c => kf c r S' (by rw [if_neg c] at he; exact he) hC ls hl H locs hP hD hS)
theorem k_icmp_ge {x y : Int32} (hd : decode cc pc = .ok (.if_icmp .ge off, 3)) (ht : (pc : Int) + off = (tgt : Int)) (kt : y ≤ x → KJ X (cc, own, nL, h, rt) wl inj tgt loc st S e1) (kf : ¬ y ≤ x → KJ X (cc, own, nL, h, rt) wl inj (pc + 3) loc st S e2) : KJ X (cc, own, nL, h, rt) wl inj pc loc (.int y :: .int x :: st) S (if y ≤ x then e1 else e2) :=
  fun r S' he hC ls hl H locs hP hD hS => lv_icmp_ge hC.1 hC.2.1 hd ht (fun c => kt c r S' (by rw [if_pos c] at he; exact he) hC ls hl H locs hP hD hS) (fun c => kf c r S' (by rw [if_neg c] at he; exact he) hC ls hl H locs hP hD hS)
theorem k_if_ge {x : Int32} (hd : decode cc pc = .ok (.ifCond .ge off, 3)) (ht : (pc : Int) + off = (tgt : Int)) (kt : 0 ≤ x → KJ X (cc, own, nL, h, rt) wl inj tgt loc st S e1) (kf : ¬ 0 ≤ x → KJ X (cc, own, nL, h, rt) wl inj (pc + 3) loc st S e2) : KJ X (cc, own, nL, h, rt) wl inj pc loc (.int x :: st) S (if 0 ≤ x then e1 else e2) :=
  fun r S' he hC ls hl H locs hP hD hS => lv_if_ge hC.1 hC.2.1 hd ht (fun c => kt c r S' (by rw [if_pos c] at he; exact he) hC ls hl H locs hP hD hS) (fun c => kf c r S' (by rw [if_neg c] at he; exact he) hC ls hl H locs hP hD hS)
theorem k_icmp_gt {x y : Int32} (hd : decode cc pc = .ok (.if_icmp .gt off, 3)) (ht : (pc : Int) + off = (tgt : Int)) (kt : y < x → KJ X (cc, own, nL, h, rt) wl inj tgt loc st S e1) (kf : ¬ y < x → KJ X (cc, own, nL, h, rt) wl inj (pc + 3) loc st S e2) : KJ X (cc, own, nL, h, rt) wl inj pc loc (.int y :: .int x :: st) S (if y < x then e1 else e2) :=
  fun r S' he hC ls hl H locs hP hD hS => lv_icmp_gt hC.1 hC.2.1 hd ht (fun c => kt c r S' (by rw [if_pos c] at he; exact he) hC ls hl H locs hP hD hS) (fun c => kf c r S' (by rw [if_neg c] at he; exact he) hC ls hl H locs hP hD hS)
theorem k_if_gt {x : Int32} (hd : decode cc pc = .ok (.ifCond .gt off, 3)) (ht : (pc : Int) + off = (tgt : Int)) (kt : 0 < x → KJ X (cc, own, nL, h, rt) wl inj tgt loc st S e1) (kf : ¬ 0 < x → KJ X (cc, own, nL, h, rt) wl inj (pc + 3) loc st S e2) : KJ X (cc, own, nL, h, rt) wl inj pc loc (.int x :: st) S (if 0 < x then e1 else e2) :=
  fun r S' he hC ls hl H locs hP hD hS => lv_if_gt hC.1 hC.2.1 hd ht (fun c => kt c r S' (by rw [if_pos c] at he; exact he) hC ls hl H locs hP hD hS) (fun c => kf c r S' (by rw [if_neg c] at he; exact he) hC ls hl H locs hP hD hS)
theorem k_icmp_le {x y : Int32} (hd : decode cc pc = .ok (.if_icmp .le off, 3)) (ht : (pc : Int) + off = (tgt : Int)) (kt : x ≤ y → KJ X (cc, own, nL, h, rt) wl inj tgt loc st S e1) (kf : ¬ x ≤ y → KJ X (cc, own, nL, h, rt) wl inj (pc + 3) loc st S e2) : KJ X (cc, own, nL, h, rt) wl inj pc loc (.int y :: .int x :: st) S (if x ≤ y then e1 else e2) :=
  fun r S' he hC ls hl H locs hP hD hS => lv_icmp_le hC.1 hC.2.1 hd ht (fun c => kt c r S' (by rw [if_pos c] at he; exact he) hC ls hl H locs hP hD hS) (fun c => kf c r S' (by rw [if_neg c] at he; exact he) hC ls hl H locs hP hD hS)
theorem k_if_le {x : Int32} (hd : decode cc pc = .ok (.ifCond .le off, 3)) (ht : (pc : Int) + off = (tgt : Int)) (kt : x ≤ 0 → KJ X (cc, own, nL, h, rt) wl inj tgt loc st S e1) (kf : ¬ x ≤ 0 → KJ X (cc, own, nL, h, rt) wl inj (pc + 3) loc st S e2) : KJ X (cc, own, nL, h, rt) wl inj pc loc (.int x :: st) S (if x ≤ 0 then e1 else e2) :=
  fun r S' he hC ls hl H locs hP hD hS => lv_if_le hC.1 hC.2.1 hd ht (fun c => kt c r S' (by rw [if_pos c] at he; exact he) hC ls hl H locs hP hD hS) (fun c => kf c r S' (by rw [if_neg c] at he; exact he) hC ls hl H locs hP hD hS)
theorem k_icmp_ne {x y : Int32} (hd : decode cc pc = .ok (.if_icmp .ne off, 3)) (ht : (pc : Int) + off = (tgt : Int)) (kt : ¬ x = y → KJ X (cc, own, nL, h, rt) wl inj tgt loc st S e1) (kf : x = y → KJ X (cc, own, nL, h, rt) wl inj (pc + 3) loc st S e2) : KJ X (cc, own, nL, h, rt) wl inj pc loc (.int y :: .int x :: st) S (if x = y then e2 else e1) :=
  fun r S' he hC ls hl H locs hP hD hS => lv_icmp_ne hC.1 hC.2.1 hd ht (fun c => kt c r S' (by rw [if_neg c] at he; exact he) hC ls hl H locs hP hD hS) (fun c => kf c r S' (by rw [if_pos c] at he; exact he) hC ls hl H locs hP hD hS)
theorem k_if_ne {x : Int32} (hd : decode cc pc = .ok (.ifCond .ne off, 3)) (ht : (pc : Int) + off = (tgt : Int)) (kt : ¬ x = 0 → KJ X (cc, own, nL, h, rt) wl inj tgt loc st S e1) (kf : x = 0 → KJ X (cc, own, nL, h, rt) wl inj (pc + 3) loc st S e2) : KJ X (cc, own, nL, h, rt) wl inj pc loc (.int x :: st) S (if x = 0 then e2 else e1) :=
  fun r S' he hC ls hl H locs hP hD hS => lv_if_ne hC.1 hC.2.1 hd ht (fun c => kt c r S' (by rw [if_neg c] at he; exact he) hC ls hl H locs hP hD hS) (fun c => kf c r S' (by rw [if_pos c] at he; exact he) hC ls hl H locs hP hD hS)
end KB
