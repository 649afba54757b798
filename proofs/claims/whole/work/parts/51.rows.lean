/-! ===== rows of the machine: new rows, worlds beside one another ===== -/
theorem aoa_spec {t : FieldType} {u : State} (h : va_AOA t u) : ∃ comp c k cm, u.vm.findClass (FieldType.array t).toString = some comp ∧ (u.vm.classes.findIdx? fun (x : Class) => match x.kind with | .array component _ => component == comp | _ => false) = some c ∧ u.vm.classes[c]? = some k ∧ k.kind = .array cm (.array t) ∧ u.vm.findClass ("[" ++ (FieldType.array t).toString) = some c := by
  unfold va_AOA Cond.before Cond.holds at h
  simp only [Cond.value, beq_iff_eq] at h
  cases hc : u.vm.findClass (FieldType.array t).toString with
  | none => simp [hc] at h
  | some comp =>
    simp only [hc, Option.bind_some, Option.bind_eq_some_iff, Option.map_eq_some_iff] at h
    obtain ⟨c, hi, k, hk, hm⟩ := h
    cases hkk : k.kind with
    | array cm ty =>
      rw [hkk] at hm
      simp only [Bool.and_eq_true, decide_eq_true_eq] at hm
      exact ⟨comp, c, k, cm, rfl, hi, hk, by rw [hkk, hm.1], hm.2⟩
    | _ => rw [hkk] at hm; cases hm
theorem aoa_bare (vm : Vm) (comp : ClassId) : (vm.bare.classes.findIdx? fun (x : Class) => match x.kind with | .array component _ => component == comp | _ => false) = (vm.classes.findIdx? fun (x : Class) => match x.kind with | .array component _ => component == comp | _ => false) := by
  simp only [Vm.bare, Array.findIdx?_map]
  rfl
theorem va_AOA.moved {t : FieldType} {u U : State} (hvm : u.vm.Alike U.vm) (h : va_AOA t u) : va_AOA t U := by
  obtain ⟨comp, c, k, cm, h1, h2, h3, h4, h5⟩ := aoa_spec h
  obtain ⟨k', hk', he⟩ := hvm.2.2 _ _ h3
  have hi : (U.vm.classes.findIdx? fun (x : Class) => match x.kind with | .array component _ => component == comp | _ => false) = some c := by
    rw [← aoa_bare]
    first | rw [hvm.bare_eq] | rw [← hvm.bare_eq]
    rw [aoa_bare]
    exact h2
  have hkind : k'.kind = .array cm (.array t) := by rw [he]; exact h4
  have f1 : U.vm.findClass (FieldType.array t).toString = some comp := by rw [hvm.findClass]; exact h1
  have f2 : U.vm.findClass ("[" ++ (FieldType.array t).toString) = some c := by rw [hvm.findClass]; exact h5
  unfold va_AOA Cond.before Cond.holds
  simp only [Cond.value]
  rw [f1, Option.bind_some]
  refine (congrArg (fun o : Option Nat => (o.bind (fun c => (U.vm.classes[c]?).map fun (k : Class) => match k.kind with | .array _ ty => decide (ty = FieldType.array t) && decide (U.vm.findClass ("[" ++ (FieldType.array t).toString) = some c) | _ => false) == some true)) hi).trans ?_
  simp [hk', hkind, f2]
/-- a type whose array class goes by its name -/
def byNm : FieldType → Bool
  | .object _ => false
  | _ => true
theorem ka_nm {D : va_G} {cl : List vw_C} {tys : List (ClassId × FieldType)} {s : State} (hK : va_K D cl tys s) {k : Nat} {cA : ClassId} {ty : FieldType} (hb : byNm ty = true) (h : tys[k]? = some (cA, ty)) : s.vm.findClass ("[" ++ ty.toString) = some cA := by
  have := (hK.2 k _ h).2
  cases ty with
  | object C => cases hb
  | _ => exact this
theorem ka_of {args : Array Value} {s : State} {ty : FieldType} (hb : byNm ty = true) (h : (Cond.arrayClass ty).before args s = true) : ∃ cA, ArrOfT s cA ty ∧ va_RA s cA ty := by
  obtain ⟨c, k, comp, h1, h2, h3⟩ := Cond.arrayClass_spec h
  refine ⟨c, fun n z => ?_, ?_⟩
  · exact ⟨(fun q hq => by cases hq), k, h2, comp, h3⟩
  · cases ty with
    | object C => cases hb
    | _ => exact h1
theorem ka_ofA {s : State} {t : FieldType} (h : va_AOA t s) : ∃ cA, ArrOfT s cA (.array t) ∧ va_RA s cA (.array t) := by
  obtain ⟨comp, c, k, cm, h1, h2, h3, h4, h5⟩ := aoa_spec h
  exact ⟨c, fun n z => ⟨(fun q hq => by cases hq), k, h3, cm, h4⟩, h5⟩
section FR2
variable {p : Program} {l : Launch} {e : Env} {R : Room} {s : State} {m : MethodId} {args : Array Value} {below : List Frame} {meth : Method} {c : Code} {H : Heap} {locs : List Loc} {cells slots : Nat} {Q : State → Prop}
variable {cc : ByteArray} {pc : Nat} {ls : Array Slot} {rest : List Value} {D : va_G} {cl : List vw_C} {A : Nat → Prop} {a : Nat} {tys : List (ClassId × FieldType)} {ws : va_W} {H0 : Heap}
theorem fr_newa (hexec : p.tables.exec = Jvm.exec) (hb : c.code = cc) {atype : ArrayType} (harr : (Cond.arrayClass (newarray.typeOf atype)).before args s = true) {ty : FieldType} (hty : newarray.typeOf atype = ty) (hbn : byNm ty = true) (hK : va_K D cl tys s) {t0 : Nat} {cA : ClassId} (ht0 : tys[t0]? = some (cA, ty)) (hP : va_P D cl ws H) (hD : va_D A ws) (hS : va_S A H0 H locs) (hA : ∀ q, H0.size ≤ q → A q)
    {n : Int32} {N' : Nat} {a0 : vp_A} (ha : ∀ cA : ClassId, vp_cell cA a0 = arrV cA N' (fun _ => defaultValue ty)) (hn : ¬ n < 0) (hN : n.toNatClampNeg = N') (hbytes : N' * componentBytes ty ≤ 536870912) (hcells : cells + 1 ≤ R.cells) (hslots : slots + N' ≤ R.slots) (hdg : decode cc pc = .ok (.newarray atype, 2))
    (kk : ∀ (q : Nat) (H1 : Heap), va_P D cl (ws ++ [(q, .inl (cA, a0))]) H1 → va_D A (ws ++ [(q, .inl (cA, a0))]) → va_S A H0 H1 locs →
      W p l e R s m args below meth c H1 locs (cells + 1) (slots + N') Q (F0 m (pc + 2) ls (.ref q :: rest))) : W p l e R s m args below meth c H locs cells slots Q (F0 m pc ls (.int n :: rest)) := by
  refine va_newa hexec hb harr hty hK hP hD hS hA ha hn hN hbytes hcells hslots hdg (fun q cA' H1 hK1 hP1 hD1 hS1 => ?_)
  have h1 := ka_nm hK hbn ht0
  have h2 := ka_nm hK1 hbn (show (tys ++ [(cA', ty)])[tys.length]? = some (cA', ty) by simp)
  cases Option.some.inj (h1.symm.trans h2)
  exact kk q H1 hP1 hD1 hS1
theorem pl_rows {N : Nat} {r : Nat → Nat} {f : Nat → va_E} {e : va_E} : va_pl ([] ++ (List.range N).map r) (vr_up f ((List.range N).map r) e) = (List.range N).map (fun i => (r i, e)) := by
  unfold va_pl
  rw [List.nil_append, List.map_map]
  apply List.map_congr_left
  intro i hi
  show (r i, vr_up f ((List.range N).map r) e (r i)) = _
  rw [vr_up_in (List.mem_map.mpr ⟨i, hi, rfl⟩)]
/-- the same cells under another description -/
theorem P_one {wa wb : va_W} {q : Nat} {cA : ClassId} {a a' : vp_A} (h : vp_cell cA a = vp_cell cA a') (hP : va_P D cl (wa ++ (q, .inl (cA, a)) :: wb) H) : va_P D cl (wa ++ (q, .inl (cA, a')) :: wb) H := by
  intro k x hx
  by_cases h1 : k < wa.length
  · rw [List.getElem?_append_left h1] at hx
    exact hP k x (by rw [List.getElem?_append_left h1]; exact hx)
  · rw [List.getElem?_append_right (by omega)] at hx
    by_cases h2 : k - wa.length = 0
    · rw [h2] at hx
      cases hx
      have := hP k (q, .inl (cA, a)) (by rw [List.getElem?_append_right (by omega), h2]; rfl)
      have this : H[q]? = some (vp_cell cA a) := this
      rw [h] at this
      exact this
    · obtain ⟨j, hj⟩ : ∃ j, k - wa.length = j + 1 := ⟨k - wa.length - 1, by omega⟩
      rw [hj] at hx
      exact hP k x (by rw [List.getElem?_append_right (by omega), hj]; exact hx)
theorem D_one {wa wb : va_W} {q : Nat} {x y : va_E} (hD : va_D A (wa ++ (q, x) :: wb)) : va_D A (wa ++ (q, y) :: wb) := by
  have key : ∀ (k : Nat) (z : Nat × va_E), (wa ++ (q, y) :: wb)[k]? = some z → ∃ z', (wa ++ (q, x) :: wb)[k]? = some z' ∧ z'.1 = z.1 := by
    intro k z hz
    by_cases h1 : k < wa.length
    · rw [List.getElem?_append_left h1] at hz ⊢
      exact ⟨z, hz, rfl⟩
    · rw [List.getElem?_append_right (by omega)] at hz ⊢
      cases hk : k - wa.length with
      | zero => rw [hk] at hz; cases hz; exact ⟨(q, x), rfl, rfl⟩
      | succ j => rw [hk] at hz; exact ⟨z, hz, rfl⟩
  refine ⟨fun i j p q hp hq h => ?_, fun k z hz => ?_⟩
  · obtain ⟨p', h1, h2⟩ := key i p hp
    obtain ⟨q', h3, h4⟩ := key j q hq
    exact hD.1 i j p' q' h1 h3 (by rw [h2, h4]; exact h)
  · obtain ⟨z', h1, h2⟩ := key k z hz
    rw [← h2]
    exact hD.2 k z' h1
theorem fr_mna {cc : ByteArray} (hexec : p.tables.exec = Jvm.exec) (hb : c.code = cc) {own : String} {index : Nat} {ty : FieldType} (hbn : byNm ty = true) (hown : s.vm.findClass own = some m.cls) (hclink : (Cond.classLink own index ("[" ++ (FieldType.array ty).toString)).before args s = true) (hover : va_AOA ty s) (harr : (Cond.arrayClass ty).before args s = true)
    (hK : va_K D cl tys s) {t0 t1 : Nat} {cy cA : ClassId} (ht0 : tys[t0]? = some (cy, ty)) (ht1 : tys[t1]? = some (cA, .array ty)) (hnm : (FieldType.array ty).toString = "[" ++ ty.toString) (hP : va_P D cl ws H) (hD : va_D A ws) (hS : va_S A H0 H locs) (hA : ∀ q, H0.size ≤ q → A q) {n k : Int32} {N' K' : Nat} {z : vp_A} (hn : ¬ n < 0) (hk : ¬ k < 0) (hN : n.toNatClampNeg = N') (hM : k.toNatClampNeg = K')
    (hb1 : N' * 4 ≤ 536870912) (hb2 : K' * componentBytes ty ≤ 536870912) (hb3 : K' ≤ 536870912) (hdf : fits ty (defaultValue ty) = true) (hdd : (defaultValue ty).isDefault = true) (hcells : cells + (1 + N') ≤ R.cells) (hslots : slots + (N' + N' * K') ≤ R.slots) (hz : ∀ c : ClassId, Jvm.Free.Multi.innerC c K' (defaultValue ty) = vp_cell c z) (hdg : decode cc pc = .ok (.multianewarray index 2, 4))
    (kk : ∀ (q : Nat) (r : Nat → Nat) (H1 : Heap), va_P D cl ((ws ++ [(q, .inl (cA, N', .inr (.inr (.inr (.inr (fun i => some (r i)))))))]) ++ (List.range N').map (fun i => (r i, .inl (cy, z)))) H1 → va_D A ((ws ++ [(q, .inl (cA, N', .inr (.inr (.inr (.inr (fun i => some (r i)))))))]) ++ (List.range N').map (fun i => (r i, .inl (cy, z)))) → va_S A H0 H1 locs →
      W p l e R s m args below meth c H1 locs (cells + 1 + N') (slots + N' + N' * K') Q (F0 m (pc + 4) ls (.ref q :: rest))) : W p l e R s m args below meth c H locs cells slots Q (F0 m pc ls (.int k :: .int n :: rest)) := by
  have hcy := ka_nm hK hbn ht0
  rw [← hnm] at hcy
  refine va_mna (X := ws) (L := []) (f := fun _ => .inl (cy, z)) hexec hb hown hclink hover harr hcy hK (by rw [show va_pl [] (fun _ => (.inl (cy, z) : va_E)) = [] from rfl, List.append_nil]; exact hP) (by rw [show va_pl [] (fun _ => (.inl (cy, z) : va_E)) = [] from rfl, List.append_nil]; exact hD) hS hA hn hk hN hM hb1 hb2 hb3 hdf hdd hcells hslots hz hdg (fun q r cA' H1 hr1 hr2 hK1 hP1 hD1 hS1 => ?_)
  have h1 := ka_nm hK (ty := .array ty) rfl ht1
  have h2 := ka_nm hK1 (ty := .array ty) rfl (show (tys ++ [(cA', .array ty)])[tys.length]? = some (cA', .array ty) by simp)
  cases Option.some.inj (h1.symm.trans h2)
  rw [pl_rows] at hP1 hD1
  refine kk q r H1 ?_ ?_ hS1
  · rw [List.append_assoc] at hP1 ⊢
    refine P_one ?_ hP1
    rw [vp_cell_q, vp_cell_q]
    unfold arrV
    congr 1
    apply Array.ext
    · simp
    · intro i h1 h2
      simp at h1
      simp [h1]
  · rw [List.append_assoc] at hD1 ⊢
    exact D_one hD1
end FR2
theorem P_app {D : va_G} {cl : List vw_C} {a b : va_W} {H : Heap} (h : va_P D cl (a ++ b) H) : va_P D cl a H ∧ va_P D cl b H := by
  refine ⟨fun k x hx => h k x ?_, fun k x hx => h (a.length + k) x ?_⟩
  · rw [List.getElem?_append_left (List.getElem?_eq_some_iff.mp hx).1]; exact hx
  · rw [List.getElem?_append_right (by omega), Nat.add_sub_cancel_left]; exact hx
theorem P_mem {D : va_G} {cl : List vw_C} {a b : va_W} {H : Heap} (hm : ∀ x, x ∈ b → x ∈ a) (h : va_P D cl a H) : va_P D cl b H := by
  intro k x hx
  obtain ⟨i, hi⟩ := List.getElem?_of_mem (hm x (List.mem_of_getElem? hx))
  exact h i x hi
theorem D_nd {A : Nat → Prop} {a : va_W} : va_D A a ↔ (a.map Prod.fst).Nodup ∧ ∀ x ∈ a, A x.1 := by
  constructor
  · rintro ⟨h1, h2⟩
    refine ⟨?_, fun x hx => ?_⟩
    · refine List.pairwise_iff_getElem.mpr (fun i j hi hj hij => ?_)
      rw [List.length_map] at hi hj
      rw [List.getElem_map, List.getElem_map]
      intro hh
      have := h1 i j _ _ (List.getElem?_eq_getElem hi) (List.getElem?_eq_getElem hj) hh
      omega
    · obtain ⟨i, hi⟩ := List.getElem?_of_mem hx
      exact h2 i x hi
  · rintro ⟨h1, h2⟩
    have h1 := List.pairwise_iff_getElem.mp h1
    refine ⟨fun i j p q hi hj hpq => ?_, fun k q hk => h2 q (List.mem_of_getElem? hk)⟩
    obtain ⟨hj', ej⟩ := List.getElem?_eq_some_iff.mp hj
    obtain ⟨hi', ei⟩ := List.getElem?_eq_some_iff.mp hi
    rcases Nat.lt_trichotomy i j with h | h | h
    · have := h1 i j (by rw [List.length_map]; exact hi') (by rw [List.length_map]; exact hj') h
      rw [List.getElem_map, List.getElem_map, ei, ej] at this
      exact absurd hpq this
    · exact h
    · have := h1 j i (by rw [List.length_map]; exact hj') (by rw [List.length_map]; exact hi') h
      rw [List.getElem_map, List.getElem_map, ei, ej] at this
      exact absurd hpq.symm this
theorem D_perm {A : Nat → Prop} {a b : va_W} (hp : b.Perm a) (h : va_D A a) : va_D A b := by
  rw [D_nd] at h ⊢
  refine ⟨(hp.map Prod.fst).nodup_iff.mpr h.1, fun x hx => h.2 x (hp.mem_iff.mp hx)⟩
theorem P_perm {D : va_G} {cl : List vw_C} {a b : va_W} {H : Heap} (hp : b.Perm a) (h : va_P D cl a H) : va_P D cl b H := P_mem (fun x hx => hp.mem_iff.mp hx) h
/-- behind a call: the caller's other cells, and the callee's world -/
theorem fr_join {wl : Dt → St → va_W} (hw : wlAd wl) {A0 : Nat → Prop} {D : va_G} {wr w1 : va_W} {d : Dt} {S : St} {H H1 : Heap} (hP : va_P D vwCl (wr ++ wl d S) H) (hD : va_D A0 (wr ++ wl d S)) (hA : ∀ q, H.size ≤ q → A0 q)
    (hk : ∀ q : Nat, q < H.size → ¬ aA wl d H.size q → H1[q]? = H[q]?) (hP1 : va_P D vwCl w1 H1) (hD1 : va_D (aA wl d H.size) w1) : va_P D vwCl (wr ++ w1) H1 ∧ va_D A0 (wr ++ w1) := by
  have hin : ∀ q, aA wl d H.size q → q < H.size → ∃ (k : Nat) (e : va_E), (wl d S)[k]? = some (q, e) := by
    intro q hq hl
    rcases hq with ⟨k, e, hq⟩ | hq
    · obtain ⟨e', he'⟩ := hw d st0 S k q e hq
      exact ⟨k, e', he'⟩
    · omega
  have hfree : ∀ q, aA wl d H.size q → A0 q := by
    intro q hq
    by_cases hl : q < H.size
    · obtain ⟨k, e, h⟩ := hin q hq hl
      exact hD.2 (wr.length + k) (q, e) (by rw [List.getElem?_append_right (by omega), Nat.add_sub_cancel_left]; exact h)
    · exact hA q (by omega)
  have hlt : ∀ (k : Nat) (x : Nat × va_E), wr[k]? = some x → x.1 < H.size := fun k x hx => ((P_app hP).1 k x hx).lt
  have hout : ∀ (k : Nat) (x : Nat × va_E), wr[k]? = some x → ¬ aA wl d H.size x.1 := by
    intro k x hx hq
    obtain ⟨j, e, h⟩ := hin x.1 hq (hlt k x hx)
    have hkl := (List.getElem?_eq_some_iff.mp hx).1
    have := hD.1 k (wr.length + j) x (x.1, e) (by rw [List.getElem?_append_left hkl]; exact hx) (by rw [List.getElem?_append_right (by omega), Nat.add_sub_cancel_left]; exact h) rfl
    omega
  have hPr : va_P D vwCl wr H1 := (P_app hP).1.kept (fun k x hx => hk x.1 (hlt k x hx) (hout k x hx))
  refine ⟨hPr.app hP1, ?_⟩
  refine ⟨fun i j p q hi hj hpq => ?_, fun k q hq => ?_⟩
  · by_cases h1 : i < wr.length <;> by_cases h2 : j < wr.length
    · rw [List.getElem?_append_left h1] at hi
      rw [List.getElem?_append_left h2] at hj
      exact hD.1 i j p q (by rw [List.getElem?_append_left h1]; exact hi) (by rw [List.getElem?_append_left h2]; exact hj) hpq
    · rw [List.getElem?_append_left h1] at hi
      rw [List.getElem?_append_right (by omega)] at hj
      exact absurd (by rw [hpq]; exact hD1.2 _ q hj) (hout i p hi)
    · rw [List.getElem?_append_right (by omega)] at hi
      rw [List.getElem?_append_left h2] at hj
      exact absurd (by rw [← hpq]; exact hD1.2 _ p hi) (hout j q hj)
    · rw [List.getElem?_append_right (by omega)] at hi hj
      have := hD1.1 _ _ p q hi hj hpq
      omega
  · by_cases h1 : k < wr.length
    · rw [List.getElem?_append_left h1] at hq
      exact hD.2 k q (by rw [List.getElem?_append_left h1]; exact hq)
    · rw [List.getElem?_append_right (by omega)] at hq
      exact hfree _ (hD1.2 _ q hq)
