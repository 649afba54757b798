/-! ===== the two worlds: printed by genworld.py out of the fields' tables ===== -/
theorem wl_get {α : Type} (f : Nat → α) {N c : Nat} (h : c < N) : ((List.range N).map f)[c]? = some (f c) := by
  rw [List.getElem?_map, List.getElem?_range h]
  rfl
theorem wl_set {α : Type} {f g : Nat → α} {N c : Nat} {x : α} (hc : g c = x) (h : ∀ j, j ≠ c → g j = f j) : ((List.range N).map f).set c x = (List.range N).map g := by
  apply List.ext_getElem?
  intro j
  rw [List.getElem?_set]
  by_cases e : c = j
  · subst e
    rw [if_pos rfl, List.length_map, List.length_range]
    by_cases hl : c < N
    · rw [if_pos hl, wl_get g hl, hc]
    · rw [if_neg hl, List.getElem?_eq_none (by simpa using hl)]
  · rw [if_neg e]
    by_cases hl : j < N
    · rw [wl_get f hl, wl_get g hl, h j (fun q => e q.symm)]
    · rw [List.getElem?_eq_none (by simpa using hl), List.getElem?_eq_none (by simpa using hl)]
def lenM (c : Nat) : Nat := if c ≤ 5 then 30 else if c = 6 then 40 else if c = 7 then 6 else if c ≤ 10 then 31 else if c ≤ 12 then 6200 else if c = 13 then 31 else if c ≤ 15 then 10 else 320
def objM (d : Dt) (S : St) : va_E := .inr (4, [.int (gI S 0), .int (gI S 1), .int (gI S 2), .int (gI S 3), .ref (d.1 1), .ref (d.1 2), .ref (d.1 3), .ref (d.1 4), .ref (d.1 5), .ref (d.1 6), .ref (d.1 7), .int (gI S 11), .int (gI S 12), .long (gL S 13), .ref (d.1 8), .ref (d.1 9), .ref (d.1 10), .ref (d.1 11), .ref (d.1 12), .ref (d.1 13), .int (gI S 20), .int (gI S 21), .long (gL S 22), .ref (d.1 14), .ref (d.1 15), .int (gI S 25), .ref (d.1 16), .ref (d.1 17), .ref (d.1 18), .long (gL S 29)])
def cellM (d : Dt) (S : St) (c : Nat) : va_E := if c = 0 then objM d S else if c = 12 ∨ c = 15 ∨ c = 18 then .inl (d.2.2.1, lenM c, .inr (.inl (gB S c))) else if c = 7 then .inl (d.2.2.2.1, lenM c, .inl (gA S c)) else .inl (d.2.1, lenM c, .inl (gA S c))
def wlM (d : Dt) (S : St) : va_W := (List.range 19).map (fun c => (d.1 c, cellM d S c))
def lenC (c : Nat) : Nat := if c ≤ 8 then 30 else if c ≤ 18 then 31 else if c ≤ 22 then 10 else if c ≤ 84 then 200 else 10
def objC0 (d : Dt) (S : St) : va_E := .inr (3, [.ref (d.1 1), .ref (d.1 2), .ref (d.1 3)])
def objC1 (d : Dt) (S : St) : va_E := .inr (1, [.ref (d.1 4), .ref (d.1 5), .ref (d.1 6), .ref (d.1 7), .ref (d.1 8), .ref (d.1 9), .ref (d.1 10), .int (gI S 207), .int (gI S 208), .int (gI S 209), .int (gI S 210)])
def objC2 (d : Dt) (S : St) : va_E := .inr (0, [.ref (d.1 1), .ref (d.1 11), .ref (d.1 12), .ref (d.1 13), .ref (d.1 14), .ref (d.1 15), .ref (d.1 16), .ref (d.1 17), .int (gI S 108), .long (gL S 109), .int (gI S 110)])
def objC3 (d : Dt) (S : St) : va_E := .inr (2, [.ref (d.1 1), .ref (d.1 18), .long (gL S 302), .int (gI S 303), .int (gI S 304)])
def cellC (d : Dt) (S : St) (c : Nat) : va_E := if c = 0 then objC0 d S else if c = 1 then objC1 d S else if c = 2 then objC2 d S else if c = 3 then objC3 d S else if c = 9 then .inl (d.2.2.2.2.1, 4, .inr (.inr (.inr (.inr (fun i => some (d.1 (19 + i))))))) else if c = 11 then .inl (d.2.2.2.2.1, 31, .inr (.inr (.inr (.inr (fun i => some (d.1 (23 + i))))))) else if c = 12 then .inl (d.2.2.2.2.2, 31, .inr (.inr (.inr (.inr (fun i => some (d.1 (54 + i))))))) else if c = 18 then .inl (d.2.2.2.2.2, 6, .inr (.inr (.inr (.inr (fun i => some (d.1 (85 + i))))))) else if 54 ≤ c then .inl (d.2.2.1, lenC c, .inr (.inl (gB S c))) else .inl (d.2.1, lenC c, .inl (gA S c))
def wlC (d : Dt) (S : St) : va_W := (List.range 91).map (fun c => (d.1 c, cellC d S c))
theorem wadM : wlAd wlM := by
  intro d S S' k q e hk
  by_cases hl : k < 19
  · unfold wlM at hk
    rw [wl_get _ hl] at hk
    cases hk
    exact ⟨_, wl_get _ hl⟩
  · unfold wlM at hk
    rw [List.getElem?_eq_none (by simpa using hl)] at hk
    cases hk
theorem wadC : wlAd wlC := by
  intro d S S' k q e hk
  by_cases hl : k < 91
  · unfold wlC at hk
    rw [wl_get _ hl] at hk
    cases hk
    exact ⟨_, wl_get _ hl⟩
  · unfold wlC at hk
    rw [List.getElem?_eq_none (by simpa using hl)] at hk
    cases hk
theorem cellM_sA (d : Dt) (S : St) (c j : Nat) (f : Nat → Int32) (h : j ≠ c) : cellM d (sA S c f) j = cellM d S j := by
  unfold cellM objM
  simp only [gI_sA, gL_sA, gB_sA, gA_sA, if_neg h]
theorem cellM_sB (d : Dt) (S : St) (c j : Nat) (f : Nat → Int64) (h : j ≠ c) : cellM d (sB S c f) j = cellM d S j := by
  unfold cellM objM
  simp only [gI_sB, gL_sB, gB_sB, gA_sB, if_neg h]
theorem cellC_sA (d : Dt) (S : St) (c j : Nat) (f : Nat → Int32) (h : j ≠ c) : cellC d (sA S c f) j = cellC d S j := by
  unfold cellC objC0 objC1 objC2 objC3
  simp only [gI_sA, gL_sA, gB_sA, gA_sA, if_neg h]
theorem cellC_sB (d : Dt) (S : St) (c j : Nat) (f : Nat → Int64) (h : j ≠ c) : cellC d (sB S c f) j = cellC d S j := by
  unfold cellC objC0 objC1 objC2 objC3
  simp only [gI_sB, gL_sB, gB_sB, gA_sB, if_neg h]
theorem aiM (c : Nat) {n : Nat} (h : c < 19) (h0 : ∀ d S, cellM d S c = .inl (d.2.1, n, .inl (gA S c))) : AI wlM c n := fun d S => ⟨by
  unfold wlM; rw [wl_get _ h, h0], fun f => by
  unfold wlM
  exact wl_set (by rw [h0, gA_sA, if_pos rfl]) (fun j hj => by rw [cellM_sA _ _ _ _ _ hj])⟩
theorem azM (c : Nat) {n : Nat} (h : c < 19) (h0 : ∀ d S, cellM d S c = .inl (d.2.2.2.1, n, .inl (gA S c))) : AZ wlM c n := fun d S => ⟨by
  unfold wlM; rw [wl_get _ h, h0], fun f => by
  unfold wlM
  exact wl_set (by rw [h0, gA_sA, if_pos rfl]) (fun j hj => by rw [cellM_sA _ _ _ _ _ hj])⟩
theorem alM (c : Nat) {n : Nat} (h : c < 19) (h0 : ∀ d S, cellM d S c = .inl (d.2.2.1, n, .inr (.inl (gB S c)))) : AL wlM c n := fun d S => ⟨by
  unfold wlM; rw [wl_get _ h, h0], fun f => by
  unfold wlM
  exact wl_set (by rw [h0, gB_sB, if_pos rfl]) (fun j hj => by rw [cellM_sB _ _ _ _ _ hj])⟩
theorem aiC (c : Nat) {n : Nat} (h : c < 91) (h0 : ∀ d S, cellC d S c = .inl (d.2.1, n, .inl (gA S c))) : AI wlC c n := fun d S => ⟨by
  unfold wlC; rw [wl_get _ h, h0], fun f => by
  unfold wlC
  exact wl_set (by rw [h0, gA_sA, if_pos rfl]) (fun j hj => by rw [cellC_sA _ _ _ _ _ hj])⟩
theorem alC (c : Nat) {n : Nat} (h : c < 91) (h0 : ∀ d S, cellC d S c = .inl (d.2.2.1, n, .inr (.inl (gB S c)))) : AL wlC c n := fun d S => ⟨by
  unfold wlC; rw [wl_get _ h, h0], fun f => by
  unfold wlC
  exact wl_set (by rw [h0, gB_sB, if_pos rfl]) (fun j hj => by rw [cellC_sB _ _ _ _ _ hj])⟩
theorem arC (c : Nat) {n b : Nat} (t0 : Nat) (ty : FieldType) (cR : Dt → ClassId) (h : c < 91) (ht : ∀ d : Dt, (dtT d)[t0]? = some (cR d, .array ty)) (h0 : ∀ d S, cellC d S c = .inl (cR d, n, .inr (.inr (.inr (.inr (fun i => some (d.1 (b + i)))))))) : AR wlC c n b := ⟨t0, ty, cR, ht, fun d S => by
  unfold wlC; rw [wl_get _ h, h0]⟩
theorem arC_9 : AR wlC 9 4 19 := arC 9 3 .int (fun d => d.2.2.2.2.1) (by decide) (fun _ => rfl) (fun _ _ => rfl)
theorem arC_11 : AR wlC 11 31 23 := arC 11 3 .int (fun d => d.2.2.2.2.1) (by decide) (fun _ => rfl) (fun _ _ => rfl)
theorem arC_12 : AR wlC 12 31 54 := arC 12 4 .long (fun d => d.2.2.2.2.2) (by decide) (fun _ => rfl) (fun _ _ => rfl)
theorem arC_18 : AR wlC 18 6 85 := arC 18 4 .long (fun d => d.2.2.2.2.2) (by decide) (fun _ => rfl) (fun _ _ => rfl)
theorem roC_9 {i : Int32} (h : inB i 4 = true) : AI wlC (19 + i.toNatClampNeg) 10 := by
  have := inB_lt h
  generalize i.toNatClampNeg = j at this
  refine aiC _ (by omega) (fun d S => ?_)
  unfold cellC lenC
  rw [if_neg (by omega), if_neg (by omega), if_neg (by omega), if_neg (by omega), if_neg (by omega), if_neg (by omega), if_neg (by omega), if_neg (by omega), if_neg (by omega), if_neg (by omega), if_neg (by omega), if_pos (by omega)]
theorem roC_11 {i : Int32} (h : inB i 31 = true) : AI wlC (23 + i.toNatClampNeg) 200 := by
  have := inB_lt h
  generalize i.toNatClampNeg = j at this
  refine aiC _ (by omega) (fun d S => ?_)
  unfold cellC lenC
  rw [if_neg (by omega), if_neg (by omega), if_neg (by omega), if_neg (by omega), if_neg (by omega), if_neg (by omega), if_neg (by omega), if_neg (by omega), if_neg (by omega), if_neg (by omega), if_neg (by omega), if_neg (by omega), if_pos (by omega)]
theorem roC_12 {i : Int32} (h : inB i 31 = true) : AL wlC (54 + i.toNatClampNeg) 200 := by
  have := inB_lt h
  generalize i.toNatClampNeg = j at this
  refine alC _ (by omega) (fun d S => ?_)
  unfold cellC lenC
  rw [if_neg (by omega), if_neg (by omega), if_neg (by omega), if_neg (by omega), if_neg (by omega), if_neg (by omega), if_neg (by omega), if_neg (by omega), if_pos (by omega), if_neg (by omega), if_neg (by omega), if_neg (by omega), if_pos (by omega)]
theorem roC_18 {i : Int32} (h : inB i 6 = true) : AL wlC (85 + i.toNatClampNeg) 10 := by
  have := inB_lt h
  generalize i.toNatClampNeg = j at this
  refine alC _ (by omega) (fun d S => ?_)
  unfold cellC lenC
  rw [if_neg (by omega), if_neg (by omega), if_neg (by omega), if_neg (by omega), if_neg (by omega), if_neg (by omega), if_neg (by omega), if_neg (by omega), if_pos (by omega), if_neg (by omega), if_neg (by omega), if_neg (by omega), if_neg (by omega)]
theorem aM_1 : AI wlM 1 30 := aiM 1 (by decide) (fun _ _ => rfl)
theorem aM_2 : AI wlM 2 30 := aiM 2 (by decide) (fun _ _ => rfl)
theorem aM_3 : AI wlM 3 30 := aiM 3 (by decide) (fun _ _ => rfl)
theorem aM_4 : AI wlM 4 30 := aiM 4 (by decide) (fun _ _ => rfl)
theorem aM_5 : AI wlM 5 30 := aiM 5 (by decide) (fun _ _ => rfl)
theorem aM_6 : AI wlM 6 40 := aiM 6 (by decide) (fun _ _ => rfl)
theorem aM_8 : AI wlM 8 31 := aiM 8 (by decide) (fun _ _ => rfl)
theorem aM_9 : AI wlM 9 31 := aiM 9 (by decide) (fun _ _ => rfl)
theorem aM_10 : AI wlM 10 31 := aiM 10 (by decide) (fun _ _ => rfl)
theorem aM_11 : AI wlM 11 6200 := aiM 11 (by decide) (fun _ _ => rfl)
theorem aM_13 : AI wlM 13 31 := aiM 13 (by decide) (fun _ _ => rfl)
theorem aM_14 : AI wlM 14 10 := aiM 14 (by decide) (fun _ _ => rfl)
theorem aM_16 : AI wlM 16 320 := aiM 16 (by decide) (fun _ _ => rfl)
theorem aM_17 : AI wlM 17 320 := aiM 17 (by decide) (fun _ _ => rfl)
theorem aM_7 : AZ wlM 7 6 := azM 7 (by decide) (fun _ _ => rfl)
theorem aM_12 : AL wlM 12 6200 := alM 12 (by decide) (fun _ _ => rfl)
theorem aM_15 : AL wlM 15 10 := alM 15 (by decide) (fun _ _ => rfl)
theorem aM_18 : AL wlM 18 320 := alM 18 (by decide) (fun _ _ => rfl)
theorem aC_4 : AI wlC 4 30 := aiC 4 (by decide) (fun _ _ => rfl)
theorem aC_5 : AI wlC 5 30 := aiC 5 (by decide) (fun _ _ => rfl)
theorem aC_6 : AI wlC 6 30 := aiC 6 (by decide) (fun _ _ => rfl)
theorem aC_7 : AI wlC 7 30 := aiC 7 (by decide) (fun _ _ => rfl)
theorem aC_8 : AI wlC 8 30 := aiC 8 (by decide) (fun _ _ => rfl)
theorem aC_10 : AI wlC 10 31 := aiC 10 (by decide) (fun _ _ => rfl)
theorem aC_13 : AI wlC 13 31 := aiC 13 (by decide) (fun _ _ => rfl)
theorem aC_14 : AI wlC 14 31 := aiC 14 (by decide) (fun _ _ => rfl)
theorem aC_15 : AI wlC 15 31 := aiC 15 (by decide) (fun _ _ => rfl)
theorem aC_16 : AI wlC 16 31 := aiC 16 (by decide) (fun _ _ => rfl)
theorem aC_17 : AI wlC 17 31 := aiC 17 (by decide) (fun _ _ => rfl)
theorem obX4 : OB wlC 0 RX4 := ⟨3, _, rfl, rfl, fun d S => ⟨_, wl_get (fun c => (d.1 c, cellC d S c)) (by decide)⟩⟩
theorem obX2 : OB wlC 1 RX2 := ⟨1, _, rfl, rfl, fun d S => ⟨_, wl_get (fun c => (d.1 c, cellC d S c)) (by decide)⟩⟩
theorem obX1 : OB wlC 2 RX1 := ⟨0, _, rfl, rfl, fun d S => ⟨_, wl_get (fun c => (d.1 c, cellC d S c)) (by decide)⟩⟩
theorem obX3 : OB wlC 3 RX3 := ⟨2, _, rfl, rfl, fun d S => ⟨_, wl_get (fun c => (d.1 c, cellC d S c)) (by decide)⟩⟩
theorem obX5 : OB wlM 0 RX5 := ⟨4, _, rfl, rfl, fun d S => ⟨_, wl_get (fun c => (d.1 c, cellM d S c)) (by decide)⟩⟩
theorem uwX1 : ∀ w ∈ u_ws RX1 TX1 11, w ∈ TsG := by
  intro w hw
  obtain ⟨k, hk, rfl⟩ := List.mem_map.mp hw
  have hk := List.mem_range.mp hk
  match k, hk with
  | 0, _ => exact T11 (i := 97) rfl rfl
  | 1, _ => exact T11 (i := 99) rfl rfl
  | 2, _ => exact T11 (i := 101) rfl rfl
  | 3, _ => exact T11 (i := 103) rfl rfl
  | 4, _ => exact T11 (i := 105) rfl rfl
  | 5, _ => exact T11 (i := 107) rfl rfl
  | 6, _ => exact T11 (i := 109) rfl rfl
  | 7, _ => exact T11 (i := 111) rfl rfl
  | 8, _ => exact T11 (i := 113) rfl rfl
  | 9, _ => exact T11 (i := 115) rfl rfl
  | 10, _ => exact T11 (i := 117) rfl rfl
  | k + 11, hk => exact absurd hk (by omega)
theorem uwX2 : ∀ w ∈ u_ws RX2 TX2 11, w ∈ TsG := by
  intro w hw
  obtain ⟨k, hk, rfl⟩ := List.mem_map.mp hw
  have hk := List.mem_range.mp hk
  match k, hk with
  | 0, _ => exact T11 (i := 48) rfl rfl
  | 1, _ => exact T11 (i := 50) rfl rfl
  | 2, _ => exact T11 (i := 52) rfl rfl
  | 3, _ => exact T11 (i := 54) rfl rfl
  | 4, _ => exact T11 (i := 56) rfl rfl
  | 5, _ => exact T11 (i := 58) rfl rfl
  | 6, _ => exact T11 (i := 60) rfl rfl
  | 7, _ => exact T11 (i := 62) rfl rfl
  | 8, _ => exact T11 (i := 64) rfl rfl
  | 9, _ => exact T11 (i := 66) rfl rfl
  | 10, _ => exact T11 (i := 68) rfl rfl
  | k + 11, hk => exact absurd hk (by omega)
theorem uwX3 : ∀ w ∈ u_ws RX3 TX3 5, w ∈ TsG := by
  intro w hw
  obtain ⟨k, hk, rfl⟩ := List.mem_map.mp hw
  have hk := List.mem_range.mp hk
  match k, hk with
  | 0, _ => exact T11 (i := 135) rfl rfl
  | 1, _ => exact T11 (i := 137) rfl rfl
  | 2, _ => exact T11 (i := 139) rfl rfl
  | 3, _ => exact T11 (i := 141) rfl rfl
  | 4, _ => exact T11 (i := 143) rfl rfl
  | k + 5, hk => exact absurd hk (by omega)
theorem uwX4 : ∀ w ∈ u_ws RX4 TX4 3, w ∈ TsG := by
  intro w hw
  obtain ⟨k, hk, rfl⟩ := List.mem_map.mp hw
  have hk := List.mem_range.mp hk
  match k, hk with
  | 0, _ => exact T11 (i := 149) rfl rfl
  | 1, _ => exact T11 (i := 151) rfl rfl
  | 2, _ => exact T11 (i := 153) rfl rfl
  | k + 3, hk => exact absurd hk (by omega)
theorem uwX5 : ∀ w ∈ u_ws RX5 TX5 30, w ∈ TsG := by
  intro w hw
  obtain ⟨k, hk, rfl⟩ := List.mem_map.mp hw
  have hk := List.mem_range.mp hk
  match k, hk with
  | 0, _ => exact T13 (i := 136) rfl rfl
  | 1, _ => exact T13 (i := 138) rfl rfl
  | 2, _ => exact T13 (i := 140) rfl rfl
  | 3, _ => exact T13 (i := 142) rfl rfl
  | 4, _ => exact T13 (i := 144) rfl rfl
  | 5, _ => exact T13 (i := 146) rfl rfl
  | 6, _ => exact T13 (i := 148) rfl rfl
  | 7, _ => exact T13 (i := 150) rfl rfl
  | 8, _ => exact T13 (i := 152) rfl rfl
  | 9, _ => exact T13 (i := 154) rfl rfl
  | 10, _ => exact T13 (i := 156) rfl rfl
  | 11, _ => exact T13 (i := 158) rfl rfl
  | 12, _ => exact T13 (i := 160) rfl rfl
  | 13, _ => exact T13 (i := 162) rfl rfl
  | 14, _ => exact T13 (i := 164) rfl rfl
  | 15, _ => exact T13 (i := 166) rfl rfl
  | 16, _ => exact T13 (i := 168) rfl rfl
  | 17, _ => exact T13 (i := 170) rfl rfl
  | 18, _ => exact T13 (i := 172) rfl rfl
  | 19, _ => exact T13 (i := 174) rfl rfl
  | 20, _ => exact T13 (i := 176) rfl rfl
  | 21, _ => exact T13 (i := 178) rfl rfl
  | 22, _ => exact T13 (i := 180) rfl rfl
  | 23, _ => exact T13 (i := 182) rfl rfl
  | 24, _ => exact T13 (i := 184) rfl rfl
  | 25, _ => exact T13 (i := 186) rfl rfl
  | 26, _ => exact T13 (i := 188) rfl rfl
  | 27, _ => exact T13 (i := 190) rfl rfl
  | 28, _ => exact T13 (i := 192) rfl rfl
  | 29, _ => exact T13 (i := 194) rfl rfl
  | k + 30, hk => exact absurd hk (by omega)
theorem gX1_11 : GF wlC RX1 11 2 (fun d _ => .ref (d.1 11)) := ⟨0, 1, RX1, TX1, 11, rfl, uwX1, by decide, Or.inl (T11 (i := 82) rfl rfl), rfl, fun d S => ⟨_, wl_get (fun c => (d.1 c, cellC d S c)) (by decide), rfl⟩⟩
theorem gX1_18 : GF wlC RX1 18 2 (fun d _ => .ref (d.1 12)) := ⟨0, 2, RX1, TX1, 11, rfl, uwX1, by decide, Or.inl (T11 (i := 83) rfl rfl), rfl, fun d S => ⟨_, wl_get (fun c => (d.1 c, cellC d S c)) (by decide), rfl⟩⟩
theorem gX1_21 : GF wlC RX1 21 2 (fun d _ => .ref (d.1 13)) := ⟨0, 3, RX1, TX1, 11, rfl, uwX1, by decide, Or.inl (T11 (i := 84) rfl rfl), rfl, fun d S => ⟨_, wl_get (fun c => (d.1 c, cellC d S c)) (by decide), rfl⟩⟩
theorem gX1_25 : GF wlC RX1 25 2 (fun d _ => .ref (d.1 14)) := ⟨0, 4, RX1, TX1, 11, rfl, uwX1, by decide, Or.inl (T11 (i := 85) rfl rfl), rfl, fun d S => ⟨_, wl_get (fun c => (d.1 c, cellC d S c)) (by decide), rfl⟩⟩
theorem gX1_28 : GF wlC RX1 28 2 (fun d _ => .ref (d.1 15)) := ⟨0, 5, RX1, TX1, 11, rfl, uwX1, by decide, Or.inl (T11 (i := 86) rfl rfl), rfl, fun d S => ⟨_, wl_get (fun c => (d.1 c, cellC d S c)) (by decide), rfl⟩⟩
theorem gX1_31 : GF wlC RX1 31 2 (fun d _ => .ref (d.1 16)) := ⟨0, 6, RX1, TX1, 11, rfl, uwX1, by decide, Or.inl (T11 (i := 88) rfl rfl), rfl, fun d S => ⟨_, wl_get (fun c => (d.1 c, cellC d S c)) (by decide), rfl⟩⟩
theorem gX1_34 : GF wlC RX1 34 2 (fun d _ => .ref (d.1 17)) := ⟨0, 7, RX1, TX1, 11, rfl, uwX1, by decide, Or.inl (T11 (i := 90) rfl rfl), rfl, fun d S => ⟨_, wl_get (fun c => (d.1 c, cellC d S c)) (by decide), rfl⟩⟩
theorem gX1_37 : GF wlC RX1 37 2 (fun d _ => .ref (d.1 1)) := ⟨0, 0, RX1, TX1, 11, rfl, uwX1, by decide, Or.inl (T11 (i := 81) rfl rfl), rfl, fun d S => ⟨_, wl_get (fun c => (d.1 c, cellC d S c)) (by decide), rfl⟩⟩
theorem gX1_59 : GF wlC RX1 59 2 (fun _ S => .long (gL S 109)) := ⟨0, 9, RX1, TX1, 11, rfl, uwX1, by decide, Or.inl (T11 (i := 93) rfl rfl), rfl, fun d S => ⟨_, wl_get (fun c => (d.1 c, cellC d S c)) (by decide), rfl⟩⟩
theorem gX1_63 : GF wlC RX1 63 2 (fun _ S => .int (gI S 110)) := ⟨0, 10, RX1, TX1, 11, rfl, uwX1, by decide, Or.inl (T11 (i := 95) rfl rfl), rfl, fun d S => ⟨_, wl_get (fun c => (d.1 c, cellC d S c)) (by decide), rfl⟩⟩
theorem gX1_91 : GF wlC RX1 91 1 (fun _ S => .int (gI S 208)) := ⟨1, 8, RX2, TX2, 11, rfl, uwX2, by decide, Or.inr ⟨_, N11 (i := 43) rfl rfl⟩, rfl, fun d S => ⟨_, wl_get (fun c => (d.1 c, cellC d S c)) (by decide), rfl⟩⟩
theorem gX2_9 : GF wlC RX2 9 1 (fun d _ => .ref (d.1 4)) := ⟨1, 0, RX2, TX2, 11, rfl, uwX2, by decide, Or.inl (T11 (i := 33) rfl rfl), rfl, fun d S => ⟨_, wl_get (fun c => (d.1 c, cellC d S c)) (by decide), rfl⟩⟩
theorem gX2_15 : GF wlC RX2 15 1 (fun d _ => .ref (d.1 5)) := ⟨1, 1, RX2, TX2, 11, rfl, uwX2, by decide, Or.inl (T11 (i := 34) rfl rfl), rfl, fun d S => ⟨_, wl_get (fun c => (d.1 c, cellC d S c)) (by decide), rfl⟩⟩
theorem gX2_18 : GF wlC RX2 18 1 (fun d _ => .ref (d.1 6)) := ⟨1, 2, RX2, TX2, 11, rfl, uwX2, by decide, Or.inl (T11 (i := 35) rfl rfl), rfl, fun d S => ⟨_, wl_get (fun c => (d.1 c, cellC d S c)) (by decide), rfl⟩⟩
theorem gX2_21 : GF wlC RX2 21 1 (fun d _ => .ref (d.1 7)) := ⟨1, 3, RX2, TX2, 11, rfl, uwX2, by decide, Or.inl (T11 (i := 36) rfl rfl), rfl, fun d S => ⟨_, wl_get (fun c => (d.1 c, cellC d S c)) (by decide), rfl⟩⟩
theorem gX2_24 : GF wlC RX2 24 1 (fun d _ => .ref (d.1 8)) := ⟨1, 4, RX2, TX2, 11, rfl, uwX2, by decide, Or.inl (T11 (i := 37) rfl rfl), rfl, fun d S => ⟨_, wl_get (fun c => (d.1 c, cellC d S c)) (by decide), rfl⟩⟩
theorem gX2_29 : GF wlC RX2 29 1 (fun d _ => .ref (d.1 9)) := ⟨1, 5, RX2, TX2, 11, rfl, uwX2, by decide, Or.inl (T11 (i := 38) rfl rfl), rfl, fun d S => ⟨_, wl_get (fun c => (d.1 c, cellC d S c)) (by decide), rfl⟩⟩
theorem gX2_32 : GF wlC RX2 32 1 (fun d _ => .ref (d.1 10)) := ⟨1, 6, RX2, TX2, 11, rfl, uwX2, by decide, Or.inl (T11 (i := 39) rfl rfl), rfl, fun d S => ⟨_, wl_get (fun c => (d.1 c, cellC d S c)) (by decide), rfl⟩⟩
theorem gX2_38 : GF wlC RX2 38 1 (fun _ S => .int (gI S 208)) := ⟨1, 8, RX2, TX2, 11, rfl, uwX2, by decide, Or.inl (T11 (i := 41) rfl rfl), rfl, fun d S => ⟨_, wl_get (fun c => (d.1 c, cellC d S c)) (by decide), rfl⟩⟩
theorem gX2_42 : GF wlC RX2 42 1 (fun _ S => .int (gI S 209)) := ⟨1, 9, RX2, TX2, 11, rfl, uwX2, by decide, Or.inl (T11 (i := 44) rfl rfl), rfl, fun d S => ⟨_, wl_get (fun c => (d.1 c, cellC d S c)) (by decide), rfl⟩⟩
theorem gX2_45 : GF wlC RX2 45 1 (fun _ S => .int (gI S 210)) := ⟨1, 10, RX2, TX2, 11, rfl, uwX2, by decide, Or.inl (T11 (i := 46) rfl rfl), rfl, fun d S => ⟨_, wl_get (fun c => (d.1 c, cellC d S c)) (by decide), rfl⟩⟩
theorem gX2_48 : GF wlC RX2 48 1 (fun _ S => .int (gI S 207)) := ⟨1, 7, RX2, TX2, 11, rfl, uwX2, by decide, Or.inl (T11 (i := 40) rfl rfl), rfl, fun d S => ⟨_, wl_get (fun c => (d.1 c, cellC d S c)) (by decide), rfl⟩⟩
theorem gX3_11 : GF wlC RX3 11 3 (fun d _ => .ref (d.1 18)) := ⟨2, 1, RX3, TX3, 5, rfl, uwX3, by decide, Or.inl (T11 (i := 129) rfl rfl), rfl, fun d S => ⟨_, wl_get (fun c => (d.1 c, cellC d S c)) (by decide), rfl⟩⟩
theorem gX3_16 : GF wlC RX3 16 3 (fun d _ => .ref (d.1 1)) := ⟨2, 0, RX3, TX3, 5, rfl, uwX3, by decide, Or.inl (T11 (i := 128) rfl rfl), rfl, fun d S => ⟨_, wl_get (fun c => (d.1 c, cellC d S c)) (by decide), rfl⟩⟩
theorem gX3_20 : GF wlC RX3 20 3 (fun _ S => .int (gI S 304)) := ⟨2, 4, RX3, TX3, 5, rfl, uwX3, by decide, Or.inl (T11 (i := 134) rfl rfl), rfl, fun d S => ⟨_, wl_get (fun c => (d.1 c, cellC d S c)) (by decide), rfl⟩⟩
theorem gX3_39 : GF wlC RX3 39 3 (fun _ S => .int (gI S 303)) := ⟨2, 3, RX3, TX3, 5, rfl, uwX3, by decide, Or.inl (T11 (i := 133) rfl rfl), rfl, fun d S => ⟨_, wl_get (fun c => (d.1 c, cellC d S c)) (by decide), rfl⟩⟩
theorem gX3_43 : GF wlC RX3 43 3 (fun _ S => .long (gL S 302)) := ⟨2, 2, RX3, TX3, 5, rfl, uwX3, by decide, Or.inl (T11 (i := 131) rfl rfl), rfl, fun d S => ⟨_, wl_get (fun c => (d.1 c, cellC d S c)) (by decide), rfl⟩⟩
theorem gX4_12 : GF wlC RX4 12 0 (fun d _ => .ref (d.1 1)) := ⟨3, 0, RX4, TX4, 3, rfl, uwX4, by decide, Or.inl (T11 (i := 146) rfl rfl), rfl, fun d S => ⟨_, wl_get (fun c => (d.1 c, cellC d S c)) (by decide), rfl⟩⟩
theorem gX4_21 : GF wlC RX4 21 0 (fun d _ => .ref (d.1 2)) := ⟨3, 1, RX4, TX4, 3, rfl, uwX4, by decide, Or.inl (T11 (i := 147) rfl rfl), rfl, fun d S => ⟨_, wl_get (fun c => (d.1 c, cellC d S c)) (by decide), rfl⟩⟩
theorem gX4_28 : GF wlC RX4 28 0 (fun d _ => .ref (d.1 3)) := ⟨3, 2, RX4, TX4, 3, rfl, uwX4, by decide, Or.inl (T11 (i := 148) rfl rfl), rfl, fun d S => ⟨_, wl_get (fun c => (d.1 c, cellC d S c)) (by decide), rfl⟩⟩
theorem gX4_56 : GF wlC RX4 56 1 (fun _ S => .int (gI S 208)) := ⟨1, 8, RX2, TX2, 11, rfl, uwX2, by decide, Or.inr ⟨_, N11 (i := 42) rfl rfl⟩, rfl, fun d S => ⟨_, wl_get (fun c => (d.1 c, cellC d S c)) (by decide), rfl⟩⟩
theorem gX4_88 : GF wlC RX4 88 2 (fun _ S => .int (gI S 108)) := ⟨0, 8, RX1, TX1, 11, rfl, uwX1, by decide, Or.inr ⟨_, N11 (i := 92) rfl rfl⟩, rfl, fun d S => ⟨_, wl_get (fun c => (d.1 c, cellC d S c)) (by decide), rfl⟩⟩
theorem gX4_104 : GF wlC RX4 104 2 (fun d _ => .ref (d.1 15)) := ⟨0, 5, RX1, TX1, 11, rfl, uwX1, by decide, Or.inr ⟨_, N11 (i := 87) rfl rfl⟩, rfl, fun d S => ⟨_, wl_get (fun c => (d.1 c, cellC d S c)) (by decide), rfl⟩⟩
theorem gX4_108 : GF wlC RX4 108 2 (fun d _ => .ref (d.1 16)) := ⟨0, 6, RX1, TX1, 11, rfl, uwX1, by decide, Or.inr ⟨_, N11 (i := 89) rfl rfl⟩, rfl, fun d S => ⟨_, wl_get (fun c => (d.1 c, cellC d S c)) (by decide), rfl⟩⟩
theorem gX4_135 : GF wlC RX4 135 2 (fun _ S => .long (gL S 109)) := ⟨0, 9, RX1, TX1, 11, rfl, uwX1, by decide, Or.inr ⟨_, N11 (i := 94) rfl rfl⟩, rfl, fun d S => ⟨_, wl_get (fun c => (d.1 c, cellC d S c)) (by decide), rfl⟩⟩
theorem gX4_163 : GF wlC RX4 163 3 (fun _ S => .long (gL S 302)) := ⟨2, 2, RX3, TX3, 5, rfl, uwX3, by decide, Or.inr ⟨_, N11 (i := 132) rfl rfl⟩, rfl, fun d S => ⟨_, wl_get (fun c => (d.1 c, cellC d S c)) (by decide), rfl⟩⟩
theorem gX4_166 : GF wlC RX4 166 3 (fun d _ => .ref (d.1 18)) := ⟨2, 1, RX3, TX3, 5, rfl, uwX3, by decide, Or.inr ⟨_, N11 (i := 130) rfl rfl⟩, rfl, fun d S => ⟨_, wl_get (fun c => (d.1 c, cellC d S c)) (by decide), rfl⟩⟩
theorem gX4_170 : GF wlC RX4 170 1 (fun _ S => .int (gI S 209)) := ⟨1, 9, RX2, TX2, 11, rfl, uwX2, by decide, Or.inr ⟨_, N11 (i := 45) rfl rfl⟩, rfl, fun d S => ⟨_, wl_get (fun c => (d.1 c, cellC d S c)) (by decide), rfl⟩⟩
theorem gX4_173 : GF wlC RX4 173 1 (fun _ S => .int (gI S 210)) := ⟨1, 10, RX2, TX2, 11, rfl, uwX2, by decide, Or.inr ⟨_, N11 (i := 47) rfl rfl⟩, rfl, fun d S => ⟨_, wl_get (fun c => (d.1 c, cellC d S c)) (by decide), rfl⟩⟩
theorem gX4_176 : GF wlC RX4 176 2 (fun _ S => .int (gI S 110)) := ⟨0, 10, RX1, TX1, 11, rfl, uwX1, by decide, Or.inr ⟨_, N11 (i := 96) rfl rfl⟩, rfl, fun d S => ⟨_, wl_get (fun c => (d.1 c, cellC d S c)) (by decide), rfl⟩⟩
theorem gX5_7 : GF wlM RX5 7 0 (fun d _ => .ref (d.1 1)) := ⟨4, 4, RX5, TX5, 30, rfl, uwX5, by decide, Or.inl (T13 (i := 110) rfl rfl), rfl, fun d S => ⟨_, wl_get (fun c => (d.1 c, cellM d S c)) (by decide), rfl⟩⟩
theorem gX5_13 : GF wlM RX5 13 0 (fun d _ => .ref (d.1 2)) := ⟨4, 5, RX5, TX5, 30, rfl, uwX5, by decide, Or.inl (T13 (i := 111) rfl rfl), rfl, fun d S => ⟨_, wl_get (fun c => (d.1 c, cellM d S c)) (by decide), rfl⟩⟩
theorem gX5_16 : GF wlM RX5 16 0 (fun d _ => .ref (d.1 3)) := ⟨4, 6, RX5, TX5, 30, rfl, uwX5, by decide, Or.inl (T13 (i := 112) rfl rfl), rfl, fun d S => ⟨_, wl_get (fun c => (d.1 c, cellM d S c)) (by decide), rfl⟩⟩
theorem gX5_19 : GF wlM RX5 19 0 (fun d _ => .ref (d.1 4)) := ⟨4, 7, RX5, TX5, 30, rfl, uwX5, by decide, Or.inl (T13 (i := 113) rfl rfl), rfl, fun d S => ⟨_, wl_get (fun c => (d.1 c, cellM d S c)) (by decide), rfl⟩⟩
theorem gX5_22 : GF wlM RX5 22 0 (fun d _ => .ref (d.1 5)) := ⟨4, 8, RX5, TX5, 30, rfl, uwX5, by decide, Or.inl (T13 (i := 114) rfl rfl), rfl, fun d S => ⟨_, wl_get (fun c => (d.1 c, cellM d S c)) (by decide), rfl⟩⟩
theorem gX5_25 : GF wlM RX5 25 0 (fun d _ => .ref (d.1 6)) := ⟨4, 9, RX5, TX5, 30, rfl, uwX5, by decide, Or.inl (T13 (i := 115) rfl rfl), rfl, fun d S => ⟨_, wl_get (fun c => (d.1 c, cellM d S c)) (by decide), rfl⟩⟩
theorem gX5_28 : GF wlM RX5 28 0 (fun d _ => .ref (d.1 7)) := ⟨4, 10, RX5, TX5, 30, rfl, uwX5, by decide, Or.inl (T13 (i := 116) rfl rfl), rfl, fun d S => ⟨_, wl_get (fun c => (d.1 c, cellM d S c)) (by decide), rfl⟩⟩
theorem gX5_32 : GF wlM RX5 32 0 (fun d _ => .ref (d.1 8)) := ⟨4, 14, RX5, TX5, 30, rfl, uwX5, by decide, Or.inl (T13 (i := 120) rfl rfl), rfl, fun d S => ⟨_, wl_get (fun c => (d.1 c, cellM d S c)) (by decide), rfl⟩⟩
theorem gX5_35 : GF wlM RX5 35 0 (fun d _ => .ref (d.1 9)) := ⟨4, 15, RX5, TX5, 30, rfl, uwX5, by decide, Or.inl (T13 (i := 121) rfl rfl), rfl, fun d S => ⟨_, wl_get (fun c => (d.1 c, cellM d S c)) (by decide), rfl⟩⟩
theorem gX5_38 : GF wlM RX5 38 0 (fun d _ => .ref (d.1 10)) := ⟨4, 16, RX5, TX5, 30, rfl, uwX5, by decide, Or.inl (T13 (i := 122) rfl rfl), rfl, fun d S => ⟨_, wl_get (fun c => (d.1 c, cellM d S c)) (by decide), rfl⟩⟩
theorem gX5_41 : GF wlM RX5 41 0 (fun d _ => .ref (d.1 11)) := ⟨4, 17, RX5, TX5, 30, rfl, uwX5, by decide, Or.inl (T13 (i := 123) rfl rfl), rfl, fun d S => ⟨_, wl_get (fun c => (d.1 c, cellM d S c)) (by decide), rfl⟩⟩
theorem gX5_44 : GF wlM RX5 44 0 (fun d _ => .ref (d.1 12)) := ⟨4, 18, RX5, TX5, 30, rfl, uwX5, by decide, Or.inl (T13 (i := 124) rfl rfl), rfl, fun d S => ⟨_, wl_get (fun c => (d.1 c, cellM d S c)) (by decide), rfl⟩⟩
theorem gX5_48 : GF wlM RX5 48 0 (fun d _ => .ref (d.1 13)) := ⟨4, 19, RX5, TX5, 30, rfl, uwX5, by decide, Or.inl (T13 (i := 125) rfl rfl), rfl, fun d S => ⟨_, wl_get (fun c => (d.1 c, cellM d S c)) (by decide), rfl⟩⟩
theorem gX5_51 : GF wlM RX5 51 0 (fun d _ => .ref (d.1 14)) := ⟨4, 23, RX5, TX5, 30, rfl, uwX5, by decide, Or.inl (T13 (i := 129) rfl rfl), rfl, fun d S => ⟨_, wl_get (fun c => (d.1 c, cellM d S c)) (by decide), rfl⟩⟩
theorem gX5_54 : GF wlM RX5 54 0 (fun d _ => .ref (d.1 15)) := ⟨4, 24, RX5, TX5, 30, rfl, uwX5, by decide, Or.inl (T13 (i := 130) rfl rfl), rfl, fun d S => ⟨_, wl_get (fun c => (d.1 c, cellM d S c)) (by decide), rfl⟩⟩
theorem gX5_57 : GF wlM RX5 57 0 (fun d _ => .ref (d.1 16)) := ⟨4, 26, RX5, TX5, 30, rfl, uwX5, by decide, Or.inl (T13 (i := 132) rfl rfl), rfl, fun d S => ⟨_, wl_get (fun c => (d.1 c, cellM d S c)) (by decide), rfl⟩⟩
theorem gX5_60 : GF wlM RX5 60 0 (fun d _ => .ref (d.1 17)) := ⟨4, 27, RX5, TX5, 30, rfl, uwX5, by decide, Or.inl (T13 (i := 133) rfl rfl), rfl, fun d S => ⟨_, wl_get (fun c => (d.1 c, cellM d S c)) (by decide), rfl⟩⟩
theorem gX5_63 : GF wlM RX5 63 0 (fun d _ => .ref (d.1 18)) := ⟨4, 28, RX5, TX5, 30, rfl, uwX5, by decide, Or.inl (T13 (i := 134) rfl rfl), rfl, fun d S => ⟨_, wl_get (fun c => (d.1 c, cellM d S c)) (by decide), rfl⟩⟩
theorem gX5_69 : GF wlM RX5 69 0 (fun _ S => .int (gI S 0)) := ⟨4, 0, RX5, TX5, 30, rfl, uwX5, by decide, Or.inl (T13 (i := 106) rfl rfl), rfl, fun d S => ⟨_, wl_get (fun c => (d.1 c, cellM d S c)) (by decide), rfl⟩⟩
theorem gX5_73 : GF wlM RX5 73 0 (fun _ S => .int (gI S 1)) := ⟨4, 1, RX5, TX5, 30, rfl, uwX5, by decide, Or.inl (T13 (i := 107) rfl rfl), rfl, fun d S => ⟨_, wl_get (fun c => (d.1 c, cellM d S c)) (by decide), rfl⟩⟩
theorem gX5_76 : GF wlM RX5 76 0 (fun _ S => .int (gI S 2)) := ⟨4, 2, RX5, TX5, 30, rfl, uwX5, by decide, Or.inl (T13 (i := 108) rfl rfl), rfl, fun d S => ⟨_, wl_get (fun c => (d.1 c, cellM d S c)) (by decide), rfl⟩⟩
theorem gX5_79 : GF wlM RX5 79 0 (fun _ S => .int (gI S 3)) := ⟨4, 3, RX5, TX5, 30, rfl, uwX5, by decide, Or.inl (T13 (i := 109) rfl rfl), rfl, fun d S => ⟨_, wl_get (fun c => (d.1 c, cellM d S c)) (by decide), rfl⟩⟩
theorem gX5_82 : GF wlM RX5 82 0 (fun _ S => .int (gI S 11)) := ⟨4, 11, RX5, TX5, 30, rfl, uwX5, by decide, Or.inl (T13 (i := 117) rfl rfl), rfl, fun d S => ⟨_, wl_get (fun c => (d.1 c, cellM d S c)) (by decide), rfl⟩⟩
theorem gX5_112 : GF wlM RX5 112 0 (fun _ S => .int (gI S 20)) := ⟨4, 20, RX5, TX5, 30, rfl, uwX5, by decide, Or.inl (T13 (i := 126) rfl rfl), rfl, fun d S => ⟨_, wl_get (fun c => (d.1 c, cellM d S c)) (by decide), rfl⟩⟩
theorem gX5_115 : GF wlM RX5 115 0 (fun _ S => .int (gI S 21)) := ⟨4, 21, RX5, TX5, 30, rfl, uwX5, by decide, Or.inl (T13 (i := 127) rfl rfl), rfl, fun d S => ⟨_, wl_get (fun c => (d.1 c, cellM d S c)) (by decide), rfl⟩⟩
theorem gX5_118 : GF wlM RX5 118 0 (fun _ S => .long (gL S 22)) := ⟨4, 22, RX5, TX5, 30, rfl, uwX5, by decide, Or.inl (T13 (i := 128) rfl rfl), rfl, fun d S => ⟨_, wl_get (fun c => (d.1 c, cellM d S c)) (by decide), rfl⟩⟩
theorem gX5_146 : GF wlM RX5 146 0 (fun _ S => .int (gI S 12)) := ⟨4, 12, RX5, TX5, 30, rfl, uwX5, by decide, Or.inl (T13 (i := 118) rfl rfl), rfl, fun d S => ⟨_, wl_get (fun c => (d.1 c, cellM d S c)) (by decide), rfl⟩⟩
theorem gX5_149 : GF wlM RX5 149 0 (fun _ S => .long (gL S 13)) := ⟨4, 13, RX5, TX5, 30, rfl, uwX5, by decide, Or.inl (T13 (i := 119) rfl rfl), rfl, fun d S => ⟨_, wl_get (fun c => (d.1 c, cellM d S c)) (by decide), rfl⟩⟩
theorem gX5_186 : GF wlM RX5 186 0 (fun _ S => .int (gI S 25)) := ⟨4, 25, RX5, TX5, 30, rfl, uwX5, by decide, Or.inl (T13 (i := 131) rfl rfl), rfl, fun d S => ⟨_, wl_get (fun c => (d.1 c, cellM d S c)) (by decide), rfl⟩⟩
theorem gX5_189 : GF wlM RX5 189 0 (fun _ S => .long (gL S 29)) := ⟨4, 29, RX5, TX5, 30, rfl, uwX5, by decide, Or.inl (T13 (i := 135) rfl rfl), rfl, fun d S => ⟨_, wl_get (fun c => (d.1 c, cellM d S c)) (by decide), rfl⟩⟩
theorem pX1_41 : ∀ x : Int32, (x = 0 ∨ x = 1) → PF wlC RX1 41 2 (.int x) (fun S => sI S 108 x) := fun x hx => ⟨0, 8, RX1, TX1, 11, tyX1, rfl, uwX1, by decide, T11 (i := 91) rfl rfl, rfl, tyX1_ok, nmX1, rfl, by rcases hx with rfl | rfl <;> rfl, by rcases hx with rfl | rfl <;> rfl, fun d S => ⟨_, wl_get (fun c => (d.1 c, cellC d S c)) (by decide), Nat.le_of_ble_eq_true rfl, by
  refine wl_set rfl (fun j hj => ?_)
  have : cellC d (sI S 108 x) j = cellC d S j := by
    unfold cellC
    simp only [if_neg (show ¬ j = 2 from hj)]
    rfl
  rw [this]⟩⟩
theorem pX1_59 : ∀ x : Int64, PF wlC RX1 59 2 (.long x) (fun S => sL S 109 x) := fun x => ⟨0, 9, RX1, TX1, 11, tyX1, rfl, uwX1, by decide, T11 (i := 93) rfl rfl, rfl, tyX1_ok, nmX1, rfl, rfl, rfl, fun d S => ⟨_, wl_get (fun c => (d.1 c, cellC d S c)) (by decide), Nat.le_of_ble_eq_true rfl, by
  refine wl_set rfl (fun j hj => ?_)
  have : cellC d (sL S 109 x) j = cellC d S j := by
    unfold cellC
    simp only [if_neg (show ¬ j = 2 from hj)]
    rfl
  rw [this]⟩⟩
theorem pX1_63 : ∀ x : Int32, PF wlC RX1 63 2 (.int x) (fun S => sI S 110 x) := fun x => ⟨0, 10, RX1, TX1, 11, tyX1, rfl, uwX1, by decide, T11 (i := 95) rfl rfl, rfl, tyX1_ok, nmX1, rfl, rfl, rfl, fun d S => ⟨_, wl_get (fun c => (d.1 c, cellC d S c)) (by decide), Nat.le_of_ble_eq_true rfl, by
  refine wl_set rfl (fun j hj => ?_)
  have : cellC d (sI S 110 x) j = cellC d S j := by
    unfold cellC
    simp only [if_neg (show ¬ j = 2 from hj)]
    rfl
  rw [this]⟩⟩
theorem pX2_38 : ∀ x : Int32, PF wlC RX2 38 1 (.int x) (fun S => sI S 208 x) := fun x => ⟨1, 8, RX2, TX2, 11, tyX2, rfl, uwX2, by decide, T11 (i := 41) rfl rfl, rfl, tyX2_ok, nmX2, rfl, rfl, rfl, fun d S => ⟨_, wl_get (fun c => (d.1 c, cellC d S c)) (by decide), Nat.le_of_ble_eq_true rfl, by
  refine wl_set rfl (fun j hj => ?_)
  have : cellC d (sI S 208 x) j = cellC d S j := by
    unfold cellC
    simp only [if_neg (show ¬ j = 1 from hj)]
    rfl
  rw [this]⟩⟩
theorem pX2_42 : ∀ x : Int32, PF wlC RX2 42 1 (.int x) (fun S => sI S 209 x) := fun x => ⟨1, 9, RX2, TX2, 11, tyX2, rfl, uwX2, by decide, T11 (i := 44) rfl rfl, rfl, tyX2_ok, nmX2, rfl, rfl, rfl, fun d S => ⟨_, wl_get (fun c => (d.1 c, cellC d S c)) (by decide), Nat.le_of_ble_eq_true rfl, by
  refine wl_set rfl (fun j hj => ?_)
  have : cellC d (sI S 209 x) j = cellC d S j := by
    unfold cellC
    simp only [if_neg (show ¬ j = 1 from hj)]
    rfl
  rw [this]⟩⟩
theorem pX2_45 : ∀ x : Int32, PF wlC RX2 45 1 (.int x) (fun S => sI S 210 x) := fun x => ⟨1, 10, RX2, TX2, 11, tyX2, rfl, uwX2, by decide, T11 (i := 46) rfl rfl, rfl, tyX2_ok, nmX2, rfl, rfl, rfl, fun d S => ⟨_, wl_get (fun c => (d.1 c, cellC d S c)) (by decide), Nat.le_of_ble_eq_true rfl, by
  refine wl_set rfl (fun j hj => ?_)
  have : cellC d (sI S 210 x) j = cellC d S j := by
    unfold cellC
    simp only [if_neg (show ¬ j = 1 from hj)]
    rfl
  rw [this]⟩⟩
theorem pX2_48 : ∀ x : Int32, PF wlC RX2 48 1 (.int x) (fun S => sI S 207 x) := fun x => ⟨1, 7, RX2, TX2, 11, tyX2, rfl, uwX2, by decide, T11 (i := 40) rfl rfl, rfl, tyX2_ok, nmX2, rfl, rfl, rfl, fun d S => ⟨_, wl_get (fun c => (d.1 c, cellC d S c)) (by decide), Nat.le_of_ble_eq_true rfl, by
  refine wl_set rfl (fun j hj => ?_)
  have : cellC d (sI S 207 x) j = cellC d S j := by
    unfold cellC
    simp only [if_neg (show ¬ j = 1 from hj)]
    rfl
  rw [this]⟩⟩
theorem pX3_20 : ∀ x : Int32, (x = 0 ∨ x = 1) → PF wlC RX3 20 3 (.int x) (fun S => sI S 304 x) := fun x hx => ⟨2, 4, RX3, TX3, 5, tyX3, rfl, uwX3, by decide, T11 (i := 134) rfl rfl, rfl, tyX3_ok, nmX3, rfl, by rcases hx with rfl | rfl <;> rfl, by rcases hx with rfl | rfl <;> rfl, fun d S => ⟨_, wl_get (fun c => (d.1 c, cellC d S c)) (by decide), Nat.le_of_ble_eq_true rfl, by
  refine wl_set rfl (fun j hj => ?_)
  have : cellC d (sI S 304 x) j = cellC d S j := by
    unfold cellC
    simp only [if_neg (show ¬ j = 3 from hj)]
    rfl
  rw [this]⟩⟩
theorem pX3_39 : ∀ x : Int32, PF wlC RX3 39 3 (.int x) (fun S => sI S 303 x) := fun x => ⟨2, 3, RX3, TX3, 5, tyX3, rfl, uwX3, by decide, T11 (i := 133) rfl rfl, rfl, tyX3_ok, nmX3, rfl, rfl, rfl, fun d S => ⟨_, wl_get (fun c => (d.1 c, cellC d S c)) (by decide), Nat.le_of_ble_eq_true rfl, by
  refine wl_set rfl (fun j hj => ?_)
  have : cellC d (sI S 303 x) j = cellC d S j := by
    unfold cellC
    simp only [if_neg (show ¬ j = 3 from hj)]
    rfl
  rw [this]⟩⟩
theorem pX3_43 : ∀ x : Int64, PF wlC RX3 43 3 (.long x) (fun S => sL S 302 x) := fun x => ⟨2, 2, RX3, TX3, 5, tyX3, rfl, uwX3, by decide, T11 (i := 131) rfl rfl, rfl, tyX3_ok, nmX3, rfl, rfl, rfl, fun d S => ⟨_, wl_get (fun c => (d.1 c, cellC d S c)) (by decide), Nat.le_of_ble_eq_true rfl, by
  refine wl_set rfl (fun j hj => ?_)
  have : cellC d (sL S 302 x) j = cellC d S j := by
    unfold cellC
    simp only [if_neg (show ¬ j = 3 from hj)]
    rfl
  rw [this]⟩⟩
theorem pX5_69 : ∀ x : Int32, PF wlM RX5 69 0 (.int x) (fun S => sI S 0 x) := fun x => ⟨4, 0, RX5, TX5, 30, tyX5, rfl, uwX5, by decide, T13 (i := 106) rfl rfl, rfl, tyX5_ok, nmX5, rfl, rfl, rfl, fun d S => ⟨_, wl_get (fun c => (d.1 c, cellM d S c)) (by decide), Nat.le_of_ble_eq_true rfl, by
  refine wl_set rfl (fun j hj => ?_)
  have : cellM d (sI S 0 x) j = cellM d S j := by
    unfold cellM
    simp only [if_neg (show ¬ j = 0 from hj)]
    rfl
  rw [this]⟩⟩
theorem pX5_73 : ∀ x : Int32, PF wlM RX5 73 0 (.int x) (fun S => sI S 1 x) := fun x => ⟨4, 1, RX5, TX5, 30, tyX5, rfl, uwX5, by decide, T13 (i := 107) rfl rfl, rfl, tyX5_ok, nmX5, rfl, rfl, rfl, fun d S => ⟨_, wl_get (fun c => (d.1 c, cellM d S c)) (by decide), Nat.le_of_ble_eq_true rfl, by
  refine wl_set rfl (fun j hj => ?_)
  have : cellM d (sI S 1 x) j = cellM d S j := by
    unfold cellM
    simp only [if_neg (show ¬ j = 0 from hj)]
    rfl
  rw [this]⟩⟩
theorem pX5_76 : ∀ x : Int32, PF wlM RX5 76 0 (.int x) (fun S => sI S 2 x) := fun x => ⟨4, 2, RX5, TX5, 30, tyX5, rfl, uwX5, by decide, T13 (i := 108) rfl rfl, rfl, tyX5_ok, nmX5, rfl, rfl, rfl, fun d S => ⟨_, wl_get (fun c => (d.1 c, cellM d S c)) (by decide), Nat.le_of_ble_eq_true rfl, by
  refine wl_set rfl (fun j hj => ?_)
  have : cellM d (sI S 2 x) j = cellM d S j := by
    unfold cellM
    simp only [if_neg (show ¬ j = 0 from hj)]
    rfl
  rw [this]⟩⟩
theorem pX5_79 : ∀ x : Int32, PF wlM RX5 79 0 (.int x) (fun S => sI S 3 x) := fun x => ⟨4, 3, RX5, TX5, 30, tyX5, rfl, uwX5, by decide, T13 (i := 109) rfl rfl, rfl, tyX5_ok, nmX5, rfl, rfl, rfl, fun d S => ⟨_, wl_get (fun c => (d.1 c, cellM d S c)) (by decide), Nat.le_of_ble_eq_true rfl, by
  refine wl_set rfl (fun j hj => ?_)
  have : cellM d (sI S 3 x) j = cellM d S j := by
    unfold cellM
    simp only [if_neg (show ¬ j = 0 from hj)]
    rfl
  rw [this]⟩⟩
theorem pX5_82 : ∀ x : Int32, (x = 0 ∨ x = 1) → PF wlM RX5 82 0 (.int x) (fun S => sI S 11 x) := fun x hx => ⟨4, 11, RX5, TX5, 30, tyX5, rfl, uwX5, by decide, T13 (i := 117) rfl rfl, rfl, tyX5_ok, nmX5, rfl, by rcases hx with rfl | rfl <;> rfl, by rcases hx with rfl | rfl <;> rfl, fun d S => ⟨_, wl_get (fun c => (d.1 c, cellM d S c)) (by decide), Nat.le_of_ble_eq_true rfl, by
  refine wl_set rfl (fun j hj => ?_)
  have : cellM d (sI S 11 x) j = cellM d S j := by
    unfold cellM
    simp only [if_neg (show ¬ j = 0 from hj)]
    rfl
  rw [this]⟩⟩
theorem pX5_112 : ∀ x : Int32, PF wlM RX5 112 0 (.int x) (fun S => sI S 20 x) := fun x => ⟨4, 20, RX5, TX5, 30, tyX5, rfl, uwX5, by decide, T13 (i := 126) rfl rfl, rfl, tyX5_ok, nmX5, rfl, rfl, rfl, fun d S => ⟨_, wl_get (fun c => (d.1 c, cellM d S c)) (by decide), Nat.le_of_ble_eq_true rfl, by
  refine wl_set rfl (fun j hj => ?_)
  have : cellM d (sI S 20 x) j = cellM d S j := by
    unfold cellM
    simp only [if_neg (show ¬ j = 0 from hj)]
    rfl
  rw [this]⟩⟩
theorem pX5_115 : ∀ x : Int32, PF wlM RX5 115 0 (.int x) (fun S => sI S 21 x) := fun x => ⟨4, 21, RX5, TX5, 30, tyX5, rfl, uwX5, by decide, T13 (i := 127) rfl rfl, rfl, tyX5_ok, nmX5, rfl, rfl, rfl, fun d S => ⟨_, wl_get (fun c => (d.1 c, cellM d S c)) (by decide), Nat.le_of_ble_eq_true rfl, by
  refine wl_set rfl (fun j hj => ?_)
  have : cellM d (sI S 21 x) j = cellM d S j := by
    unfold cellM
    simp only [if_neg (show ¬ j = 0 from hj)]
    rfl
  rw [this]⟩⟩
theorem pX5_118 : ∀ x : Int64, PF wlM RX5 118 0 (.long x) (fun S => sL S 22 x) := fun x => ⟨4, 22, RX5, TX5, 30, tyX5, rfl, uwX5, by decide, T13 (i := 128) rfl rfl, rfl, tyX5_ok, nmX5, rfl, rfl, rfl, fun d S => ⟨_, wl_get (fun c => (d.1 c, cellM d S c)) (by decide), Nat.le_of_ble_eq_true rfl, by
  refine wl_set rfl (fun j hj => ?_)
  have : cellM d (sL S 22 x) j = cellM d S j := by
    unfold cellM
    simp only [if_neg (show ¬ j = 0 from hj)]
    rfl
  rw [this]⟩⟩
theorem pX5_146 : ∀ x : Int32, PF wlM RX5 146 0 (.int x) (fun S => sI S 12 x) := fun x => ⟨4, 12, RX5, TX5, 30, tyX5, rfl, uwX5, by decide, T13 (i := 118) rfl rfl, rfl, tyX5_ok, nmX5, rfl, rfl, rfl, fun d S => ⟨_, wl_get (fun c => (d.1 c, cellM d S c)) (by decide), Nat.le_of_ble_eq_true rfl, by
  refine wl_set rfl (fun j hj => ?_)
  have : cellM d (sI S 12 x) j = cellM d S j := by
    unfold cellM
    simp only [if_neg (show ¬ j = 0 from hj)]
    rfl
  rw [this]⟩⟩
theorem pX5_149 : ∀ x : Int64, PF wlM RX5 149 0 (.long x) (fun S => sL S 13 x) := fun x => ⟨4, 13, RX5, TX5, 30, tyX5, rfl, uwX5, by decide, T13 (i := 119) rfl rfl, rfl, tyX5_ok, nmX5, rfl, rfl, rfl, fun d S => ⟨_, wl_get (fun c => (d.1 c, cellM d S c)) (by decide), Nat.le_of_ble_eq_true rfl, by
  refine wl_set rfl (fun j hj => ?_)
  have : cellM d (sL S 13 x) j = cellM d S j := by
    unfold cellM
    simp only [if_neg (show ¬ j = 0 from hj)]
    rfl
  rw [this]⟩⟩
theorem pX5_186 : ∀ x : Int32, PF wlM RX5 186 0 (.int x) (fun S => sI S 25 x) := fun x => ⟨4, 25, RX5, TX5, 30, tyX5, rfl, uwX5, by decide, T13 (i := 131) rfl rfl, rfl, tyX5_ok, nmX5, rfl, rfl, rfl, fun d S => ⟨_, wl_get (fun c => (d.1 c, cellM d S c)) (by decide), Nat.le_of_ble_eq_true rfl, by
  refine wl_set rfl (fun j hj => ?_)
  have : cellM d (sI S 25 x) j = cellM d S j := by
    unfold cellM
    simp only [if_neg (show ¬ j = 0 from hj)]
    rfl
  rw [this]⟩⟩
theorem pX5_189 : ∀ x : Int64, PF wlM RX5 189 0 (.long x) (fun S => sL S 29 x) := fun x => ⟨4, 29, RX5, TX5, 30, tyX5, rfl, uwX5, by decide, T13 (i := 135) rfl rfl, rfl, tyX5_ok, nmX5, rfl, rfl, rfl, fun d S => ⟨_, wl_get (fun c => (d.1 c, cellM d S c)) (by decide), Nat.le_of_ble_eq_true rfl, by
  refine wl_set rfl (fun j hj => ?_)
  have : cellM d (sL S 29 x) j = cellM d S j := by
    unfold cellM
    simp only [if_neg (show ¬ j = 0 from hj)]
    rfl
  rw [this]⟩⟩
theorem lkX0_11 : LkS RX0 11 yX0_valueOf cX0_valueOf 2 (some .int) 2 := ⟨⟨T12 (i := 128) rfl rfl, T11 (i := 7) rfl rfl, by decide +kernel, by decide, Or.inl (T12 (i := 187) rfl rfl)⟩, T12 (i := 127) rfl rfl⟩
theorem lkX1_45 : LkV RX1 45 yX2_markLive cX2_markLive 2 none 0 := ⟨⟨T12 (i := 21) rfl rfl, T11 (i := 2) rfl rfl, by decide +kernel, by decide, Or.inl (T12 (i := 66) rfl rfl)⟩, T12 (i := 19) rfl rfl, T12 (i := 20) rfl rfl⟩
theorem lkX1_50 : LkV RX1 50 yX2_liveAt cX2_liveAt 2 (some .int) 1 := ⟨⟨T12 (i := 29) rfl rfl, T11 (i := 2) rfl rfl, by decide +kernel, by decide, Or.inl (T12 (i := 67) rfl rfl)⟩, T12 (i := 27) rfl rfl, T12 (i := 28) rfl rfl⟩
theorem lkX1_54 : LkS RX1 54 yX0_maskOf cX0_maskOf 3 (some .int) 1 := ⟨⟨T12 (i := 70) rfl rfl, T11 (i := 7) rfl rfl, by decide +kernel, by decide, Or.inl (T12 (i := 68) rfl rfl)⟩, T12 (i := 69) rfl rfl⟩
theorem lkX1_69 : LkV RX1 69 yX1_come cX1_come 7 none 3 := ⟨⟨T12 (i := 75) rfl rfl, T11 (i := 3) rfl rfl, by decide +kernel, by decide, Or.inl (T12 (i := 72) rfl rfl)⟩, T12 (i := 74) rfl rfl, T10 (i := 9) rfl rfl⟩
theorem lkX1_73 : LkV RX1 73 yX1_size cX1_size 2 (some .int) 1 := ⟨⟨T12 (i := 106) rfl rfl, T11 (i := 3) rfl rfl, by decide +kernel, by decide, Or.inl (T12 (i := 103) rfl rfl)⟩, T12 (i := 104) rfl rfl, T12 (i := 105) rfl rfl⟩
theorem lkX1_76 : LkV RX1 76 yX1_has cX1_has 3 (some .boolean) 2 := ⟨⟨T12 (i := 118) rfl rfl, T11 (i := 3) rfl rfl, by decide +kernel, by decide, Or.inl (T12 (i := 115) rfl rfl)⟩, T12 (i := 116) rfl rfl, T12 (i := 117) rfl rfl⟩
theorem lkX1_80 : LkV RX1 80 yX1_heldAt cX1_heldAt 3 (some .int) 2 := ⟨⟨T12 (i := 114) rfl rfl, T11 (i := 3) rfl rfl, by decide +kernel, by decide, Or.inl (T12 (i := 111) rfl rfl)⟩, T12 (i := 112) rfl rfl, T12 (i := 113) rfl rfl⟩
theorem lkX1_84 : LkS RX1 84 yX0_valueOf cX0_valueOf 2 (some .int) 2 := ⟨⟨T12 (i := 128) rfl rfl, T11 (i := 7) rfl rfl, by decide +kernel, by decide, Or.inl (T12 (i := 206) rfl rfl)⟩, T12 (i := 127) rfl rfl⟩
theorem lkX1_87 : LkV RX1 87 yX1_massAt cX1_massAt 3 (some .long) 2 := ⟨⟨T12 (i := 140) rfl rfl, T11 (i := 3) rfl rfl, by decide +kernel, by decide, Or.inl (T12 (i := 137) rfl rfl)⟩, T12 (i := 138) rfl rfl, T12 (i := 139) rfl rfl⟩
theorem lkX1_94 : LkV RX1 94 yX1_total cX1_total 8 (some .long) 3 := ⟨⟨T12 (i := 205) rfl rfl, T11 (i := 3) rfl rfl, by decide +kernel, by decide, Or.inl (T12 (i := 211) rfl rfl)⟩, T12 (i := 203) rfl rfl, T12 (i := 204) rfl rfl⟩
theorem lkX1_98 : LkV RX1 98 yX1_leastPlace cX1_leastPlace 2 (some .int) 0 := ⟨⟨T12 (i := 102) rfl rfl, T11 (i := 3) rfl rfl, by decide +kernel, by decide, Or.inl (T12 (i := 99) rfl rfl)⟩, T12 (i := 100) rfl rfl, T12 (i := 101) rfl rfl⟩
theorem lkX1_102 : LkV RX1 102 yX1_hasRoomBehind cX1_hasRoomBehind 5 (some .boolean) 1 := ⟨⟨T12 (i := 110) rfl rfl, T11 (i := 3) rfl rfl, by decide +kernel, by decide, Or.inl (T12 (i := 107) rfl rfl)⟩, T12 (i := 108) rfl rfl, T12 (i := 109) rfl rfl⟩
theorem lkX1_106 : LkV RX1 106 yX1_moveLeast cX1_moveLeast 10 none 1 := ⟨⟨T12 (i := 165) rfl rfl, T11 (i := 3) rfl rfl, by decide +kernel, by decide, Or.inl (T12 (i := 162) rfl rfl)⟩, T12 (i := 164) rfl rfl, T10 (i := 14) rfl rfl⟩
theorem lkX1_110 : LkV RX1 110 yX2_placeBehind cX2_placeBehind 3 (some .int) 2 := ⟨⟨T12 (i := 122) rfl rfl, T11 (i := 2) rfl rfl, by decide +kernel, by decide, Or.inl (T12 (i := 119) rfl rfl)⟩, T12 (i := 120) rfl rfl, T12 (i := 121) rfl rfl⟩
theorem lkX1_113 : LkV RX1 113 yX2_ways cX2_ways 2 (some .int) 1 := ⟨⟨T12 (i := 132) rfl rfl, T11 (i := 2) rfl rfl, by decide +kernel, by decide, Or.inl (T12 (i := 129) rfl rfl)⟩, T12 (i := 130) rfl rfl, T12 (i := 131) rfl rfl⟩
theorem lkX1_116 : LkV RX1 116 yX1_newBehind cX1_newBehind 11 (some .int) 2 := ⟨⟨T12 (i := 136) rfl rfl, T11 (i := 3) rfl rfl, by decide +kernel, by decide, Or.inl (T12 (i := 133) rfl rfl)⟩, T12 (i := 135) rfl rfl, T10 (i := 13) rfl rfl⟩
theorem lkX1_119 : LkV RX1 119 yX2_massBehind cX2_massBehind 7 (some .long) 4 := ⟨⟨T12 (i := 144) rfl rfl, T11 (i := 2) rfl rfl, by decide +kernel, by decide, Or.inl (T12 (i := 141) rfl rfl)⟩, T12 (i := 142) rfl rfl, T12 (i := 143) rfl rfl⟩
theorem lkX1_123 : LkV RX1 123 yX2_heldBehind cX2_heldBehind 8 (some .int) 3 := ⟨⟨T12 (i := 152) rfl rfl, T11 (i := 2) rfl rfl, by decide +kernel, by decide, Or.inl (T12 (i := 149) rfl rfl)⟩, T12 (i := 150) rfl rfl, T12 (i := 151) rfl rfl⟩
theorem lkX1_127 : LkV RX1 127 yX1_seat cX1_seat 7 (some .int) 2 := ⟨⟨T12 (i := 79) rfl rfl, T11 (i := 3) rfl rfl, by decide +kernel, by decide, Or.inl (T12 (i := 76) rfl rfl)⟩, T12 (i := 78) rfl rfl, T10 (i := 10) rfl rfl⟩
theorem lkX1_130 : LkV RX1 130 yX1_isThere cX1_isThere 4 (some .boolean) 3 := ⟨⟨T12 (i := 83) rfl rfl, T11 (i := 3) rfl rfl, by decide +kernel, by decide, Or.inl (T12 (i := 80) rfl rfl)⟩, T12 (i := 82) rfl rfl, T10 (i := 11) rfl rfl⟩
theorem lkX1_134 : LkV RX1 134 yX2_isDraw cX2_isDraw 2 (some .boolean) 1 := ⟨⟨T12 (i := 53) rfl rfl, T11 (i := 2) rfl rfl, by decide +kernel, by decide, Or.inl (T12 (i := 166) rfl rfl)⟩, T12 (i := 51) rfl rfl, T12 (i := 52) rfl rfl⟩
theorem lkX1_137 : LkV RX1 137 yX1_insert cX1_insert 7 none 4 := ⟨⟨T12 (i := 87) rfl rfl, T11 (i := 3) rfl rfl, by decide +kernel, by decide, Or.inl (T12 (i := 84) rfl rfl)⟩, T12 (i := 86) rfl rfl, T10 (i := 12) rfl rfl⟩
theorem lkX2_35 : LkV RX2 35 yX2_reset cX2_reset 3 none 0 := ⟨⟨T11 (i := 32) rfl rfl, T11 (i := 2) rfl rfl, by decide +kernel, by decide, Or.inl (T11 (i := 29) rfl rfl)⟩, T11 (i := 31) rfl rfl, T10 (i := 0) rfl rfl⟩
theorem lkX2_51 : LkS RX2 51 yX4_isRow cX4_isRow 1 (some .boolean) 1 := ⟨⟨T11 (i := 162) rfl rfl, T11 (i := 1) rfl rfl, by decide +kernel, by decide, Or.inr ⟨_, N11 (i := 182) rfl rfl⟩⟩, T11 (i := 161) rfl rfl⟩
theorem lkX2_55 : LkS RX2 55 yX4_isValue cX4_isValue 1 (some .boolean) 1 := ⟨⟨T11 (i := 165) rfl rfl, T11 (i := 1) rfl rfl, by decide +kernel, by decide, Or.inr ⟨_, N11 (i := 183) rfl rfl⟩⟩, T11 (i := 164) rfl rfl⟩
theorem lkX2_58 : LkV RX2 58 yX2_isAsked cX2_isAsked 2 (some .boolean) 1 := ⟨⟨T12 (i := 9) rfl rfl, T11 (i := 2) rfl rfl, by decide +kernel, by decide, Or.inl (T12 (i := 6) rfl rfl)⟩, T12 (i := 7) rfl rfl, T12 (i := 8) rfl rfl⟩
theorem lkX2_61 : LkV RX2 61 yX2_countKind cX2_countKind 3 none 2 := ⟨⟨T11 (i := 206) rfl rfl, T11 (i := 2) rfl rfl, by decide +kernel, by decide, Or.inl (T11 (i := 203) rfl rfl)⟩, T11 (i := 205) rfl rfl, T10 (i := 3) rfl rfl⟩
theorem lkX2_65 : LkV RX2 65 yX2_isStep cX2_isStep 2 (some .boolean) 1 := ⟨⟨T11 (i := 237) rfl rfl, T11 (i := 2) rfl rfl, by decide +kernel, by decide, Or.inl (T11 (i := 234) rfl rfl)⟩, T11 (i := 235) rfl rfl, T11 (i := 236) rfl rfl⟩
theorem lkX2_68 : LkV RX2 68 yX2_isDraw cX2_isDraw 2 (some .boolean) 1 := ⟨⟨T12 (i := 53) rfl rfl, T11 (i := 2) rfl rfl, by decide +kernel, by decide, Or.inl (T12 (i := 50) rfl rfl)⟩, T12 (i := 51) rfl rfl, T12 (i := 52) rfl rfl⟩
theorem lkX2_71 : LkV RX2 71 yX2_rowTotal cX2_rowTotal 4 (some .int) 1 := ⟨⟨T12 (i := 57) rfl rfl, T11 (i := 2) rfl rfl, by decide +kernel, by decide, Or.inl (T12 (i := 54) rfl rfl)⟩, T12 (i := 56) rfl rfl, T10 (i := 7) rfl rfl⟩
theorem lkX2_75 : LkV RX2 75 yX2_weightOf cX2_weightOf 3 (some .int) 2 := ⟨⟨T12 (i := 61) rfl rfl, T11 (i := 2) rfl rfl, by decide +kernel, by decide, Or.inl (T12 (i := 58) rfl rfl)⟩, T12 (i := 60) rfl rfl, T10 (i := 8) rfl rfl⟩
theorem lkX2_79 : LkV RX2 79 yX2_liveAtStep cX2_liveAtStep 5 (some .int) 1 := ⟨⟨T12 (i := 25) rfl rfl, T11 (i := 2) rfl rfl, by decide +kernel, by decide, Or.inl (T12 (i := 22) rfl rfl)⟩, T12 (i := 24) rfl rfl, T10 (i := 5) rfl rfl⟩
theorem lkX2_82 : LkV RX2 82 yX2_liveAt cX2_liveAt 2 (some .int) 1 := ⟨⟨T12 (i := 29) rfl rfl, T11 (i := 2) rfl rfl, by decide +kernel, by decide, Or.inl (T12 (i := 26) rfl rfl)⟩, T12 (i := 27) rfl rfl, T12 (i := 28) rfl rfl⟩
theorem lkX2_85 : LkV RX2 85 yX2_placeSkippedTo cX2_placeSkippedTo 2 (some .int) 1 := ⟨⟨T12 (i := 33) rfl rfl, T11 (i := 2) rfl rfl, by decide +kernel, by decide, Or.inl (T12 (i := 30) rfl rfl)⟩, T12 (i := 32) rfl rfl, T10 (i := 6) rfl rfl⟩
theorem lkX2_88 : LkS RX2 88 yX2_variableOf cX2_variableOf 1 (some .int) 1 := ⟨⟨T12 (i := 39) rfl rfl, T11 (i := 2) rfl rfl, by decide +kernel, by decide, Or.inl (T12 (i := 37) rfl rfl)⟩, T12 (i := 38) rfl rfl⟩
theorem lkX2_91 : LkS RX2 91 yX4_isVariable cX4_isVariable 1 (some .boolean) 1 := ⟨⟨T11 (i := 190) rfl rfl, T11 (i := 1) rfl rfl, by decide +kernel, by decide, Or.inr ⟨_, N12 (i := 40) rfl rfl⟩⟩, T11 (i := 189) rfl rfl⟩
theorem lkX2_94 : LkS RX2 94 yX0_valueOf cX0_valueOf 2 (some .int) 2 := ⟨⟨T12 (i := 128) rfl rfl, T11 (i := 7) rfl rfl, by decide +kernel, by decide, Or.inl (T12 (i := 126) rfl rfl)⟩, T12 (i := 127) rfl rfl⟩
theorem lkX2_104 : LkS RX2 104 yX2_termValue cX2_termValue 2 (some .int) 2 := ⟨⟨T12 (i := 125) rfl rfl, T11 (i := 2) rfl rfl, by decide +kernel, by decide, Or.inl (T12 (i := 123) rfl rfl)⟩, T12 (i := 124) rfl rfl⟩
theorem lkX2_109 : LkS RX2 109 yX2_isSeen cX2_isSeen 3 (some .boolean) 3 := ⟨⟨T12 (i := 148) rfl rfl, T11 (i := 2) rfl rfl, by decide +kernel, by decide, Or.inl (T12 (i := 146) rfl rfl)⟩, T12 (i := 147) rfl rfl⟩
theorem lkX2_113 : LkS RX2 113 yX0_with cX0_with 4 (some .int) 3 := ⟨⟨T12 (i := 155) rfl rfl, T11 (i := 7) rfl rfl, by decide +kernel, by decide, Or.inl (T12 (i := 153) rfl rfl)⟩, T12 (i := 154) rfl rfl⟩
theorem lkX2_117 : LkS RX2 117 yX2_combined cX2_combined 4 (some .int) 4 := ⟨⟨T12 (i := 158) rfl rfl, T11 (i := 2) rfl rfl, by decide +kernel, by decide, Or.inl (T12 (i := 156) rfl rfl)⟩, T12 (i := 157) rfl rfl⟩
theorem lkX3_24 : LkV RX3 24 yX2_isUneven cX2_isUneven 2 (some .boolean) 0 := ⟨⟨T12 (i := 49) rfl rfl, T11 (i := 2) rfl rfl, by decide +kernel, by decide, Or.inl (T12 (i := 220) rfl rfl)⟩, T12 (i := 47) rfl rfl, T12 (i := 48) rfl rfl⟩
theorem lkX3_30 : LkV RX3 30 yX3_empty cX3_empty 3 none 0 := ⟨⟨T12 (i := 224) rfl rfl, T11 (i := 4) rfl rfl, by decide +kernel, by decide, Or.inl (T12 (i := 221) rfl rfl)⟩, T12 (i := 223) rfl rfl, T10 (i := 15) rfl rfl⟩
theorem lkX3_35 : LkV RX3 35 yX3_follow cX3_follow 12 none 4 := ⟨⟨T12 (i := 229) rfl rfl, T11 (i := 4) rfl rfl, by decide +kernel, by decide, Or.inl (T12 (i := 226) rfl rfl)⟩, T12 (i := 228) rfl rfl, T10 (i := 16) rfl rfl⟩
theorem lkX3_47 : LkV RX3 47 yX2_isStep cX2_isStep 2 (some .boolean) 1 := ⟨⟨T11 (i := 237) rfl rfl, T11 (i := 2) rfl rfl, by decide +kernel, by decide, Or.inl (T12 (i := 230) rfl rfl)⟩, T11 (i := 235) rfl rfl, T11 (i := 236) rfl rfl⟩
theorem lkX3_51 : LkV RX3 51 yX2_isDraw cX2_isDraw 2 (some .boolean) 1 := ⟨⟨T12 (i := 53) rfl rfl, T11 (i := 2) rfl rfl, by decide +kernel, by decide, Or.inl (T12 (i := 231) rfl rfl)⟩, T12 (i := 51) rfl rfl, T12 (i := 52) rfl rfl⟩
theorem lkX3_54 : LkV RX3 54 yX3_branch cX3_branch 9 none 4 := ⟨⟨T12 (i := 235) rfl rfl, T11 (i := 4) rfl rfl, by decide +kernel, by decide, Or.inl (T12 (i := 232) rfl rfl)⟩, T12 (i := 234) rfl rfl, T10 (i := 17) rfl rfl⟩
theorem lkX3_57 : LkV RX3 57 yX2_placeBehind cX2_placeBehind 3 (some .int) 2 := ⟨⟨T12 (i := 122) rfl rfl, T11 (i := 2) rfl rfl, by decide +kernel, by decide, Or.inl (T12 (i := 238) rfl rfl)⟩, T12 (i := 120) rfl rfl, T12 (i := 121) rfl rfl⟩
theorem lkX3_61 : LkV RX3 61 yX2_massBehind cX2_massBehind 7 (some .long) 4 := ⟨⟨T12 (i := 144) rfl rfl, T11 (i := 2) rfl rfl, by decide +kernel, by decide, Or.inl (T12 (i := 236) rfl rfl)⟩, T12 (i := 142) rfl rfl, T12 (i := 143) rfl rfl⟩
theorem lkX3_65 : LkV RX3 65 yX2_heldBehind cX2_heldBehind 8 (some .int) 3 := ⟨⟨T12 (i := 152) rfl rfl, T11 (i := 2) rfl rfl, by decide +kernel, by decide, Or.inl (T12 (i := 237) rfl rfl)⟩, T12 (i := 150) rfl rfl, T12 (i := 151) rfl rfl⟩
theorem lkX3_69 : LkV RX3 69 yX3_addAtEnd cX3_addAtEnd 6 none 2 := ⟨⟨T13 (i := 2) rfl rfl, T11 (i := 4) rfl rfl, by decide +kernel, by decide, Or.inl (T12 (i := 239) rfl rfl)⟩, T13 (i := 1) rfl rfl, T10 (i := 18) rfl rfl⟩
theorem lkX3_73 : LkS RX3 73 yX0_valueOf cX0_valueOf 2 (some .int) 2 := ⟨⟨T12 (i := 128) rfl rfl, T11 (i := 7) rfl rfl, by decide +kernel, by decide, Or.inl (T13 (i := 3) rfl rfl)⟩, T12 (i := 127) rfl rfl⟩
theorem lkX3_78 : LkS RX3 78 yX4_isValue cX4_isValue 1 (some .boolean) 1 := ⟨⟨T11 (i := 165) rfl rfl, T11 (i := 1) rfl rfl, by decide +kernel, by decide, Or.inr ⟨_, N13 (i := 4) rfl rfl⟩⟩, T11 (i := 164) rfl rfl⟩
theorem lkX4_32 : LkS RX4 32 yX4_isRow cX4_isRow 1 (some .boolean) 1 := ⟨⟨T11 (i := 162) rfl rfl, T11 (i := 1) rfl rfl, by decide +kernel, by decide, Or.inl (T11 (i := 160) rfl rfl)⟩, T11 (i := 161) rfl rfl⟩
theorem lkX4_36 : LkS RX4 36 yX4_isValue cX4_isValue 1 (some .boolean) 1 := ⟨⟨T11 (i := 165) rfl rfl, T11 (i := 1) rfl rfl, by decide +kernel, by decide, Or.inl (T11 (i := 163) rfl rfl)⟩, T11 (i := 164) rfl rfl⟩
theorem lkX4_39 : LkV RX4 39 yX4_programChanged cX4_programChanged 1 none 0 := ⟨⟨T11 (i := 169) rfl rfl, T11 (i := 1) rfl rfl, by decide +kernel, by decide, Or.inl (T11 (i := 166) rfl rfl)⟩, T11 (i := 168) rfl rfl, T10 (i := 1) rfl rfl⟩
theorem lkX4_42 : LkV RX4 42 yX2_swapWeight cX2_swapWeight 5 (some .int) 3 := ⟨⟨T11 (i := 181) rfl rfl, T11 (i := 2) rfl rfl, by decide +kernel, by decide, Or.inl (T11 (i := 178) rfl rfl)⟩, T11 (i := 179) rfl rfl, T11 (i := 180) rfl rfl⟩
theorem lkX4_46 : LkS RX4 46 yX4_isVariable cX4_isVariable 1 (some .boolean) 1 := ⟨⟨T11 (i := 190) rfl rfl, T11 (i := 1) rfl rfl, by decide +kernel, by decide, Or.inl (T11 (i := 188) rfl rfl)⟩, T11 (i := 189) rfl rfl⟩
theorem lkX4_49 : LkV RX4 49 yX4_addStep cX4_addStep 6 (some .int) 5 := ⟨⟨T11 (i := 194) rfl rfl, T11 (i := 1) rfl rfl, by decide +kernel, by decide, Or.inl (T11 (i := 191) rfl rfl)⟩, T11 (i := 193) rfl rfl, T10 (i := 2) rfl rfl⟩
theorem lkX4_53 : LkS RX4 53 yX4_isTerm cX4_isTerm 1 (some .boolean) 1 := ⟨⟨T11 (i := 213) rfl rfl, T11 (i := 1) rfl rfl, by decide +kernel, by decide, Or.inl (T11 (i := 211) rfl rfl)⟩, T11 (i := 212) rfl rfl⟩
theorem lkX4_60 : LkV RX4 60 yX2_removeLast cX2_removeLast 2 (some .int) 0 := ⟨⟨T11 (i := 233) rfl rfl, T11 (i := 2) rfl rfl, by decide +kernel, by decide, Or.inl (T11 (i := 230) rfl rfl)⟩, T11 (i := 231) rfl rfl, T11 (i := 232) rfl rfl⟩
theorem lkX4_64 : LkV RX4 64 yX1_end cX1_end 1 none 0 := ⟨⟨T11 (i := 173) rfl rfl, T11 (i := 3) rfl rfl, by decide +kernel, by decide, Or.inl (T11 (i := 170) rfl rfl)⟩, T11 (i := 171) rfl rfl, T11 (i := 172) rfl rfl⟩
theorem lkX4_67 : LkV RX4 67 yX2_swapAsked cX2_swapAsked 4 (some .boolean) 2 := ⟨⟨T12 (i := 5) rfl rfl, T11 (i := 2) rfl rfl, by decide +kernel, by decide, Or.inl (T12 (i := 2) rfl rfl)⟩, T12 (i := 3) rfl rfl, T12 (i := 4) rfl rfl⟩
theorem lkX4_71 : LkV RX4 71 yX4_isPlace cX4_isPlace 2 (some .boolean) 1 := ⟨⟨T12 (i := 17) rfl rfl, T11 (i := 1) rfl rfl, by decide +kernel, by decide, Or.inl (T12 (i := 14) rfl rfl)⟩, T12 (i := 16) rfl rfl, T10 (i := 4) rfl rfl⟩
theorem lkX4_74 : LkV RX4 74 yX2_markLive cX2_markLive 2 none 0 := ⟨⟨T12 (i := 21) rfl rfl, T11 (i := 2) rfl rfl, by decide +kernel, by decide, Or.inl (T12 (i := 18) rfl rfl)⟩, T12 (i := 19) rfl rfl, T12 (i := 20) rfl rfl⟩
theorem lkX4_77 : LkV RX4 77 yX2_liveAt cX2_liveAt 2 (some .int) 1 := ⟨⟨T12 (i := 29) rfl rfl, T11 (i := 2) rfl rfl, by decide +kernel, by decide, Or.inl (T12 (i := 41) rfl rfl)⟩, T12 (i := 27) rfl rfl, T12 (i := 28) rfl rfl⟩
theorem lkX4_81 : LkV RX4 81 yX2_isUneven cX2_isUneven 2 (some .boolean) 0 := ⟨⟨T12 (i := 49) rfl rfl, T11 (i := 2) rfl rfl, by decide +kernel, by decide, Or.inl (T12 (i := 46) rfl rfl)⟩, T12 (i := 47) rfl rfl, T12 (i := 48) rfl rfl⟩
theorem lkX4_85 : LkV RX4 85 yX1_start cX1_start 2 none 0 := ⟨⟨T12 (i := 65) rfl rfl, T11 (i := 3) rfl rfl, by decide +kernel, by decide, Or.inl (T12 (i := 62) rfl rfl)⟩, T12 (i := 63) rfl rfl, T12 (i := 64) rfl rfl⟩
theorem lkX4_92 : LkV RX4 92 yX1_spend cX1_spend 4 (some .int) 1 := ⟨⟨T12 (i := 98) rfl rfl, T11 (i := 3) rfl rfl, by decide +kernel, by decide, Or.inl (T12 (i := 95) rfl rfl)⟩, T12 (i := 96) rfl rfl, T12 (i := 97) rfl rfl⟩
theorem lkX4_95 : LkV RX4 95 yX1_leastPlace cX1_leastPlace 2 (some .int) 0 := ⟨⟨T12 (i := 102) rfl rfl, T11 (i := 3) rfl rfl, by decide +kernel, by decide, Or.inl (T12 (i := 171) rfl rfl)⟩, T12 (i := 100) rfl rfl, T12 (i := 101) rfl rfl⟩
theorem lkX4_98 : LkV RX4 98 yX1_hasRoomBehind cX1_hasRoomBehind 5 (some .boolean) 1 := ⟨⟨T12 (i := 110) rfl rfl, T11 (i := 3) rfl rfl, by decide +kernel, by decide, Or.inl (T12 (i := 172) rfl rfl)⟩, T12 (i := 108) rfl rfl, T12 (i := 109) rfl rfl⟩
theorem lkX4_101 : LkV RX4 101 yX1_size cX1_size 2 (some .int) 1 := ⟨⟨T12 (i := 106) rfl rfl, T11 (i := 3) rfl rfl, by decide +kernel, by decide, Or.inl (T12 (i := 177) rfl rfl)⟩, T12 (i := 104) rfl rfl, T12 (i := 105) rfl rfl⟩
theorem lkX4_111 : LkV RX4 111 yX1_has cX1_has 3 (some .boolean) 2 := ⟨⟨T12 (i := 118) rfl rfl, T11 (i := 3) rfl rfl, by decide +kernel, by decide, Or.inl (T12 (i := 182) rfl rfl)⟩, T12 (i := 116) rfl rfl, T12 (i := 117) rfl rfl⟩
theorem lkX4_115 : LkV RX4 115 yX1_heldAt cX1_heldAt 3 (some .int) 2 := ⟨⟨T12 (i := 114) rfl rfl, T11 (i := 3) rfl rfl, by decide +kernel, by decide, Or.inl (T12 (i := 183) rfl rfl)⟩, T12 (i := 112) rfl rfl, T12 (i := 113) rfl rfl⟩
theorem lkX4_119 : LkS RX4 119 yX0_decimal cX0_decimal 3 (some .int) 1 := ⟨⟨T12 (i := 186) rfl rfl, T11 (i := 7) rfl rfl, by decide +kernel, by decide, Or.inl (T12 (i := 184) rfl rfl)⟩, T12 (i := 185) rfl rfl⟩
theorem lkX4_124 : LkV RX4 124 yX1_massAt cX1_massAt 3 (some .long) 2 := ⟨⟨T12 (i := 140) rfl rfl, T11 (i := 3) rfl rfl, by decide +kernel, by decide, Or.inl (T12 (i := 192) rfl rfl)⟩, T12 (i := 138) rfl rfl, T12 (i := 139) rfl rfl⟩
theorem lkX4_128 : LkS RX4 128 yX4_isChoice cX4_isChoice 2 (some .boolean) 2 := ⟨⟨T12 (i := 199) rfl rfl, T11 (i := 1) rfl rfl, by decide +kernel, by decide, Or.inl (T12 (i := 197) rfl rfl)⟩, T12 (i := 198) rfl rfl⟩
theorem lkX4_139 : LkV RX4 139 yX1_total cX1_total 8 (some .long) 3 := ⟨⟨T12 (i := 205) rfl rfl, T11 (i := 3) rfl rfl, by decide +kernel, by decide, Or.inl (T12 (i := 202) rfl rfl)⟩, T12 (i := 203) rfl rfl, T12 (i := 204) rfl rfl⟩
theorem lkX4_143 : LkV RX4 143 yX1_totalBeforeEnd cX1_totalBeforeEnd 6 (some .long) 2 := ⟨⟨T12 (i := 210) rfl rfl, T11 (i := 3) rfl rfl, by decide +kernel, by decide, Or.inl (T12 (i := 207) rfl rfl)⟩, T12 (i := 208) rfl rfl, T12 (i := 209) rfl rfl⟩
theorem lkX4_146 : LkV RX4 146 yX2_isAsked cX2_isAsked 2 (some .boolean) 1 := ⟨⟨T12 (i := 9) rfl rfl, T11 (i := 2) rfl rfl, by decide +kernel, by decide, Or.inl (T13 (i := 26) rfl rfl)⟩, T12 (i := 7) rfl rfl, T12 (i := 8) rfl rfl⟩
theorem lkX4_149 : LkS RX4 149 yX4_commonDivisor cX4_commonDivisor 11 (some .long) 2 := ⟨⟨T13 (i := 29) rfl rfl, T11 (i := 1) rfl rfl, by decide +kernel, by decide, Or.inl (T13 (i := 27) rfl rfl)⟩, T13 (i := 28) rfl rfl⟩
theorem lkX4_160 : LkV RX4 160 yX3_tally cX3_tally 1 (some .int) 0 := ⟨⟨T12 (i := 219) rfl rfl, T11 (i := 4) rfl rfl, by decide +kernel, by decide, Or.inl (T12 (i := 216) rfl rfl)⟩, T12 (i := 217) rfl rfl, T12 (i := 218) rfl rfl⟩
theorem lkX4_179 : LkV RX4 179 yX2_reset cX2_reset 3 none 0 := ⟨⟨T11 (i := 32) rfl rfl, T11 (i := 2) rfl rfl, by decide +kernel, by decide, Or.inr ⟨_, N13 (i := 17) rfl rfl⟩⟩, T11 (i := 31) rfl rfl, T10 (i := 0) rfl rfl⟩
theorem lkX4_182 : LkV RX4 182 yX2_isFullFor cX2_isFullFor 2 (some .boolean) 1 := ⟨⟨T11 (i := 198) rfl rfl, T11 (i := 2) rfl rfl, by decide +kernel, by decide, Or.inl (T11 (i := 195) rfl rfl)⟩, T11 (i := 196) rfl rfl, T11 (i := 197) rfl rfl⟩
theorem lkX4_185 : LkV RX4 185 yX2_append cX2_append 7 (some .int) 5 := ⟨⟨T11 (i := 202) rfl rfl, T11 (i := 2) rfl rfl, by decide +kernel, by decide, Or.inl (T11 (i := 199) rfl rfl)⟩, T11 (i := 200) rfl rfl, T11 (i := 201) rfl rfl⟩
theorem lkX4_188 : LkV RX4 188 yX3_forget cX3_forget 1 none 0 := ⟨⟨T11 (i := 177) rfl rfl, T11 (i := 4) rfl rfl, by decide +kernel, by decide, Or.inl (T11 (i := 174) rfl rfl)⟩, T11 (i := 175) rfl rfl, T11 (i := 176) rfl rfl⟩
theorem lkX5_66 : LkV RX5 66 yX5_reset cX5_reset 2 none 0 := ⟨⟨T13 (i := 105) rfl rfl, T11 (i := 5) rfl rfl, by decide +kernel, by decide, Or.inl (T13 (i := 102) rfl rfl)⟩, T13 (i := 104) rfl rfl, T10 (i := 20) rfl rfl⟩
theorem lkX5_86 : LkS RX5 86 yX5_isIn cX5_isIn 3 (some .boolean) 3 := ⟨⟨T13 (i := 208) rfl rfl, T11 (i := 5) rfl rfl, by decide +kernel, by decide, Or.inl (T13 (i := 206) rfl rfl)⟩, T13 (i := 207) rfl rfl⟩
theorem lkX5_90 : LkV RX5 90 yX5_added cX5_added 6 (some .int) 5 := ⟨⟨T13 (i := 216) rfl rfl, T11 (i := 5) rfl rfl, by decide +kernel, by decide, Or.inl (T13 (i := 213) rfl rfl)⟩, T13 (i := 215) rfl rfl, T10 (i := 21) rfl rfl⟩
theorem lkX5_94 : LkS RX5 94 yX5_isTerm cX5_isTerm 1 (some .boolean) 1 := ⟨⟨T13 (i := 223) rfl rfl, T11 (i := 5) rfl rfl, by decide +kernel, by decide, Or.inl (T13 (i := 221) rfl rfl)⟩, T13 (i := 222) rfl rfl⟩
theorem lkX5_98 : LkS RX5 98 yX5_bit cX5_bit 1 (some .int) 1 := ⟨⟨T14 (i := 14) rfl rfl, T11 (i := 5) rfl rfl, by decide +kernel, by decide, Or.inl (T14 (i := 12) rfl rfl)⟩, T14 (i := 13) rfl rfl⟩
theorem lkX5_102 : LkV RX5 102 yX5_passed cX5_passed 3 (some .int) 1 := ⟨⟨T14 (i := 18) rfl rfl, T11 (i := 5) rfl rfl, by decide +kernel, by decide, Or.inl (T14 (i := 15) rfl rfl)⟩, T14 (i := 17) rfl rfl, T10 (i := 23) rfl rfl⟩
theorem lkX5_105 : LkV RX5 105 yX5_liven cX5_liven 3 none 0 := ⟨⟨T14 (i := 11) rfl rfl, T11 (i := 5) rfl rfl, by decide +kernel, by decide, Or.inl (T14 (i := 8) rfl rfl)⟩, T14 (i := 10) rfl rfl, T10 (i := 22) rfl rfl⟩
theorem lkX5_108 : LkS RX5 108 yX5_digit cX5_digit 4 (some .int) 2 := ⟨⟨T14 (i := 61) rfl rfl, T11 (i := 5) rfl rfl, by decide +kernel, by decide, Or.inl (T14 (i := 59) rfl rfl)⟩, T14 (i := 60) rfl rfl⟩
theorem lkX5_122 : LkS RX5 122 yX5_termOf cX5_termOf 2 (some .int) 2 := ⟨⟨T14 (i := 58) rfl rfl, T11 (i := 5) rfl rfl, by decide +kernel, by decide, Or.inl (T14 (i := 56) rfl rfl)⟩, T14 (i := 57) rfl rfl⟩
theorem lkX5_125 : LkS RX5 125 yX5_with cX5_with 5 (some .int) 3 := ⟨⟨T14 (i := 64) rfl rfl, T11 (i := 5) rfl rfl, by decide +kernel, by decide, Or.inl (T14 (i := 62) rfl rfl)⟩, T14 (i := 63) rfl rfl⟩
theorem lkX5_131 : LkV RX5 131 yX5_make cX5_make 4 none 2 := ⟨⟨T14 (i := 69) rfl rfl, T11 (i := 5) rfl rfl, by decide +kernel, by decide, Or.inl (T14 (i := 66) rfl rfl)⟩, T14 (i := 68) rfl rfl, T10 (i := 31) rfl rfl⟩
theorem lkX5_135 : LkS RX5 135 yX5_worth cX5_worth 4 (some .int) 4 := ⟨⟨T14 (i := 72) rfl rfl, T11 (i := 5) rfl rfl, by decide +kernel, by decide, Or.inl (T14 (i := 70) rfl rfl)⟩, T14 (i := 71) rfl rfl⟩
theorem lkX5_139 : LkS RX5 139 yX5_holds cX5_holds 3 (some .boolean) 3 := ⟨⟨T14 (i := 75) rfl rfl, T11 (i := 5) rfl rfl, by decide +kernel, by decide, Or.inl (T14 (i := 73) rfl rfl)⟩, T14 (i := 74) rfl rfl⟩
theorem lkX5_142 : LkV RX5 142 yX5_isUneven cX5_isUneven 4 (some .boolean) 0 := ⟨⟨T14 (i := 26) rfl rfl, T11 (i := 5) rfl rfl, by decide +kernel, by decide, Or.inl (T14 (i := 23) rfl rfl)⟩, T14 (i := 25) rfl rfl, T10 (i := 24) rfl rfl⟩
theorem lkX5_154 : LkV RX5 154 yX5_come cX5_come 7 none 3 := ⟨⟨T14 (i := 31) rfl rfl, T11 (i := 5) rfl rfl, by decide +kernel, by decide, Or.inl (T14 (i := 28) rfl rfl)⟩, T14 (i := 30) rfl rfl, T10 (i := 25) rfl rfl⟩
theorem lkX5_158 : LkV RX5 158 yX5_found cX5_found 4 (some .int) 2 := ⟨⟨T14 (i := 35) rfl rfl, T11 (i := 5) rfl rfl, by decide +kernel, by decide, Or.inl (T14 (i := 32) rfl rfl)⟩, T14 (i := 34) rfl rfl, T10 (i := 26) rfl rfl⟩
theorem lkX5_161 : LkV RX5 161 yX5_isThere cX5_isThere 4 (some .boolean) 2 := ⟨⟨T14 (i := 39) rfl rfl, T11 (i := 5) rfl rfl, by decide +kernel, by decide, Or.inl (T14 (i := 36) rfl rfl)⟩, T14 (i := 38) rfl rfl, T10 (i := 27) rfl rfl⟩
theorem lkX5_165 : LkV RX5 165 yX5_go cX5_go 9 none 3 := ⟨⟨T14 (i := 55) rfl rfl, T11 (i := 5) rfl rfl, by decide +kernel, by decide, Or.inl (T14 (i := 52) rfl rfl)⟩, T14 (i := 54) rfl rfl, T10 (i := 30) rfl rfl⟩
theorem lkX5_168 : LkV RX5 168 yX5_cut cX5_cut 5 (some .int) 2 := ⟨⟨T14 (i := 79) rfl rfl, T11 (i := 5) rfl rfl, by decide +kernel, by decide, Or.inl (T14 (i := 76) rfl rfl)⟩, T14 (i := 78) rfl rfl, T10 (i := 32) rfl rfl⟩
theorem lkX5_171 : LkV RX5 171 yX5_least cX5_least 2 (some .int) 0 := ⟨⟨T14 (i := 47) rfl rfl, T11 (i := 5) rfl rfl, by decide +kernel, by decide, Or.inl (T14 (i := 44) rfl rfl)⟩, T14 (i := 46) rfl rfl, T10 (i := 28) rfl rfl⟩
theorem lkX5_175 : LkV RX5 175 yX5_isRoom cX5_isRoom 6 (some .boolean) 1 := ⟨⟨T14 (i := 51) rfl rfl, T11 (i := 5) rfl rfl, by decide +kernel, by decide, Or.inl (T14 (i := 48) rfl rfl)⟩, T14 (i := 50) rfl rfl, T10 (i := 29) rfl rfl⟩
theorem lkX5_182 : LkV RX5 182 yX5_sumAt cX5_sumAt 7 (some .long) 3 := ⟨⟨T14 (i := 105) rfl rfl, T11 (i := 5) rfl rfl, by decide +kernel, by decide, Or.inl (T14 (i := 102) rfl rfl)⟩, T14 (i := 104) rfl rfl, T10 (i := 33) rfl rfl⟩
theorem lkX5_192 : LkV RX5 192 yX5_lay cX5_lay 5 none 3 := ⟨⟨T14 (i := 121) rfl rfl, T11 (i := 5) rfl rfl, by decide +kernel, by decide, Or.inl (T14 (i := 118) rfl rfl)⟩, T14 (i := 120) rfl rfl, T10 (i := 35) rfl rfl⟩
theorem lkX5_195 : LkV RX5 195 yX5_listed cX5_listed 9 (some .int) 2 := ⟨⟨T14 (i := 117) rfl rfl, T11 (i := 5) rfl rfl, by decide +kernel, by decide, Or.inl (T14 (i := 114) rfl rfl)⟩, T14 (i := 116) rfl rfl, T10 (i := 34) rfl rfl⟩
theorem lkL_19 : LkV RL 19 yX4_weight cX4_weight 4 (some .int) 3 := ⟨⟨T11 (i := 159) rfl rfl, T11 (i := 1) rfl rfl, by decide +kernel, by decide, Or.inl (T11 (i := 156) rfl rfl)⟩, T11 (i := 157) rfl rfl, T11 (i := 158) rfl rfl⟩
theorem lkL_23 : LkV RL 23 yX5_weight cX5_weight 5 (some .int) 3 := ⟨⟨T13 (i := 205) rfl rfl, T11 (i := 5) rfl rfl, by decide +kernel, by decide, Or.inl (T13 (i := 202) rfl rfl)⟩, T13 (i := 203) rfl rfl, T13 (i := 204) rfl rfl⟩
theorem lkL_24 : LkV RL 24 yX4_draw cX4_draw 3 (some .int) 2 := ⟨⟨T11 (i := 187) rfl rfl, T11 (i := 1) rfl rfl, by decide +kernel, by decide, Or.inl (T11 (i := 184) rfl rfl)⟩, T11 (i := 185) rfl rfl, T11 (i := 186) rfl rfl⟩
theorem lkL_28 : LkV RL 28 yX5_draw cX5_draw 3 (some .int) 2 := ⟨⟨T13 (i := 212) rfl rfl, T11 (i := 5) rfl rfl, by decide +kernel, by decide, Or.inl (T13 (i := 209) rfl rfl)⟩, T13 (i := 210) rfl rfl, T13 (i := 211) rfl rfl⟩
theorem lkL_29 : LkV RL 29 yX4_set cX4_set 5 (some .int) 4 := ⟨⟨T11 (i := 210) rfl rfl, T11 (i := 1) rfl rfl, by decide +kernel, by decide, Or.inl (T11 (i := 207) rfl rfl)⟩, T11 (i := 208) rfl rfl, T11 (i := 209) rfl rfl⟩
theorem lkL_33 : LkV RL 33 yX5_set cX5_set 5 (some .int) 4 := ⟨⟨T13 (i := 220) rfl rfl, T11 (i := 5) rfl rfl, by decide +kernel, by decide, Or.inl (T13 (i := 217) rfl rfl)⟩, T13 (i := 218) rfl rfl, T13 (i := 219) rfl rfl⟩
theorem lkL_34 : LkV RL 34 yX4_observe cX4_observe 4 (some .int) 3 := ⟨⟨T11 (i := 217) rfl rfl, T11 (i := 1) rfl rfl, by decide +kernel, by decide, Or.inl (T11 (i := 214) rfl rfl)⟩, T11 (i := 215) rfl rfl, T11 (i := 216) rfl rfl⟩
theorem lkL_37 : LkV RL 37 yX5_observe cX5_observe 4 (some .int) 3 := ⟨⟨T13 (i := 227) rfl rfl, T11 (i := 5) rfl rfl, by decide +kernel, by decide, Or.inl (T13 (i := 224) rfl rfl)⟩, T13 (i := 225) rfl rfl, T13 (i := 226) rfl rfl⟩
theorem lkL_38 : LkV RL 38 yX4_weigh cX4_weigh 2 (some .int) 1 := ⟨⟨T11 (i := 221) rfl rfl, T11 (i := 1) rfl rfl, by decide +kernel, by decide, Or.inl (T11 (i := 218) rfl rfl)⟩, T11 (i := 219) rfl rfl, T11 (i := 220) rfl rfl⟩
theorem lkL_42 : LkV RL 42 yX5_weigh cX5_weigh 2 (some .int) 1 := ⟨⟨T13 (i := 231) rfl rfl, T11 (i := 5) rfl rfl, by decide +kernel, by decide, Or.inl (T13 (i := 228) rfl rfl)⟩, T13 (i := 229) rfl rfl, T13 (i := 230) rfl rfl⟩
theorem lkL_43 : LkV RL 43 yX4_skip cX4_skip 3 (some .int) 2 := ⟨⟨T11 (i := 225) rfl rfl, T11 (i := 1) rfl rfl, by decide +kernel, by decide, Or.inl (T11 (i := 222) rfl rfl)⟩, T11 (i := 223) rfl rfl, T11 (i := 224) rfl rfl⟩
theorem lkL_46 : LkV RL 46 yX5_skip cX5_skip 3 (some .int) 2 := ⟨⟨T13 (i := 235) rfl rfl, T11 (i := 5) rfl rfl, by decide +kernel, by decide, Or.inl (T13 (i := 232) rfl rfl)⟩, T13 (i := 233) rfl rfl, T13 (i := 234) rfl rfl⟩
theorem lkL_47 : LkV RL 47 yX4_drop cX4_drop 1 (some .int) 0 := ⟨⟨T11 (i := 229) rfl rfl, T11 (i := 1) rfl rfl, by decide +kernel, by decide, Or.inl (T11 (i := 226) rfl rfl)⟩, T11 (i := 227) rfl rfl, T11 (i := 228) rfl rfl⟩
theorem lkL_51 : LkV RL 51 yX5_drop cX5_drop 1 (some .int) 0 := ⟨⟨T13 (i := 239) rfl rfl, T11 (i := 5) rfl rfl, by decide +kernel, by decide, Or.inl (T13 (i := 236) rfl rfl)⟩, T13 (i := 237) rfl rfl, T13 (i := 238) rfl rfl⟩
theorem lkL_52 : LkV RL 52 yX4_ask cX4_ask 3 (some .int) 2 := ⟨⟨T12 (i := 1) rfl rfl, T11 (i := 1) rfl rfl, by decide +kernel, by decide, Or.inl (T11 (i := 238) rfl rfl)⟩, T11 (i := 239) rfl rfl, T12 (i := 0) rfl rfl⟩
theorem lkL_56 : LkV RL 56 yX5_ask cX5_ask 4 (some .int) 2 := ⟨⟨T14 (i := 3) rfl rfl, T11 (i := 5) rfl rfl, by decide +kernel, by decide, Or.inl (T14 (i := 0) rfl rfl)⟩, T14 (i := 1) rfl rfl, T14 (i := 2) rfl rfl⟩
theorem lkL_57 : LkV RL 57 yX4_live cX4_live 2 (some .int) 1 := ⟨⟨T12 (i := 13) rfl rfl, T11 (i := 1) rfl rfl, by decide +kernel, by decide, Or.inl (T12 (i := 10) rfl rfl)⟩, T12 (i := 11) rfl rfl, T12 (i := 12) rfl rfl⟩
theorem lkL_60 : LkV RL 60 yX5_live cX5_live 2 (some .int) 1 := ⟨⟨T14 (i := 7) rfl rfl, T11 (i := 5) rfl rfl, by decide +kernel, by decide, Or.inl (T14 (i := 4) rfl rfl)⟩, T14 (i := 5) rfl rfl, T14 (i := 6) rfl rfl⟩
theorem lkL_61 : LkV RL 61 yX4_begin cX4_begin 1 (some .int) 0 := ⟨⟨T12 (i := 45) rfl rfl, T11 (i := 1) rfl rfl, by decide +kernel, by decide, Or.inl (T12 (i := 42) rfl rfl)⟩, T12 (i := 43) rfl rfl, T12 (i := 44) rfl rfl⟩
theorem lkL_64 : LkV RL 64 yX5_begin cX5_begin 2 (some .int) 0 := ⟨⟨T14 (i := 22) rfl rfl, T11 (i := 5) rfl rfl, by decide +kernel, by decide, Or.inl (T14 (i := 19) rfl rfl)⟩, T14 (i := 20) rfl rfl, T14 (i := 21) rfl rfl⟩
theorem lkL_65 : LkV RL 65 yX4_list cX4_list 2 (some .int) 1 := ⟨⟨T12 (i := 94) rfl rfl, T11 (i := 1) rfl rfl, by decide +kernel, by decide, Or.inl (T12 (i := 91) rfl rfl)⟩, T12 (i := 92) rfl rfl, T12 (i := 93) rfl rfl⟩
theorem lkL_68 : LkV RL 68 yX5_list cX5_list 5 (some .int) 1 := ⟨⟨T14 (i := 43) rfl rfl, T11 (i := 5) rfl rfl, by decide +kernel, by decide, Or.inl (T14 (i := 40) rfl rfl)⟩, T14 (i := 41) rfl rfl, T14 (i := 42) rfl rfl⟩
theorem lkL_69 : LkV RL 69 yX4_done cX4_done 2 (some .int) 0 := ⟨⟨T12 (i := 170) rfl rfl, T11 (i := 1) rfl rfl, by decide +kernel, by decide, Or.inl (T12 (i := 167) rfl rfl)⟩, T12 (i := 168) rfl rfl, T12 (i := 169) rfl rfl⟩
theorem lkL_72 : LkV RL 72 yX5_done cX5_done 2 (some .int) 0 := ⟨⟨T14 (i := 83) rfl rfl, T11 (i := 5) rfl rfl, by decide +kernel, by decide, Or.inl (T14 (i := 80) rfl rfl)⟩, T14 (i := 81) rfl rfl, T14 (i := 82) rfl rfl⟩
theorem lkL_73 : LkV RL 73 yX4_states cX4_states 3 (some .int) 2 := ⟨⟨T12 (i := 176) rfl rfl, T11 (i := 1) rfl rfl, by decide +kernel, by decide, Or.inl (T12 (i := 173) rfl rfl)⟩, T12 (i := 174) rfl rfl, T12 (i := 175) rfl rfl⟩
theorem lkL_76 : LkV RL 76 yX5_states cX5_states 3 (some .int) 2 := ⟨⟨T14 (i := 87) rfl rfl, T11 (i := 5) rfl rfl, by decide +kernel, by decide, Or.inl (T14 (i := 84) rfl rfl)⟩, T14 (i := 85) rfl rfl, T14 (i := 86) rfl rfl⟩
theorem lkL_77 : LkV RL 77 yX4_code cX4_code 3 (some .int) 2 := ⟨⟨T12 (i := 181) rfl rfl, T11 (i := 1) rfl rfl, by decide +kernel, by decide, Or.inl (T12 (i := 178) rfl rfl)⟩, T12 (i := 179) rfl rfl, T12 (i := 180) rfl rfl⟩
theorem lkL_80 : LkV RL 80 yX5_code cX5_code 3 (some .int) 2 := ⟨⟨T14 (i := 91) rfl rfl, T11 (i := 5) rfl rfl, by decide +kernel, by decide, Or.inl (T14 (i := 88) rfl rfl)⟩, T14 (i := 89) rfl rfl, T14 (i := 90) rfl rfl⟩
theorem lkL_81 : LkV RL 81 yX4_mass cX4_mass 3 (some .long) 2 := ⟨⟨T12 (i := 191) rfl rfl, T11 (i := 1) rfl rfl, by decide +kernel, by decide, Or.inl (T12 (i := 188) rfl rfl)⟩, T12 (i := 189) rfl rfl, T12 (i := 190) rfl rfl⟩
theorem lkL_85 : LkV RL 85 yX5_mass cX5_mass 3 (some .long) 2 := ⟨⟨T14 (i := 95) rfl rfl, T11 (i := 5) rfl rfl, by decide +kernel, by decide, Or.inl (T14 (i := 92) rfl rfl)⟩, T14 (i := 93) rfl rfl, T14 (i := 94) rfl rfl⟩
theorem lkL_86 : LkV RL 86 yX4_sum cX4_sum 4 (some .long) 3 := ⟨⟨T12 (i := 196) rfl rfl, T11 (i := 1) rfl rfl, by decide +kernel, by decide, Or.inl (T12 (i := 193) rfl rfl)⟩, T12 (i := 194) rfl rfl, T12 (i := 195) rfl rfl⟩
theorem lkL_89 : LkV RL 89 yX5_sum cX5_sum 7 (some .long) 3 := ⟨⟨T14 (i := 99) rfl rfl, T11 (i := 5) rfl rfl, by decide +kernel, by decide, Or.inl (T14 (i := 96) rfl rfl)⟩, T14 (i := 97) rfl rfl, T14 (i := 98) rfl rfl⟩
theorem lkL_95 : LkV RL 95 yX5_odds cX5_odds 14 (some .long) 3 := ⟨⟨T14 (i := 109) rfl rfl, T11 (i := 5) rfl rfl, by decide +kernel, by decide, Or.inl (T14 (i := 106) rfl rfl)⟩, T14 (i := 107) rfl rfl, T14 (i := 108) rfl rfl⟩
theorem lkL_96 : LkV RL 96 yX5_thrown cX5_thrown 1 (some .int) 0 := ⟨⟨T13 (i := 201) rfl rfl, T11 (i := 5) rfl rfl, by decide +kernel, by decide, Or.inl (T13 (i := 198) rfl rfl)⟩, T13 (i := 199) rfl rfl, T13 (i := 200) rfl rfl⟩
theorem lkL_99 : LkV RL 99 yX4_runs cX4_runs 1 (some .int) 0 := ⟨⟨T12 (i := 215) rfl rfl, T11 (i := 1) rfl rfl, by decide +kernel, by decide, Or.inl (T12 (i := 212) rfl rfl)⟩, T12 (i := 213) rfl rfl, T12 (i := 214) rfl rfl⟩
theorem lkL_102 : LkV RL 102 yX5_runs cX5_runs 1 (some .int) 0 := ⟨⟨T14 (i := 113) rfl rfl, T11 (i := 5) rfl rfl, by decide +kernel, by decide, Or.inl (T14 (i := 110) rfl rfl)⟩, T14 (i := 111) rfl rfl, T14 (i := 112) rfl rfl⟩
theorem lkL_103 : LkV RL 103 yX4_plain cX4_plain 4 (some .long) 2 := ⟨⟨T13 (i := 8) rfl rfl, T11 (i := 1) rfl rfl, by decide +kernel, by decide, Or.inl (T13 (i := 5) rfl rfl)⟩, T13 (i := 6) rfl rfl, T13 (i := 7) rfl rfl⟩
theorem lkL_106 : LkV RL 106 yX5_plain cX5_plain 3 (some .long) 2 := ⟨⟨T14 (i := 125) rfl rfl, T11 (i := 5) rfl rfl, by decide +kernel, by decide, Or.inl (T14 (i := 122) rfl rfl)⟩, T14 (i := 123) rfl rfl, T14 (i := 124) rfl rfl⟩
theorem lkL_107 : LkV RL 107 yX4_count cX4_count 2 (some .int) 1 := ⟨⟨T13 (i := 12) rfl rfl, T11 (i := 1) rfl rfl, by decide +kernel, by decide, Or.inl (T13 (i := 9) rfl rfl)⟩, T13 (i := 10) rfl rfl, T13 (i := 11) rfl rfl⟩
theorem lkL_110 : LkV RL 110 yX5_count cX5_count 2 (some .int) 1 := ⟨⟨T14 (i := 131) rfl rfl, T11 (i := 5) rfl rfl, by decide +kernel, by decide, Or.inl (T14 (i := 128) rfl rfl)⟩, T14 (i := 129) rfl rfl, T14 (i := 130) rfl rfl⟩
theorem lkL_111 : LkV RL 111 yX4_clear cX4_clear 2 (some .int) 0 := ⟨⟨T13 (i := 16) rfl rfl, T11 (i := 1) rfl rfl, by decide +kernel, by decide, Or.inl (T13 (i := 13) rfl rfl)⟩, T13 (i := 14) rfl rfl, T13 (i := 15) rfl rfl⟩
theorem lkL_114 : LkV RL 114 yX5_clear cX5_clear 2 (some .int) 0 := ⟨⟨T14 (i := 135) rfl rfl, T11 (i := 5) rfl rfl, by decide +kernel, by decide, Or.inl (T14 (i := 132) rfl rfl)⟩, T14 (i := 133) rfl rfl, T14 (i := 134) rfl rfl⟩
theorem klX1_67 : Cond.constantLong RX1 67 (167961600000000) ∈ TsG := T12 (i := 71) rfl rfl
theorem klX2_107 : Cond.constantLong RX2 107 (60) ∈ TsG := T12 (i := 145) rfl rfl
theorem klX4_131 : Cond.constantLong RX4 131 (-1) ∈ TsG := T12 (i := 200) rfl rfl
theorem klX4_133 : Cond.constantLong RX4 133 (-3) ∈ TsG := T12 (i := 201) rfl rfl
theorem klX3_33 : Cond.constantLong RX3 33 (167961600000000) ∈ TsG := T12 (i := 225) rfl rfl
theorem klX5_152 : Cond.constantLong RX5 152 (167961600000000) ∈ TsG := T14 (i := 27) rfl rfl
theorem klX5_129 : Cond.constantLong RX5 129 (60) ∈ TsG := T14 (i := 65) rfl rfl
theorem klX5_178 : Cond.constantLong RX5 178 (-1) ∈ TsG := T14 (i := 100) rfl rfl
theorem klX5_180 : Cond.constantLong RX5 180 (-3) ∈ TsG := T14 (i := 101) rfl rfl
theorem klX5_198 : Cond.constantLong RX5 198 (-4) ∈ TsG := T14 (i := 126) rfl rfl
theorem klX5_200 : Cond.constantLong RX5 200 (-2) ∈ TsG := T14 (i := 127) rfl rfl
theorem lmX1_141 : Cond.methodLink RX1 141 arraycopyName ∈ TsG := T12 (i := 88) rfl rfl
theorem lmX2_99 : Cond.methodLink RX2 99 Lib.Math.min.name ∈ TsG := T12 (i := 34) rfl rfl
theorem lmX2_121 : Cond.methodLink RX2 121 Lib.Math.max.name ∈ TsG := T12 (i := 159) rfl rfl
theorem lm_min_s : Cond.static Lib.Math.min.name ∈ TsG := T12 (i := 35) rfl rfl
theorem lm_min_c : Cond.code Lib.Math.min.name Lib.Math.min.code 2 (some .int) ∈ TsG := T12 (i := 36) rfl rfl
theorem lm_max_s : Cond.static Lib.Math.max.name ∈ TsG := T12 (i := 160) rfl rfl
theorem lm_max_c : Cond.code Lib.Math.max.name Lib.Math.max.code 2 (some .int) ∈ TsG := T12 (i := 161) rfl rfl
theorem lm_math : Cond.initialized "java/lang/Math" ∈ TsG := T11 (i := 6) rfl rfl
theorem lm_sys : Cond.initialized "java/lang/System" ∈ TsG := T11 (i := 8) rfl rfl
theorem lm_ac_n : Cond.native arraycopyName ∈ TsG := T12 (i := 90) rfl rfl
theorem lm_ac_s : Cond.static arraycopyName ∈ TsG := T12 (i := 89) rfl rfl
