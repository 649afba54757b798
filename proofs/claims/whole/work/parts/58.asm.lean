/-! ===== the class's cells put together ===== -/
def adC (h0 : Nat) (aP aL aS : Nat → Nat) : Nat → Nat := fun c => if c = 0 then h0 else if c = 1 then aP 0 else if c = 2 then aL 0 else if c = 3 then aS 0 else if c ≤ 8 then aP (c - 3) else if c = 9 then aP 6 else if c = 10 then aP 11 else if c = 11 then aL 1 else if c = 12 then aL 33 else if c ≤ 17 then aL (c + 52) else if c = 18 then aS 1 else if c ≤ 22 then aP (c - 12) else if c ≤ 53 then aL (c - 21) else if c ≤ 84 then aL (c - 20) else aS (c - 83)
/-- where cell c stands among them -/
def sgC (c : Nat) : Nat := if c = 0 then 0 else if c = 1 then 1 else if c = 2 then 13 else if c = 3 then 83 else if c ≤ 8 then c - 2 else if c = 9 then 7 else if c = 10 then 12 else if c = 11 then 14 else if c = 12 then 46 else if c ≤ 17 then c + 65 else if c = 18 then 84 else if c ≤ 22 then c - 11 else if c ≤ 53 then c - 8 else if c ≤ 84 then c - 7 else c
theorem sgC_inj0 : ∀ i, i < 91 → ∀ j, j < 91 → sgC i = sgC j → i = j := by decide +kernel
theorem sgC_inj {i j : Nat} (hi : i < 91) (hj : j < 91) (h : sgC i = sgC j) : i = j := sgC_inj0 i hi j hj h
def stC (SP : St) : St := (fun k => if 207 ≤ k ∧ k ≤ 210 then gI SP k else 0, fun _ => 0, fun c => if 4 ≤ c ∧ c ≤ 8 then gA SP (c - 3) else if c = 10 then gA SP 11 else if 19 ≤ c ∧ c ≤ 22 then gA SP (c - 12) else fun _ => 0, fun _ _ => 0)
theorem stC_RC {SP : St} (h1 : gI SP 207 = iv 0) (h2 : gI SP 208 = iv 0) (h3 : gI SP 209 = iv 0) (h4 : gI SP 210 = iv 0) (h5 : ∀ k, k < 7 → gA SP k = fun _ => 0) (h6 : ∀ r v, r < 4 → v < 10 → gA SP (7 + r) v = iv (pW P0 r v)) : RC P0 (stC SP) := by
  refine ⟨h2, h3, h4, fun k => ?_, fun k => ?_, fun k => ?_, fun k => ?_, fun k => ?_, fun r v hr hv => ?_, h1⟩
  · exact congrFun (h5 1 (by decide)) k
  · exact congrFun (h5 2 (by decide)) k
  · exact congrFun (h5 3 (by decide)) k
  · exact congrFun (h5 4 (by decide)) k
  · exact congrFun (h5 5 (by decide)) k
  · rw [← h6 r v hr hv]
    show (if 4 ≤ 19 + r ∧ 19 + r ≤ 8 then gA SP (19 + r - 3) else if 19 + r = 10 then gA SP 11 else if 19 ≤ 19 + r ∧ 19 + r ≤ 22 then gA SP (19 + r - 12) else fun _ => 0) v = _
    rw [if_neg (by omega), if_neg (by omega), if_pos (by omega), show 19 + r - 12 = 7 + r by omega]
section AS
variable {D : va_G} {A : Nat → Prop} {H : Heap} {d2 : ClassId × ClassId × ClassId × ClassId × ClassId} {h0 : Nat} {aP aL aS : Nat → Nat} {SP : St}
def wAll (d2 : ClassId × ClassId × ClassId × ClassId × ClassId) (h0 : Nat) (aP aL aS : Nat → Nat) (SP : St) : va_W := (([(h0, .inr (3, [.ref (aP 0), .ref (aL 0), .ref (aS 0)]))] ++ wlP (aP, d2) SP) ++ wlL (aL, d2) (aP 0)) ++ wlS (aS, d2) (aP 0)
theorem lenP_w : (wlP (aP, d2) SP).length = 12 := by unfold wlP; rw [List.length_map, List.length_range]
theorem lenL_w {pr : Nat} : (wlL (aL, d2) pr).length = 70 := by unfold wlL; rw [List.length_map, List.length_range]
theorem wA_0 : (wAll d2 h0 aP aL aS SP)[0]? = some (h0, .inr (3, [.ref (aP 0), .ref (aL 0), .ref (aS 0)])) := rfl
theorem wA_P {j : Nat} (h : j < 12) : (wAll d2 h0 aP aL aS SP)[1 + j]? = some (aP j, cellP (aP, d2) SP j) := by
  unfold wAll
  rw [List.getElem?_append_left (by rw [List.length_append, List.length_append, lenP_w]; show 1 + j < 1 + 12 + _; omega), List.getElem?_append_left (by rw [List.length_append, lenP_w]; show 1 + j < 1 + 12; omega), List.getElem?_append_right (by show 1 ≤ _; omega)]
  show (wlP (aP, d2) SP)[1 + j - 1]? = _
  rw [Nat.add_sub_cancel_left]
  exact wl_get _ h
theorem wA_L {j : Nat} (h : j < 70) : (wAll d2 h0 aP aL aS SP)[13 + j]? = some (aL j, cellL (aL, d2) (aP 0) j) := by
  unfold wAll
  rw [List.getElem?_append_left (by rw [List.length_append, List.length_append, lenP_w, lenL_w]; show 13 + j < 1 + 12 + 70; omega), List.getElem?_append_right (by rw [List.length_append, lenP_w]; show 1 + 12 ≤ _; omega), List.length_append, lenP_w]
  show (wlL (aL, d2) (aP 0))[13 + j - (1 + 12)]? = _
  rw [show 13 + j - (1 + 12) = j by omega]
  exact wl_get _ h
theorem wA_S {j : Nat} (h : j < 8) : (wAll d2 h0 aP aL aS SP)[83 + j]? = some (aS j, cellS (aS, d2) (aP 0) j) := by
  unfold wAll
  rw [List.getElem?_append_right (by rw [List.length_append, List.length_append, lenP_w, lenL_w]; show 1 + 12 + 70 ≤ _; omega), List.length_append, List.length_append, lenP_w, lenL_w]
  show (wlS (aS, d2) (aP 0))[83 + j - (1 + 12 + 70)]? = _
  rw [show 83 + j - (1 + 12 + 70) = j by omega]
  exact wl_get _ h
theorem at_ref {q : Nat} {cA : ClassId} {n : Nat} {f g : Nat → Option Nat} (h : ∀ i, i < n → f i = g i) (hP : va_at D vwCl (q, .inl (cA, n, .inr (.inr (.inr (.inr f))))) H) : va_at D vwCl (q, .inl (cA, n, .inr (.inr (.inr (.inr g))))) H := by
  have hP : H[q]? = some (vp_cell cA (n, .inr (.inr (.inr (.inr f))))) := hP
  rw [ref_c h] at hP
  exact hP
theorem asm_k {c : Nat} (hc : c < 91) : ∃ e : va_E, (wAll d2 h0 aP aL aS SP)[sgC c]? = some (adC h0 aP aL aS c, e) ∧ (va_at D vwCl (adC h0 aP aL aS c, e) H → va_at D vwCl (adC h0 aP aL aS c, cellC (adC h0 aP aL aS, d2) (stC SP) c) H) := by
  have adP : ∀ i, i < 4 → adC h0 aP aL aS (19 + i) = aP (7 + i) := by
    intro i hi
    unfold adC
    rw [if_neg (by omega), if_neg (by omega), if_neg (by omega), if_neg (by omega), if_neg (by omega), if_neg (by omega), if_neg (by omega), if_neg (by omega), if_neg (by omega), if_neg (by omega), if_neg (by omega), if_pos (by omega), show 19 + i - 12 = 7 + i by omega]
  have adH : ∀ i, i < 31 → adC h0 aP aL aS (23 + i) = aL (2 + i) := by
    intro i hi
    unfold adC
    rw [if_neg (by omega), if_neg (by omega), if_neg (by omega), if_neg (by omega), if_neg (by omega), if_neg (by omega), if_neg (by omega), if_neg (by omega), if_neg (by omega), if_neg (by omega), if_neg (by omega), if_neg (by omega), if_pos (by omega), show 23 + i - 21 = 2 + i by omega]
  have adM : ∀ i, i < 31 → adC h0 aP aL aS (54 + i) = aL (34 + i) := by
    intro i hi
    unfold adC
    rw [if_neg (by omega), if_neg (by omega), if_neg (by omega), if_neg (by omega), if_neg (by omega), if_neg (by omega), if_neg (by omega), if_neg (by omega), if_neg (by omega), if_neg (by omega), if_neg (by omega), if_neg (by omega), if_neg (by omega), if_pos (by omega), show 54 + i - 20 = 34 + i by omega]
  have adV : ∀ i, i < 6 → adC h0 aP aL aS (85 + i) = aS (2 + i) := by
    intro i hi
    unfold adC
    rw [if_neg (by omega), if_neg (by omega), if_neg (by omega), if_neg (by omega), if_neg (by omega), if_neg (by omega), if_neg (by omega), if_neg (by omega), if_neg (by omega), if_neg (by omega), if_neg (by omega), if_neg (by omega), if_neg (by omega), if_neg (by omega), show 85 + i - 83 = 2 + i by omega]
  match c, hc with
  | 0, _ => exact ⟨_, wA_0, id⟩
  | 1, _ => exact ⟨_, wA_P (j := 0) (by decide), id⟩
  | 2, _ => exact ⟨_, wA_L (j := 0) (by decide), id⟩
  | 3, _ => exact ⟨_, wA_S (j := 0) (by decide), id⟩
  | 4, _ => exact ⟨_, wA_P (j := 1) (by decide), id⟩
  | 5, _ => exact ⟨_, wA_P (j := 2) (by decide), id⟩
  | 6, _ => exact ⟨_, wA_P (j := 3) (by decide), id⟩
  | 7, _ => exact ⟨_, wA_P (j := 4) (by decide), id⟩
  | 8, _ => exact ⟨_, wA_P (j := 5) (by decide), id⟩
  | 9, _ => exact ⟨_, wA_P (j := 6) (by decide), fun h => at_ref (f := fun i => some (aP (7 + i))) (fun i hi => by rw [← adP i hi]) h⟩
  | 10, _ => exact ⟨_, wA_P (j := 11) (by decide), id⟩
  | 11, _ => exact ⟨_, wA_L (j := 1) (by decide), fun h => at_ref (f := fun i => some (aL (2 + i))) (fun i hi => by rw [← adH i hi]) h⟩
  | 12, _ => exact ⟨_, wA_L (j := 33) (by decide), fun h => at_ref (f := fun i => some (aL (34 + i))) (fun i hi => by rw [← adM i hi]) h⟩
  | 13, _ => exact ⟨_, wA_L (j := 65) (by decide), id⟩
  | 14, _ => exact ⟨_, wA_L (j := 66) (by decide), id⟩
  | 15, _ => exact ⟨_, wA_L (j := 67) (by decide), id⟩
  | 16, _ => exact ⟨_, wA_L (j := 68) (by decide), id⟩
  | 17, _ => exact ⟨_, wA_L (j := 69) (by decide), id⟩
  | 18, _ => exact ⟨_, wA_S (j := 1) (by decide), fun h => at_ref (f := fun i => some (aS (2 + i))) (fun i hi => by rw [← adV i hi]) h⟩
  | 19, _ => exact ⟨_, wA_P (j := 7) (by decide), id⟩
  | 20, _ => exact ⟨_, wA_P (j := 8) (by decide), id⟩
  | 21, _ => exact ⟨_, wA_P (j := 9) (by decide), id⟩
  | 22, _ => exact ⟨_, wA_P (j := 10) (by decide), id⟩
  | c + 23, hc =>
    have hgA : ∀ z : Nat, 23 ≤ z → gA (stC SP) z = fun _ => 0 := by
      intro z hz
      show (if 4 ≤ z ∧ z ≤ 8 then gA SP (z - 3) else if z = 10 then gA SP 11 else if 19 ≤ z ∧ z ≤ 22 then gA SP (z - 12) else fun _ => 0) = _
      rw [if_neg (by omega), if_neg (by omega), if_neg (by omega)]
    by_cases h1 : c < 31
    · have e1 : sgC (c + 23) = 13 + (2 + c) := by
        unfold sgC
        rw [if_neg (by omega), if_neg (by omega), if_neg (by omega), if_neg (by omega), if_neg (by omega), if_neg (by omega), if_neg (by omega), if_neg (by omega), if_neg (by omega), if_neg (by omega), if_neg (by omega), if_neg (by omega), if_pos (by omega)]
        omega
      have e2 : cellC (adC h0 aP aL aS, d2) (stC SP) (c + 23) = .inl (d2.1, 200, .inl (fun _ => 0)) := by
        unfold cellC lenC
        rw [if_neg (by omega), if_neg (by omega), if_neg (by omega), if_neg (by omega), if_neg (by omega), if_neg (by omega), if_neg (by omega), if_neg (by omega), if_neg (by omega), if_neg (by omega), if_neg (by omega), if_neg (by omega), if_pos (by omega), hgA _ (by omega)]
      have e3 : cellL (aL, d2) (aP 0) (2 + c) = .inl (d2.1, 200, .inl (fun _ => 0)) := by
        unfold cellL
        rw [if_neg (by omega), if_neg (by omega), if_pos (by omega)]
      rw [e1, e2, show c + 23 = 23 + c by omega, adH c h1]
      refine ⟨_, wA_L (by omega), fun h => ?_⟩
      rw [e3] at h
      exact h
    · by_cases h2 : c < 62
      · have e1 : sgC (c + 23) = 13 + (34 + (c - 31)) := by
          unfold sgC
          rw [if_neg (by omega), if_neg (by omega), if_neg (by omega), if_neg (by omega), if_neg (by omega), if_neg (by omega), if_neg (by omega), if_neg (by omega), if_neg (by omega), if_neg (by omega), if_neg (by omega), if_neg (by omega), if_neg (by omega), if_pos (by omega)]
          omega
        have e2 : cellC (adC h0 aP aL aS, d2) (stC SP) (c + 23) = .inl (d2.2.1, 200, .inr (.inl (fun _ => 0))) := by
          unfold cellC lenC
          rw [if_neg (by omega), if_neg (by omega), if_neg (by omega), if_neg (by omega), if_neg (by omega), if_neg (by omega), if_neg (by omega), if_neg (by omega), if_pos (by omega), if_neg (by omega), if_neg (by omega), if_neg (by omega), if_pos (by omega)]
          rfl
        have e3 : cellL (aL, d2) (aP 0) (34 + (c - 31)) = .inl (d2.2.1, 200, .inr (.inl (fun _ => 0))) := by
          unfold cellL
          rw [if_neg (by omega), if_neg (by omega), if_neg (by omega), if_neg (by omega), if_pos (by omega)]
        rw [e1, e2, show c + 23 = 54 + (c - 31) by omega, adM (c - 31) (by omega)]
        refine ⟨_, wA_L (by omega), fun h => ?_⟩
        rw [e3] at h
        exact h
      · have e1 : sgC (c + 23) = 83 + (2 + (c - 62)) := by
          unfold sgC
          rw [if_neg (by omega), if_neg (by omega), if_neg (by omega), if_neg (by omega), if_neg (by omega), if_neg (by omega), if_neg (by omega), if_neg (by omega), if_neg (by omega), if_neg (by omega), if_neg (by omega), if_neg (by omega), if_neg (by omega), if_neg (by omega)]
          omega
        have e2 : cellC (adC h0 aP aL aS, d2) (stC SP) (c + 23) = .inl (d2.2.1, 10, .inr (.inl (fun _ => 0))) := by
          unfold cellC lenC
          rw [if_neg (by omega), if_neg (by omega), if_neg (by omega), if_neg (by omega), if_neg (by omega), if_neg (by omega), if_neg (by omega), if_neg (by omega), if_pos (by omega), if_neg (by omega), if_neg (by omega), if_neg (by omega), if_neg (by omega)]
          rfl
        have e3 : cellS (aS, d2) (aP 0) (2 + (c - 62)) = .inl (d2.2.1, 10, .inr (.inl (fun _ => 0))) := by
          unfold cellS
          rw [if_neg (by omega), if_neg (by omega)]
        rw [e1, e2, show c + 23 = 85 + (c - 62) by omega, adV (c - 62) (by omega)]
        refine ⟨_, wA_S (by omega), fun h => ?_⟩
        rw [e3] at h
        exact h
theorem asmC (hP : va_P D vwCl (wAll d2 h0 aP aL aS SP) H) (hD : va_D A (wAll d2 h0 aP aL aS SP)) : va_P D vwCl (wlC (adC h0 aP aL aS, d2) (stC SP)) H ∧ va_D A (wlC (adC h0 aP aL aS, d2) (stC SP)) := by
  have get : ∀ (k : Nat) (x : Nat × va_E), (wlC (adC h0 aP aL aS, d2) (stC SP))[k]? = some x → k < 91 ∧ x = (adC h0 aP aL aS k, cellC (adC h0 aP aL aS, d2) (stC SP) k) := by
    intro k x hx
    have hk : k < 91 := by
      have := (List.getElem?_eq_some_iff.mp hx).1
      unfold wlC at this
      rw [List.length_map, List.length_range] at this
      exact this
    unfold wlC at hx
    rw [wl_get _ hk] at hx
    exact ⟨hk, (Option.some.inj hx).symm⟩
  refine ⟨fun k x hx => ?_, fun i j p q hi hj hpq => ?_, fun k x hx => ?_⟩
  · obtain ⟨hk, rfl⟩ := get k x hx
    obtain ⟨e, h1, h2⟩ := asm_k (D := D) (H := H) (d2 := d2) (h0 := h0) (aP := aP) (aL := aL) (aS := aS) (SP := SP) hk
    exact h2 (hP _ _ h1)
  · obtain ⟨hi', rfl⟩ := get i p hi
    obtain ⟨hj', rfl⟩ := get j q hj
    obtain ⟨e, h1, h2⟩ := asm_k (D := D) (H := H) (d2 := d2) (h0 := h0) (aP := aP) (aL := aL) (aS := aS) (SP := SP) hi'
    obtain ⟨e', h3, h4⟩ := asm_k (D := D) (H := H) (d2 := d2) (h0 := h0) (aP := aP) (aL := aL) (aS := aS) (SP := SP) hj'
    exact sgC_inj hi' hj' (hD.1 _ _ _ _ h1 h3 hpq)
  · obtain ⟨hk, rfl⟩ := get k x hx
    obtain ⟨e, h1, h2⟩ := asm_k (D := D) (H := H) (d2 := d2) (h0 := h0) (aP := aP) (aL := aL) (aS := aS) (SP := SP) hk
    exact hD.2 _ (adC h0 aP aL aS k, e) h1
end AS
/-- behind a call whose world takes another shape -/
theorem fr_joinW {A0 : Nat → Prop} {D : va_G} {wr wc w1 : va_W} {H H1 : Heap} (hP : va_P D vwCl (wr ++ wc) H) (hD : va_D A0 (wr ++ wc)) (hA : ∀ q, H.size ≤ q → A0 q)
    (hk : ∀ q : Nat, q < H.size → ¬ va_A wc H.size q → H1[q]? = H[q]?) (hP1 : va_P D vwCl w1 H1) (hD1 : va_D (va_A wc H.size) w1) : va_P D vwCl (wr ++ w1) H1 ∧ va_D A0 (wr ++ w1) :=
  fr_join (wl := fun _ _ => wc) (d := (fun _ => 0, default, default, default, default, default)) (S := st0) (fun _ _ _ k q e h => ⟨e, h⟩) hP hD hA hk hP1 hD1
theorem fr_freeW {A0 : Nat → Prop} {wr wc : va_W} {H0 H : Heap} {locs : List Loc} (hD : va_D A0 (wr ++ wc)) (hS : va_S A0 H0 H locs) (hA : ∀ q, H0.size ≤ q → A0 q) : ∀ q, va_A wc H.size q → A0 q := by
  intro q hq
  rcases hq with ⟨k, e, hq⟩ | hq
  · exact hD.2 (wr.length + k) (q, e) (by rw [List.getElem?_append_right (by omega), Nat.add_sub_cancel_left]; exact hq)
  · exact hA q (Nat.le_trans hS.1 hq)
theorem D_app {A : Nat → Prop} {a b : va_W} (h : va_D A (a ++ b)) : va_D A b := ⟨fun i j p q hi hj hpq => by
  have := h.1 (a.length + i) (a.length + j) p q (by rw [List.getElem?_append_right (by omega), Nat.add_sub_cancel_left]; exact hi) (by rw [List.getElem?_append_right (by omega), Nat.add_sub_cancel_left]; exact hj) hpq
  omega, fun k q hq => h.2 (a.length + k) q (by rw [List.getElem?_append_right (by omega), Nat.add_sub_cancel_left]; exact hq)⟩
