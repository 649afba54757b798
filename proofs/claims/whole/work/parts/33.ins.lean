/-! ===== a state comes to a place: lists ===== -/
/-- how many have a lesser code -/
def fd (c : Nat) : List (Nat × Nat) → Nat
  | [] => 0
  | a :: t => if a.1 < c then fd c t + 1 else 0
/-- is there one with this code -/
def hs (c : Nat) (l : List (Nat × Nat)) : Nat := match l[fd c l]? with
  | some a => if a.1 = c then 1 else 0
  | none => 0
def msAt (l : List (Nat × Nat)) (i : Nat) : Nat := match l[i]? with
  | some a => a.2
  | none => 0
def ins (c m : Nat) (l : List (Nat × Nat)) : List (Nat × Nat) := if hs c l = 1 then l.set (fd c l) (c, msAt l (fd c l) + m) else l.take (fd c l) ++ (c, m) :: l.drop (fd c l)
theorem fd_le (c : Nat) : ∀ l, fd c l ≤ l.length
  | [] => Nat.le_refl 0
  | a :: t => by
    unfold fd
    split
    · have := fd_le c t
      show _ ≤ t.length + 1
      omega
    · exact Nat.zero_le _
theorem fd_lt (c : Nat) : ∀ (l : List (Nat × Nat)) (i : Nat) (a : Nat × Nat), i < fd c l → l[i]? = some a → a.1 < c
  | [], i, a, h, _ => by simp [fd] at h
  | b :: t, i, a, h, hi => by
    unfold fd at h
    by_cases e : b.1 < c
    · rw [if_pos e] at h
      match i, hi with
      | 0, hi => cases hi; exact e
      | i + 1, hi => exact fd_lt c t i a (by omega) hi
    · rw [if_neg e] at h
      omega
theorem fd_at (c : Nat) : ∀ (l : List (Nat × Nat)) (a : Nat × Nat), l[fd c l]? = some a → c ≤ a.1
  | [], a, h => by simp [fd] at h
  | b :: t, a, h => by
    unfold fd at h
    by_cases e : b.1 < c
    · rw [if_pos e] at h
      exact fd_at c t a h
    · rw [if_neg e] at h
      cases h
      omega
theorem srt_get {l : List (Nat × Nat)} (h : srt l) {i j : Nat} {a b : Nat × Nat} (hij : i < j) (ha : l[i]? = some a) (hb : l[j]? = some b) : a.1 < b.1 := by
  have hi := (List.getElem?_eq_some_iff.mp ha)
  have hj := (List.getElem?_eq_some_iff.mp hb)
  have := List.pairwise_iff_getElem.mp h i j (by simpa using hi.1) (by simpa using hj.1) hij
  rw [List.getElem_map, List.getElem_map, hi.2, hj.2] at this
  exact this
theorem fd_ge {c : Nat} {l : List (Nat × Nat)} (h : srt l) {i : Nat} {a : Nat × Nat} (hi : fd c l ≤ i) (ha : l[i]? = some a) : c ≤ a.1 := by
  rcases Nat.eq_or_lt_of_le hi with e | e
  · rw [← e] at ha
    exact fd_at c l a ha
  · have hl := (List.getElem?_eq_some_iff.mp ha).1
    have hb : l[fd c l]? = some (l[fd c l]'(by omega)) := List.getElem?_eq_getElem (by omega)
    have h1 := fd_at c l _ hb
    have h2 := srt_get h e hb ha
    omega
/-- the place of a code, from its neighbours -/
theorem fd_uniq {c : Nat} {l : List (Nat × Nat)} (h : srt l) {k : Nat} (hk : k ≤ l.length) (h1 : ∀ i a, i < k → l[i]? = some a → a.1 < c) (h2 : ∀ i a, k ≤ i → l[i]? = some a → c ≤ a.1) : fd c l = k := by
  have hf := fd_le c l
  rcases Nat.lt_trichotomy (fd c l) k with e | e | e
  · have hb : l[fd c l]? = some (l[fd c l]'(by omega)) := List.getElem?_eq_getElem (by omega)
    have a1 := h1 _ _ e hb
    have a2 := fd_at c l _ hb
    omega
  · exact e
  · have hb : l[k]? = some (l[k]'(by omega)) := List.getElem?_eq_getElem (by omega)
    have a1 := h2 k _ (Nat.le_refl k) hb
    have a2 := fd_lt c l k _ e hb
    omega
theorem hs_le (c : Nat) (l : List (Nat × Nat)) : hs c l ≤ 1 := by
  unfold hs
  split
  · split <;> omega
  · omega
theorem hs_1 {c : Nat} {l : List (Nat × Nat)} (h : hs c l = 1) : ∃ m, l[fd c l]? = some (c, m) ∧ msAt l (fd c l) = m := by
  unfold hs at h
  cases e : l[fd c l]? with
  | none => rw [e] at h; cases h
  | some a =>
    rw [e] at h
    by_cases q : a.1 = c
    · exact ⟨a.2, by rw [← q], by unfold msAt; rw [e]⟩
    · simp only [if_neg q] at h
      omega
theorem hs_0 {c : Nat} {l : List (Nat × Nat)} (h : hs c l ≠ 1) {m : Nat} : l[fd c l]? ≠ some (c, m) := by
  intro e
  apply h
  unfold hs
  rw [e]
  simp
theorem ins_get1 {c m : Nat} {l : List (Nat × Nat)} (h : hs c l = 1) (i : Nat) : (ins c m l)[i]? = if i = fd c l then some (c, msAt l (fd c l) + m) else l[i]? := by
  obtain ⟨m', h1, h2⟩ := hs_1 h
  have hl := (List.getElem?_eq_some_iff.mp h1).1
  unfold ins
  rw [if_pos h, List.getElem?_set]
  by_cases e : i = fd c l
  · rw [if_pos e.symm, if_pos e, if_pos hl]
  · rw [if_neg (fun q => e q.symm), if_neg e]
theorem ins_get0 {c m : Nat} {l : List (Nat × Nat)} (h : hs c l ≠ 1) (i : Nat) : (ins c m l)[i]? = if i < fd c l then l[i]? else if i = fd c l then some (c, m) else l[i - 1]? := by
  have hf := fd_le c l
  unfold ins
  rw [if_neg h]
  have hlen : (l.take (fd c l)).length = fd c l := by rw [List.length_take]; omega
  by_cases e : i < fd c l
  · rw [if_pos e, List.getElem?_append_left (by omega), List.getElem?_take, if_pos e]
  · rw [if_neg e, List.getElem?_append_right (by omega), hlen]
    by_cases e2 : i = fd c l
    · rw [if_pos e2, e2, Nat.sub_self]
      rfl
    · rw [if_neg e2, show i - fd c l = (i - fd c l - 1) + 1 by omega, List.getElem?_cons_succ, List.getElem?_drop]
      congr 1
      omega
theorem ins_len {c m : Nat} {l : List (Nat × Nat)} : (ins c m l).length = l.length + (1 - hs c l) := by
  have hf := fd_le c l
  have := hs_le c l
  unfold ins
  by_cases h : hs c l = 1
  · rw [if_pos h, List.length_set, h]; rfl
  · rw [if_neg h, List.length_append, List.length_cons, List.length_take, List.length_drop]
    omega
theorem ins_map {c m : Nat} {l : List (Nat × Nat)} (h : hs c l = 1) : (ins c m l).map Prod.fst = l.map Prod.fst := by
  obtain ⟨m', h1, h2⟩ := hs_1 h
  apply List.ext_getElem?
  intro i
  rw [List.getElem?_map, List.getElem?_map, ins_get1 h]
  by_cases e : i = fd c l
  · rw [if_pos e, e, h1]; rfl
  · rw [if_neg e]
theorem ins_srt {c m : Nat} {l : List (Nat × Nat)} (hl : srt l) : srt (ins c m l) := by
  by_cases h : hs c l = 1
  · unfold srt
    rw [ins_map h]
    exact hl
  · unfold srt ins
    rw [if_neg h, List.map_append, List.map_cons, List.pairwise_append, List.pairwise_cons]
    refine ⟨?_, ⟨?_, ?_⟩, ?_⟩
    · rw [List.map_take]
      exact List.Pairwise.sublist (List.take_sublist _ _) hl
    · intro x hx
      obtain ⟨a, ha, rfl⟩ := List.mem_map.mp hx
      obtain ⟨i, hi⟩ := List.getElem?_of_mem ha
      rw [List.getElem?_drop] at hi
      have h1 := fd_ge (c := c) hl (by omega) hi
      rcases Nat.eq_or_lt_of_le h1 with e | e
      · exfalso
        have hil := (List.getElem?_eq_some_iff.mp hi).1
        have hb : l[fd c l]? = some (l[fd c l]'(by omega)) := List.getElem?_eq_getElem (by omega)
        have h2 := fd_at c l _ hb
        rcases Nat.eq_zero_or_pos i with e0 | e0
        · subst e0
          rw [Nat.add_zero] at hi
          exact hs_0 (m := a.2) h (by rw [hi, e])
        · have h3 := srt_get hl (show fd c l < fd c l + i by omega) hb hi
          omega
      · exact e
    · rw [List.map_drop]
      exact List.Pairwise.sublist (List.drop_sublist _ _) hl
    · intro x hx y hy
      obtain ⟨a, ha, rfl⟩ := List.mem_map.mp hx
      obtain ⟨i, hi⟩ := List.getElem?_of_mem ha
      rw [List.getElem?_take] at hi
      by_cases e : i < fd c l
      · rw [if_pos e] at hi
        have h1 := fd_lt c l i a e hi
        rcases List.mem_cons.mp hy with rfl | hy
        · exact h1
        · obtain ⟨b, hb, rfl⟩ := List.mem_map.mp hy
          obtain ⟨j, hj⟩ := List.getElem?_of_mem hb
          rw [List.getElem?_drop] at hj
          have h2 := fd_ge hl (show fd c l ≤ fd c l + j by omega) hj
          omega
      · rw [if_neg e] at hi
        cases hi
theorem ins_mem {c m : Nat} {l : List (Nat × Nat)} {a : Nat × Nat} (ha : a ∈ ins c m l) : a ∈ l ∨ a = (c, m) ∨ ∃ m', (c, m') ∈ l ∧ a = (c, m' + m) := by
  obtain ⟨i, hi⟩ := List.getElem?_of_mem ha
  by_cases h : hs c l = 1
  · rw [ins_get1 h] at hi
    by_cases e : i = fd c l
    · rw [if_pos e] at hi
      obtain ⟨m', h1, h2⟩ := hs_1 h
      right; right
      exact ⟨m', List.mem_of_getElem? h1, by rw [← h2]; exact (Option.some.inj hi).symm⟩
    · rw [if_neg e] at hi
      exact Or.inl (List.mem_of_getElem? hi)
  · rw [ins_get0 h] at hi
    by_cases e : i < fd c l
    · rw [if_pos e] at hi
      exact Or.inl (List.mem_of_getElem? hi)
    · rw [if_neg e] at hi
      by_cases e2 : i = fd c l
      · rw [if_pos e2] at hi
        exact Or.inr (Or.inl (Option.some.inj hi).symm)
      · rw [if_neg e2] at hi
        exact Or.inl (List.mem_of_getElem? hi)
theorem msum_app : ∀ (a b : List (Nat × Nat)), msum (a ++ b) = msum a + msum b
  | [], b => by show msum b = 0 + msum b; omega
  | x :: a, b => by
    show x.2 + msum (a ++ b) = x.2 + msum a + msum b
    rw [msum_app a b]; omega
theorem msum_set : ∀ (l : List (Nat × Nat)) (i : Nat) (c m' m : Nat), l[i]? = some (c, m') → msum (l.set i (c, m' + m)) = msum l + m
  | [], i, c, m', m, h => by simp at h
  | x :: l, 0, c, m', m, h => by
    cases h
    show m' + m + msum l = m' + msum l + m
    omega
  | x :: l, i + 1, c, m', m, h => by
    show x.2 + msum (l.set i (c, m' + m)) = x.2 + msum l + m
    rw [msum_set l i c m' m h]; omega
theorem ins_msum {c m : Nat} {l : List (Nat × Nat)} : msum (ins c m l) = msum l + m := by
  unfold ins
  by_cases h : hs c l = 1
  · rw [if_pos h]
    obtain ⟨m', h1, h2⟩ := hs_1 h
    rw [h2]
    exact msum_set l _ c m' m h1
  · rw [if_neg h, msum_app]
    show msum (l.take (fd c l)) + (m + msum (l.drop (fd c l))) = msum l + m
    have : msum l = msum (l.take (fd c l)) + msum (l.drop (fd c l)) := by rw [← msum_app, List.take_append_drop]
    omega
/-- L with one more come -/
def cmL (L : Ld) (q c m : Nat) : Ld := (va_up (lLs L) q (ins c m (lLs L q)), va_up (lCm L) q (lCm L q + 1), va_up (lJn L) q (lJn L q + hs c (lLs L q)), lLo L, lWk L)
theorem hxs {A A' B B' d e : Nat} (h1 : A < A' ↔ B < B') (h2 : A = A' ↔ B = B') (hd : d ≤ 9) (he : e ≤ 9) : (A * 10 + d < A' * 10 + e ↔ B * 16 + d < B' * 16 + e) ∧ (A * 10 + d = A' * 10 + e ↔ B * 16 + d = B' * 16 + e) := by
  omega
theorem hx_cmp {a c : Nat} (ha : a < 1000000) (hc : c < 1000000) : (a < c ↔ hx a < hx c) ∧ (a = c ↔ hx a = hx c) := by
  obtain ⟨d0, d1, d2, d3, d4, d5, h0, h1, h2, h3, h4, h5, e⟩ := cdig ha
  obtain ⟨e0, e1, e2, e3, e4, e5, g0, g1, g2, g3, g4, g5, e'⟩ := cdig hc
  have x1 := hxs (A := d0) (A' := e0) (B := d0) (B' := e0) Iff.rfl Iff.rfl h1 g1
  have x2 := hxs x1.1 x1.2 h2 g2
  have x3 := hxs x2.1 x2.2 h3 g3
  have x4 := hxs x3.1 x3.2 h4 g4
  have x5 := hxs x4.1 x4.2 h5 g5
  have ea : a = de d0 d1 d2 d3 d4 d5 := e
  have ec : c = de e0 e1 e2 e3 e4 e5 := e'
  have fa : a = ((((d0 * 10 + d1) * 10 + d2) * 10 + d3) * 10 + d4) * 10 + d5 := by omega
  have fc : c = ((((e0 * 10 + e1) * 10 + e2) * 10 + e3) * 10 + e4) * 10 + e5 := by omega
  have ha2 : hx a = ((((d0 * 16 + d1) * 16 + d2) * 16 + d3) * 16 + d4) * 16 + d5 := by rw [ea, hx_de h0 h1 h2 h3 h4 h5]
  have hc2 : hx c = ((((e0 * 16 + e1) * 16 + e2) * 16 + e3) * 16 + e4) * 16 + e5 := by rw [ec, hx_de g0 g1 g2 g3 g4 g5]
  rw [ha2, hc2, fa, fc]
  exact x5
