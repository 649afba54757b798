/-! ===== one work: lists ===== -/
theorem hs_iff {d : Nat} {l : List (Nat × Nat)} (h : srt l) : hs d l = 1 ↔ ∃ m, (d, m) ∈ l := by
  constructor
  · intro q
    obtain ⟨m, h1, _⟩ := hs_1 q
    exact ⟨m, List.mem_of_getElem? h1⟩
  · rintro ⟨m, hm⟩
    obtain ⟨i, hi⟩ := List.getElem?_of_mem hm
    have e : i = fd d l := by
      rcases Nat.lt_trichotomy i (fd d l) with z | z | z
      · have := fd_lt d l i (d, m) z hi
        exact absurd this (Nat.lt_irrefl d)
      · exact z
      · have hl := (List.getElem?_eq_some_iff.mp hi).1
        have hb : l[fd d l]? = some (l[fd d l]'(by omega)) := List.getElem?_eq_getElem (by omega)
        have a1 := fd_at d l _ hb
        have a2 := srt_get h z hb hi
        have a2 : _ < d := a2
        omega
    unfold hs
    rw [← e, hi]
    simp
theorem mem_ins {c m d : Nat} {l : List (Nat × Nat)} : (∃ x, (d, x) ∈ ins c m l) ↔ d = c ∨ ∃ x, (d, x) ∈ l := by
  constructor
  · rintro ⟨x, hx⟩
    rcases ins_mem hx with h | h | ⟨m', h1, h2⟩
    · exact Or.inr ⟨x, h⟩
    · cases h; exact Or.inl rfl
    · cases h2; exact Or.inl rfl
  · intro h
    by_cases hh : hs c l = 1
    · rcases h with rfl | ⟨x, hx⟩
      · have := ins_get1 (m := m) hh (fd d l)
        rw [if_pos rfl] at this
        exact ⟨_, List.mem_of_getElem? this⟩
      · obtain ⟨i, hi⟩ := List.getElem?_of_mem hx
        have := ins_get1 (m := m) hh i
        by_cases e : i = fd c l
        · rw [if_pos e] at this
          obtain ⟨m', g1, g2⟩ := hs_1 hh
          rw [← e, hi] at g1
          cases g1
          exact ⟨_, List.mem_of_getElem? this⟩
        · rw [if_neg e, hi] at this
          exact ⟨_, List.mem_of_getElem? this⟩
    · rcases h with rfl | ⟨x, hx⟩
      · have := ins_get0 (m := m) hh (fd d l)
        rw [if_neg (by omega), if_pos rfl] at this
        exact ⟨_, List.mem_of_getElem? this⟩
      · obtain ⟨i, hi⟩ := List.getElem?_of_mem hx
        by_cases e : i < fd c l
        · have := ins_get0 (m := m) hh i
          rw [if_pos e, hi] at this
          exact ⟨_, List.mem_of_getElem? this⟩
        · have := ins_get0 (m := m) hh (i + 1)
          rw [if_neg (by omega), if_neg (by omega), Nat.add_sub_cancel, hi] at this
          exact ⟨_, List.mem_of_getElem? this⟩
/-- the comes of a row of codes and masses to place q -/
def cmF (q : Nat) : List (Nat × Nat) → Ld → Ld
  | [], L => L
  | a :: t, L => cmF q t (cmL L q a.1 a.2)
theorem cmF_app (q : Nat) : ∀ (a b : List (Nat × Nat)) (L : Ld), cmF q (a ++ b) L = cmF q b (cmF q a L)
  | [], b, L => rfl
  | x :: a, b, L => cmF_app q a b (cmL L q x.1 x.2)
/-- the list of place q behind the comes of o -/
def insF : List (Nat × Nat) → List (Nat × Nat) → List (Nat × Nat)
  | [], l => l
  | a :: t, l => insF t (ins a.1 a.2 l)
theorem cmF_Ls (q : Nat) : ∀ (o : List (Nat × Nat)) (L : Ld) (p : Nat), lLs (cmF q o L) p = if p = q then insF o (lLs L q) else lLs L p
  | [], L, p => by
    show lLs L p = if p = q then lLs L q else lLs L p
    split
    · rename_i e; rw [e]
    · rfl
  | a :: t, L, p => by
    show lLs (cmF q t (cmL L q a.1 a.2)) p = _
    rw [cmF_Ls q t]
    have e1 : lLs (cmL L q a.1 a.2) q = ins a.1 a.2 (lLs L q) := vup_e rfl
    by_cases e : p = q
    · rw [if_pos e, if_pos e, e1]; rfl
    · rw [if_neg e, if_neg e]
      exact vup_n e
theorem cmF_lo (q : Nat) : ∀ (o : List (Nat × Nat)) (L : Ld), lLo (cmF q o L) = lLo L ∧ lWk (cmF q o L) = lWk L
  | [], L => ⟨rfl, rfl⟩
  | a :: t, L => cmF_lo q t (cmL L q a.1 a.2)
theorem fr1_all {cs : Nat → Nat} {k : Nat} : ∀ r b, r ≤ k → b ≤ 1 → (fr1 cs k r b = 1 ↔ b = 1 ∧ ∀ j, k - r ≤ j → j < k → cs j ≠ cs k)
  | 0, b, _, hb => by
    show b = 1 ↔ _
    constructor
    · intro h; exact ⟨h, fun j h1 h2 => by omega⟩
    · intro h; exact h.1
  | r + 1, b, hr, hb => by
    show fr1 cs k r (if b = 0 then 0 else if cs (k - (r + 1)) = cs k then 0 else 1) = 1 ↔ _
    rw [fr1_all r _ (by omega) (by split; omega; split <;> omega)]
    constructor
    · rintro ⟨h1, h2⟩
      have hb1 : ¬ b = 0 := fun z => by rw [if_pos z] at h1; cases h1
      rw [if_neg hb1] at h1
      have hne : ¬ cs (k - (r + 1)) = cs k := fun z => by rw [if_pos z] at h1; cases h1
      refine ⟨by omega, fun j j1 j2 => ?_⟩
      rcases Nat.eq_or_lt_of_le j1 with e | e
      · rw [← e]; exact hne
      · exact h2 j (by omega) j2
    · rintro ⟨h1, h2⟩
      refine ⟨?_, fun j j1 j2 => h2 j (by omega) j2⟩
      rw [if_neg (by omega), if_neg (h2 _ (Nat.le_refl _) (by omega))]
/-- lengths as new codes come -/
theorem insF_len {l0 : List (Nat × Nat)} (cs : Nat → Nat) : ∀ (o : List (Nat × Nat)) (k : Nat) (l : List (Nat × Nat)), (∀ i a, o[i]? = some a → cs (k + i) = a.1) → srt l → l.length = l0.length + frn cs l0 k → (∀ d, (∃ x, (d, x) ∈ l) ↔ ((∃ x, (d, x) ∈ l0) ∨ ∃ j, j < k ∧ cs j = d)) → srt l0 → (insF o l).length = l0.length + frn cs l0 (k + o.length) ∧ srt (insF o l)
  | [], k, l, _, hs, hl, _, _ => ⟨hl, hs⟩
  | a :: t, k, l, hc, hs_, hl, hm, hs0 => by
    have hck : cs k = a.1 := hc 0 a rfl
    have hsl := hs_le a.1 l
    have hsl0 := hs_le a.1 l0
    have hfr : frn cs l0 (k + 1) = frn cs l0 k + fr1 cs k k (1 - hs (cs k) l0) := rfl
    have hfl := fr1_le cs k k (1 - hs (cs k) l0) (by omega)
    have key : fr1 cs k k (1 - hs (cs k) l0) = 1 - hs a.1 l := by
      have h1 := fr1_all (cs := cs) (k := k) k (1 - hs (cs k) l0) (Nat.le_refl k) (by omega)
      have h2 := hs_iff (d := a.1) hs_
      have h3 := hs_iff (d := a.1) hs0
      rw [hck] at h1 hfl ⊢
      by_cases q : hs a.1 l = 1
      · rw [q]
        rcases (hm a.1).mp (h2.mp q) with z | ⟨j, j1, j2⟩
        · have := h3.mpr z
          omega
        · have : ¬ fr1 cs k k (1 - hs a.1 l0) = 1 := fun z => (h1.mp z).2 j (by omega) j1 j2
          omega
      · have q0 : hs a.1 l = 0 := by omega
        rw [q0]
        refine h1.mpr ⟨?_, fun j j1 j2 e => q (h2.mpr ((hm a.1).mpr (Or.inr ⟨j, j2, e⟩)))⟩
        have : ¬ hs a.1 l0 = 1 := fun z => q (h2.mpr ((hm a.1).mpr (Or.inl (h3.mp z))))
        omega
    have := insF_len cs t (k + 1) (ins a.1 a.2 l) (fun i b hi => by
        have := hc (i + 1) b hi
        rw [show k + 1 + i = k + (i + 1) by omega]; exact this) (ins_srt hs_) (by rw [ins_len, hl, hfr, key]; omega) (fun d => by
        rw [mem_ins, hm d]
        constructor
        · rintro (rfl | z | ⟨j, j1, j2⟩)
          · exact Or.inr ⟨k, by omega, hck⟩
          · exact Or.inl z
          · exact Or.inr ⟨j, by omega, j2⟩
        · rintro (z | ⟨j, j1, j2⟩)
          · exact Or.inr (Or.inl z)
          · rcases Nat.eq_or_lt_of_le (show j ≤ k by omega) with e | e
            · left; rw [← j2, e, hck]
            · exact Or.inr (Or.inr ⟨j, e, j2⟩)) hs0
    rw [show k + 1 + t.length = k + (a :: t).length by show k + 1 + t.length = k + (t.length + 1); omega] at this
    exact this
theorem insF_take {o : List (Nat × Nat)} {l0 : List (Nat × Nat)} (hs0 : srt l0) (cs : Nat → Nat) (hc : ∀ i a, o[i]? = some a → cs i = a.1) (k : Nat) (hk : k ≤ o.length) : (insF (o.take k) l0).length = l0.length + frn cs l0 k ∧ srt (insF (o.take k) l0) := by
  have := insF_len (l0 := l0) cs (o.take k) 0 l0 (fun i a hi => by
    rw [List.getElem?_take] at hi
    split at hi
    · rw [Nat.zero_add]; exact hc i a hi
    · cases hi) hs0 rfl (fun d => by simp) hs0
  rw [List.length_take, Nat.zero_add, Nat.min_eq_left hk] at this
  exact this
theorem frn_mono (cs : Nat → Nat) (l : List (Nat × Nat)) : ∀ d k, frn cs l k ≤ frn cs l (k + d)
  | 0, k => Nat.le_refl _
  | d + 1, k => Nat.le_trans (frn_mono cs l d k) (Nat.le_add_right _ _)
/-- masses: the list of place q behind its comes -/
theorem insF_msum : ∀ (o l : List (Nat × Nat)), msum (insF o l) = msum l + msum o
  | [], l => by show msum l = msum l + 0; omega
  | a :: t, l => by
    show msum (insF t (ins a.1 a.2 l)) = msum l + (a.2 + msum t)
    rw [insF_msum t, ins_msum]; omega
theorem insF_all {Q : Nat → Prop} (hq : ∀ a b, Q a → Q b → Q (a + b)) : ∀ (o l : List (Nat × Nat)), (∀ c m, (c, m) ∈ o → c < 1000000 ∧ 0 < m ∧ Q m) → (∀ c m, (c, m) ∈ l → c < 1000000 ∧ 0 < m ∧ Q m) → ∀ c m, (c, m) ∈ insF o l → c < 1000000 ∧ 0 < m ∧ Q m
  | [], l, _, hl, c, m, h => hl c m h
  | a :: t, l, ho, hl, c, m, h => by
    refine insF_all hq t (ins a.1 a.2 l) (fun c m h => ho c m (List.mem_cons_of_mem _ h)) (fun c' m' h' => ?_) c m h
    have ha := ho a.1 a.2 List.mem_cons_self
    rcases ins_mem h' with z | z | ⟨m2, z1, z2⟩
    · exact hl c' m' z
    · cases z; exact ha
    · cases z2
      have := hl _ _ z1
      exact ⟨this.1, by omega, hq _ _ this.2.2 ha.2.2⟩
theorem pot_up {P : Pr} {Ls : Nat → List (Nat × Nat)} {q : Nat} {l : List (Nat × Nat)} : ∀ N, (q < N → pot P (va_up Ls q l) N + 9 ^ (cnt (pK P) 3 (pN P) - cnt (pK P) 3 q) * msum (Ls q) = pot P Ls N + 9 ^ (cnt (pK P) 3 (pN P) - cnt (pK P) 3 q) * msum l) ∧ (N ≤ q → pot P (va_up Ls q l) N = pot P Ls N)
  | 0 => ⟨fun h => absurd h (by omega), fun _ => rfl⟩
  | N + 1 => by
    obtain ⟨h1, h2⟩ := pot_up (P := P) (Ls := Ls) (q := q) (l := l) N
    have e1 : pot P (va_up Ls q l) (N + 1) = pot P (va_up Ls q l) N + 9 ^ (cnt (pK P) 3 (pN P) - cnt (pK P) 3 N) * msum (va_up Ls q l N) := rfl
    have e2 : pot P Ls (N + 1) = pot P Ls N + 9 ^ (cnt (pK P) 3 (pN P) - cnt (pK P) 3 N) * msum (Ls N) := rfl
    refine ⟨fun h => ?_, fun h => ?_⟩
    · rw [e1, e2]
      by_cases e : N = q
      · rw [vup_e e, h2 (by omega), e]; omega
      · rw [vup_n e]
        have := h1 (by omega)
        omega
    · rw [e1, e2, h2 (by omega), vup_n (by omega)]
theorem pot_one {P : Pr} {Ls : Nat → List (Nat × Nat)} : ∀ N p, p < N → msum (Ls p) ≤ pot P Ls N
  | 0, p, h => absurd h (by omega)
  | N + 1, p, h => by
    have e2 : pot P Ls (N + 1) = pot P Ls N + 9 ^ (cnt (pK P) 3 (pN P) - cnt (pK P) 3 N) * msum (Ls N) := rfl
    by_cases e : p = N
    · rw [e2, e]
      have : msum (Ls N) ≤ 9 ^ (cnt (pK P) 3 (pN P) - cnt (pK P) 3 N) * msum (Ls N) := Nat.le_mul_of_pos_left _ (Nat.pow_pos (by decide))
      omega
    · have := pot_one (P := P) (Ls := Ls) N p (by omega)
      omega
theorem msum_mem : ∀ (l : List (Nat × Nat)) (c m : Nat), (c, m) ∈ l → m ≤ msum l
  | [], c, m, h => by cases h
  | a :: t, c, m, h => by
    rcases List.mem_cons.mp h with e | e
    · rw [← e]; show m ≤ m + msum t; omega
    · have := msum_mem t c m e
      show m ≤ a.2 + msum t
      omega
theorem mass_bd {P : Pr} {L : Ld} {p c m : Nat} (hw : Wf P) (h : WfL P L) (hp : p ≤ pN P) (hm : (c, m) ∈ lLs L p) : m ≤ 122444006400000000 := by
  have h1 := msum_mem _ c m hm
  have h2 := pot_one (P := P) (Ls := lLs L) (pN P + 1) p (by omega)
  have h3 := h.2.2.2.2.2
  have h4 : 9 ^ cnt (pK P) 3 (pN P) ≤ 9 ^ 3 := Nat.pow_le_pow_right (by decide) hw.2.2.2.2.2.2.1
  have h5 : 167961600000000 * 9 ^ cnt (pK P) 3 (pN P) ≤ 167961600000000 * 9 ^ 3 := Nat.mul_le_mul_left _ h4
  have h6 : 167961600000000 * 9 ^ 3 = 122444006400000000 := by decide
  omega
theorem cnt_mono (K : Nat → Nat) (j : Nat) : ∀ d p, cnt K j p ≤ cnt K j (p + d)
  | 0, p => Nat.le_refl _
  | d + 1, p => Nat.le_trans (cnt_mono K j d p) (Nat.le_add_right _ _)
