/-! ===== every run: what is to be counted ===== -/
def R (P : Pr) (p c m : Nat) : List (Nat × Nat) := rns P 31 p c m
theorem rns_fu {P : Pr} (k : Nat) : ∀ (n p c m : Nat), pN P - p ≤ n → rns P (n + k) p c m = rns P n p c m
  | 0, p, c, m, h => by
    show rns P (0 + k) p c m = [(c, m)]
    rw [Nat.zero_add]
    cases k with
    | zero => rfl
    | succ k =>
      show (if p < pN P then _ else [(c, m)]) = _
      rw [if_neg (by omega)]
  | n + 1, p, c, m, h => by
    rw [show n + 1 + k = (n + k) + 1 by omega]
    show (if p < pN P then (if outs P p c m = [] then [(1000000, m)] else (outs P p c m).flatMap (fun q => rns P (n + k) (npl P p c) q.1 q.2)) else [(c, m)]) = (if p < pN P then (if outs P p c m = [] then [(1000000, m)] else (outs P p c m).flatMap (fun q => rns P n (npl P p c) q.1 q.2)) else [(c, m)])
    by_cases hp : p < pN P
    · rw [if_pos hp, if_pos hp]
      have hq := npl_le (c := c) hp
      have : (fun q : Nat × Nat => rns P (n + k) (npl P p c) q.1 q.2) = (fun q => rns P n (npl P p c) q.1 q.2) := by
        funext q
        exact rns_fu k n (npl P p c) q.1 q.2 (by omega)
      rw [this]
    · rw [if_neg hp, if_neg hp]
theorem R_in {P : Pr} {p c m : Nat} (hw : Wf P) (hp : p < pN P) : R P p c m = if outs P p c m = [] then [(1000000, m)] else (outs P p c m).flatMap (fun q => R P (npl P p c) q.1 q.2) := by
  have q1 := hw.1
  have hq := npl_le (c := c) hp
  show (if p < pN P then (if outs P p c m = [] then [(1000000, m)] else (outs P p c m).flatMap (fun q => rns P 30 (npl P p c) q.1 q.2)) else [(c, m)]) = _
  rw [if_pos hp]
  have : (fun q : Nat × Nat => rns P 30 (npl P p c) q.1 q.2) = (fun q => R P (npl P p c) q.1 q.2) := by
    funext q
    exact (rns_fu 1 30 (npl P p c) q.1 q.2 (by omega)).symm
  rw [this]
theorem R_end {P : Pr} {p c m : Nat} (hp : ¬ p < pN P) : R P p c m = [(c, m)] := if_neg hp
theorem R_pos {P : Pr} (hw : Wf P) : ∀ (j p c m : Nat), pN P - p ≤ j → 0 < (R P p c m).length
  | 0, p, c, m, h => by
    rw [R_end (by omega)]
    show 0 < 1
    omega
  | j + 1, p, c, m, h => by
    by_cases hp : p < pN P
    · have hq := npl_le (c := c) hp
      rw [R_in hw hp]
      split
      · show 0 < 1; omega
      · rename_i hne
        obtain ⟨a, t, ha⟩ := List.exists_cons_of_ne_nil hne
        rw [ha, List.flatMap_cons, List.length_append]
        have := R_pos hw j (npl P p c) a.1 a.2 (by omega)
        omega
    · rw [R_end hp]
      show 0 < 1
      omega
theorem endM_app (x v : Nat) : ∀ a b, endM x v (a ++ b) = endM x v a + endM x v b
  | [], b => by show _ = 0 + _; rw [Nat.zero_add]; rfl
  | y :: a, b => by
    show (if y.1 < 1000000 ∧ (x = 6 ∨ dg y.1 x = v) then y.2 else 0) + endM x v (a ++ b) = ((if y.1 < 1000000 ∧ (x = 6 ∨ dg y.1 x = v) then y.2 else 0) + endM x v a) + endM x v b
    rw [endM_app x v a b, Nat.add_assoc]
/-- a state on the way: place, code, mass -/
def En (P : Pr) (p c m : Nat) : Prop := p ≤ pN P ∧ c < 1000000 ∧ 0 < m ∧ 60 ^ (8 - cnt (pK P) 0 p) ∣ m ∧ 9 ^ (cnt (pK P) 3 (pN P) - cnt (pK P) 3 p) * m ≤ 122444006400000000
theorem En_m {P : Pr} {p c m : Nat} (h : En P p c m) : m ≤ 122444006400000000 := by
  have := h.2.2.2.2
  have h2 : m ≤ 9 ^ (cnt (pK P) 3 (pN P) - cnt (pK P) 3 p) * m := Nat.le_mul_of_pos_left _ (Nat.pow_pos (by decide))
  omega
theorem En_outs {P : Pr} {p c m : Nat} (hw : Wf P) (he : EV P) (hp : p < pN P) (h : En P p c m) : ∀ c' m', (c', m') ∈ outs P p c m → En P (npl P p c) c' m' := by
  intro c' m' hm
  have hq := npl_le (c := c) hp
  obtain ⟨h1, h2, h3, h4, h5⟩ := h
  obtain ⟨k1, k2, k3⟩ := outs_ok hw hp h2 h3 h4 c' m' hm
  have k4 := outs_pot (c := c) (m := m) hw he hp h4
  have k5 := msum_mem _ c' m' hm
  refine ⟨hq.2, k1, k2, k3, ?_⟩
  have := Nat.mul_le_mul_left (9 ^ (cnt (pK P) 3 (pN P) - cnt (pK P) 3 (npl P p c))) k5
  omega
theorem En_0 {P : Pr} (hw : Wf P) : En P 0 0 167961600000000 := by
  refine ⟨Nat.zero_le _, by omega, by omega, ?_, ?_⟩
  · show 60 ^ (8 - 0) ∣ 167961600000000
    decide
  · rw [show cnt (pK P) 3 0 = 0 from rfl, Nat.sub_zero]
    have h4 : 9 ^ cnt (pK P) 3 (pN P) ≤ 9 ^ 3 := Nat.pow_le_pow_right (by decide) hw.2.2.2.2.2.2.1
    have h5 := Nat.mul_le_mul_right 167961600000000 h4
    have h6 : 9 ^ 3 * 167961600000000 = 122444006400000000 := by decide
    omega
/-- draws that are left -/
def dl (P : Pr) (p : Nat) : Nat := cnt (pK P) 0 (pN P) - cnt (pK P) 0 p
def phi (P : Pr) (p : Nat) : Nat := (pN P - p + 1) * 10 ^ dl P p
theorem dl_D {P : Pr} {p : Nat} (hp : p < pN P) (k0 : pK P p = 0) : dl P p = dl P (p + 1) + 1 := by
  unfold dl
  have h1 : cnt (pK P) 0 (p + 1) = cnt (pK P) 0 p + 1 := by
    show cnt (pK P) 0 p + (if pK P p = 0 then 1 else 0) = _
    rw [if_pos k0]
  have h2 := cnt_lt (K := pK P) hp k0
  omega
theorem dl_le {P : Pr} {p q : Nat} (h : p ≤ q) : dl P q ≤ dl P p := by
  unfold dl
  have := cnt_le (K := pK P) (j := 0) h
  omega
theorem outs_1 {P : Pr} {p c m : Nat} (k0 : pK P p ≠ 0) : (outs P p c m).length ≤ 1 := by
  unfold outs
  rw [if_neg k0]
  split
  · show 1 ≤ 1; omega
  split
  · split
    · show 0 ≤ 1; omega
    · show 1 ≤ 1; omega
  split
  · split
    · show 0 ≤ 1; omega
    · show 1 ≤ 1; omega
  · show 1 ≤ 1; omega
/-- the steps of the walk through all runs -/
theorem phi_st {P : Pr} {p c m : Nat} (hp : p < pN P) : 1 + (outs P p c m).length * phi P (npl P p c) ≤ phi P p := by
  have hq := npl_le (c := c) hp
  by_cases k0 : pK P p = 0
  · have hnp : npl P p c = p + 1 := by unfold npl; rw [if_neg (by omega)]
    have hl := outs_len (P := P) (p := p) (c := c) (m := m)
    rw [hnp]
    unfold phi
    rw [dl_D hp k0, Nat.pow_succ]
    have h1 : (outs P p c m).length * ((pN P - (p + 1) + 1) * 10 ^ dl P (p + 1)) ≤ 10 * ((pN P - (p + 1) + 1) * 10 ^ dl P (p + 1)) := Nat.mul_le_mul_right _ hl
    have h2 : 1 ≤ 10 ^ dl P (p + 1) := Nat.pow_pos (by decide)
    generalize 10 ^ dl P (p + 1) = T at *
    obtain ⟨z, hz⟩ : ∃ z, pN P - p = z + 1 := ⟨pN P - p - 1, by omega⟩
    have hz2 : pN P - (p + 1) = z := by omega
    rw [hz2] at h1 ⊢
    rw [hz]
    have e1 : (z + 1 + 1) * (T * 10) = 10 * ((z + 1) * T) + T * 10 := by
      rw [Nat.add_mul (z + 1) 1, Nat.one_mul, Nat.mul_comm T 10, Nat.mul_left_comm]
    rw [e1]
    omega
  · have hl := outs_1 (c := c) (m := m) k0
    have h1 : (outs P p c m).length * phi P (npl P p c) ≤ 1 * phi P (npl P p c) := Nat.mul_le_mul_right _ hl
    have h3 : phi P (npl P p c) + 1 ≤ phi P p := by
      unfold phi
      have h4 : 10 ^ dl P (npl P p c) ≤ 10 ^ dl P p := Nat.pow_le_pow_right (by decide) (dl_le (by omega))
      have h5 : 1 ≤ 10 ^ dl P p := Nat.pow_pos (by decide)
      have h6 : (pN P - npl P p c + 1) * 10 ^ dl P (npl P p c) ≤ (pN P - p) * 10 ^ dl P p := Nat.mul_le_mul (by omega) h4
      have h7 : (pN P - p + 1) * 10 ^ dl P p = (pN P - p) * 10 ^ dl P p + 10 ^ dl P p := by rw [Nat.add_mul, Nat.one_mul]
      omega
    omega
theorem phi_0 {P : Pr} (hw : Wf P) : phi P 0 ≤ 3100000000 := by
  unfold phi
  have h1 : 10 ^ dl P 0 ≤ 10 ^ 8 := Nat.pow_le_pow_right (by decide) (by unfold dl; have := hw.2.2.2.2.2.1; omega)
  have h2 : (pN P - 0 + 1) * 10 ^ dl P 0 ≤ 31 * 10 ^ 8 := Nat.mul_le_mul (by have := hw.1; omega) h1
  exact h2
theorem outs_D {P : Pr} {p c m : Nat} (he : EV P) (hp : p < pN P) (k0 : pK P p = 0) (hm : 0 < m) (h60 : 60 ∣ m) : outs P p c m ≠ [] := by
  intro z
  have h1 : msum (outs P p c m) = 0 := by rw [z]; rfl
  unfold outs at h1
  rw [if_pos k0, outD_sum, he p hp k0] at h1
  obtain ⟨k, rfl⟩ := h60
  rw [Nat.mul_div_cancel_left _ (show 0 < 60 by decide)] at h1
  omega
