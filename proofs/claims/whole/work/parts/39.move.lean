/-! ===== one work keeps what a listing is ===== -/
def rmv (L : Ld) (p lo : Nat) : Ld := (va_up (lLs L) p (lLs L p).tail, lCm L, lJn L, lLo L + lo, lWk L + 1)
def mvL (P : Pr) (L : Ld) (p c m : Nat) : Ld := cmF (npl P p c) (co P (npl P p c) (outs P p c m)) (rmv L p (lst P p c m))
theorem outD_sum {P : Pr} {p c m : Nat} : ∀ v, msum (outD P p c m v) = m / 60 * rw10 P (pE P p) v
  | 0 => rfl
  | v + 1 => by
    show msum (outD P p c m v ++ if pW P (pE P p) v = 0 then [] else [(wt c (pG P p) v, m / 60 * pW P (pE P p) v)]) = m / 60 * (rw10 P (pE P p) v + pW P (pE P p) v)
    rw [msum_app, outD_sum v, Nat.mul_add]
    split
    · rename_i h; rw [h]; rfl
    · show _ + (_ + 0) = _; omega
theorem co_msum {P : Pr} {q : Nat} : ∀ o, msum (co P q o) = msum o
  | [] => rfl
  | a :: t => by
    show a.2 + msum (co P q t) = a.2 + msum t
    rw [co_msum t]
theorem co_mem {P : Pr} {q : Nat} {o : List (Nat × Nat)} {c m : Nat} (h : (c, m) ∈ co P q o) : ∃ c', (c', m) ∈ o ∧ c = ct c' (LV P q) := by
  obtain ⟨a, ha, e⟩ := List.mem_map.mp h
  cases e
  exact ⟨a.1, ha, rfl⟩
theorem cnt_lt {K : Nat → Nat} {j p n : Nat} (hp : p < n) (hk : K p = j) : cnt K j p + 1 ≤ cnt K j n := by
  have h1 : cnt K j (p + 1) = cnt K j p + 1 := by
    show cnt K j p + (if K p = j then 1 else 0) = _
    rw [if_pos hk]
  have h2 := cnt_mono K j (n - (p + 1)) (p + 1)
  rw [show p + 1 + (n - (p + 1)) = n by omega, h1] at h2
  exact h2
theorem cnt_le {K : Nat → Nat} {j p q : Nat} (h : p ≤ q) : cnt K j p ≤ cnt K j q := by
  have := cnt_mono K j (q - p) p
  rw [show p + (q - p) = q by omega] at this
  exact this
theorem div60 {P : Pr} {p m : Nat} (hw : Wf P) (hp : p < pN P) (k0 : pK P p = 0) (hd : 60 ^ (8 - cnt (pK P) 0 p) ∣ m) : 60 ∣ m := by
  have h1 := cnt_lt (K := pK P) hp k0
  have h2 := hw.2.2.2.2.2.1
  refine Nat.dvd_trans ?_ hd
  rw [show 8 - cnt (pK P) 0 p = (7 - cnt (pK P) 0 p) + 1 by omega, Nat.pow_succ]
  exact Nat.dvd_mul_left _ _
theorem outs_ok {P : Pr} {p c m : Nat} (hw : Wf P) (hp : p < pN P) (hc : c < 1000000) (hm : 0 < m) (hd : 60 ^ (8 - cnt (pK P) 0 p) ∣ m) : ∀ c' m', (c', m') ∈ outs P p c m → c' < 1000000 ∧ 0 < m' ∧ 60 ^ (8 - cnt (pK P) 0 (npl P p c)) ∣ m' := by
  intro c' m' h
  have hlt := outs_lt hw hc c' m' h
  have hq := npl_le (c := c) hp
  have hmono : cnt (pK P) 0 p ≤ cnt (pK P) 0 (npl P p c) := cnt_le (by omega)
  have hd2 : 60 ^ (8 - cnt (pK P) 0 (npl P p c)) ∣ m := Nat.dvd_trans (Nat.pow_dvd_pow 60 (by omega)) hd
  refine ⟨hlt, ?_⟩
  by_cases k0 : pK P p = 0
  · have h60 := div60 hw hp k0 hd
    have hcn := cnt_lt (K := pK P) hp k0
    have hc8 := hw.2.2.2.2.2.1
    have hnp : npl P p c = p + 1 := by unfold npl; rw [if_neg (by omega)]
    have hc1 : cnt (pK P) 0 (p + 1) = cnt (pK P) 0 p + 1 := by
      show cnt (pK P) 0 p + (if pK P p = 0 then 1 else 0) = _
      rw [if_pos k0]
    unfold outs at h
    rw [if_pos k0, outD_map] at h
    obtain ⟨u, hu, e⟩ := List.mem_map.mp h
    cases e
    have hW : pW P (pE P p) u ≠ 0 := by
      have : ∀ v u, u ∈ usV P p v → pW P (pE P p) u ≠ 0 := by
        intro v
        induction v with
        | zero => intro u h; cases h
        | succ v ih =>
          intro u h
          have h : u ∈ usV P p v ++ if pW P (pE P p) v = 0 then [] else [v] := h
          rcases List.mem_append.mp h with h | h
          · exact ih u h
          · split at h
            · cases h
            · cases List.mem_singleton.mp h; assumption
      exact this 10 u hu
    obtain ⟨k, rfl⟩ := h60
    rw [Nat.mul_div_cancel_left _ (show 0 < 60 by decide)]
    refine ⟨Nat.mul_pos (by omega) (by omega), ?_⟩
    rw [hnp, hc1]
    refine Nat.dvd_trans ?_ (Nat.dvd_mul_right k _)
    have : 60 ^ (8 - cnt (pK P) 0 p) = 60 * 60 ^ (8 - (cnt (pK P) 0 p + 1)) := by
      rw [show 8 - cnt (pK P) 0 p = (8 - (cnt (pK P) 0 p + 1)) + 1 by omega, Nat.pow_succ, Nat.mul_comm]
    rw [this] at hd
    exact Nat.dvd_of_mul_dvd_mul_left (by decide) hd
  · unfold outs at h
    rw [if_neg k0] at h
    split at h
    · cases List.mem_singleton.mp h; exact ⟨hm, hd2⟩
    split at h
    · split at h
      · cases h
      · cases List.mem_singleton.mp h; exact ⟨hm, hd2⟩
    split at h
    · split at h
      · cases h
      · cases List.mem_singleton.mp h
        exact ⟨Nat.mul_pos hm (by omega), Nat.dvd_trans hd2 (Nat.dvd_mul_right m _)⟩
    · cases List.mem_singleton.mp h; exact ⟨hm, hd2⟩
theorem outs_pot {P : Pr} {p c m : Nat} (hw : Wf P) (he : EV P) (hp : p < pN P) (hd : 60 ^ (8 - cnt (pK P) 0 p) ∣ m) : 9 ^ (cnt (pK P) 3 (pN P) - cnt (pK P) 3 (npl P p c)) * msum (outs P p c m) ≤ 9 ^ (cnt (pK P) 3 (pN P) - cnt (pK P) 3 p) * m := by
  have hq := npl_le (c := c) hp
  have hmono : cnt (pK P) 3 p ≤ cnt (pK P) 3 (npl P p c) := cnt_le (by omega)
  have hpw : 9 ^ (cnt (pK P) 3 (pN P) - cnt (pK P) 3 (npl P p c)) ≤ 9 ^ (cnt (pK P) 3 (pN P) - cnt (pK P) 3 p) := Nat.pow_le_pow_right (by decide) (by omega)
  have gen : msum (outs P p c m) ≤ m → 9 ^ (cnt (pK P) 3 (pN P) - cnt (pK P) 3 (npl P p c)) * msum (outs P p c m) ≤ 9 ^ (cnt (pK P) 3 (pN P) - cnt (pK P) 3 p) * m := fun h => Nat.mul_le_mul hpw h
  have tl := tv_le (c := c) (hw.2.1 p).2.2.1
  by_cases k0 : pK P p = 0
  · apply gen
    unfold outs
    rw [if_pos k0, outD_sum, he p hp k0]
    exact Nat.div_mul_le_self m 60
  · by_cases k3 : pK P p = 3
    · have hnp : npl P p c = p + 1 := by unfold npl; rw [if_neg (by omega)]
      have hc1 : cnt (pK P) 3 (p + 1) = cnt (pK P) 3 p + 1 := by
        show cnt (pK P) 3 p + (if pK P p = 3 then 1 else 0) = _
        rw [if_pos k3]
      have hcn := cnt_lt (K := pK P) hp k3
      rw [hnp, hc1, show cnt (pK P) 3 (pN P) - cnt (pK P) 3 p = (cnt (pK P) 3 (pN P) - (cnt (pK P) 3 p + 1)) + 1 by omega, Nat.pow_succ, Nat.mul_assoc]
      apply Nat.mul_le_mul_left
      unfold outs
      rw [if_neg k0, if_neg (by omega), if_neg (by omega), if_pos k3]
      split
      · exact Nat.zero_le _
      · show m * tv c (pA P p) + 0 ≤ 9 * m
        rw [Nat.add_zero, Nat.mul_comm 9 m]
        exact Nat.mul_le_mul_left m tl
    · apply gen
      unfold outs
      rw [if_neg k0]
      split
      · show m + 0 ≤ m; omega
      split
      · split
        · exact Nat.zero_le _
        · show m + 0 ≤ m; omega
      show m + 0 ≤ m; omega
theorem cdA_co' {P : Pr} {q : Nat} {o : List (Nat × Nat)} : ∀ i a, (co P q o)[i]? = some a → cdA (co P q o) i = a.1 := by
  intro i a h
  unfold cdA
  rw [h]
theorem rm_len {P : Pr} {L : Ld} {p c m : Nat} (h : rmS P L p c m = 1) : (lLs L (npl P p c)).length + frn (cdA (co P (npl P p c) (outs P p c m))) (lLs L (npl P p c)) (outs P p c m).length ≤ 200 := by
  unfold rmS at h
  split at h
  · assumption
  · cases h
theorem co_len {P : Pr} {q : Nat} {o : List (Nat × Nat)} : (co P q o).length = o.length := by unfold co; rw [List.length_map]
theorem WfL_mv {P : Pr} {L : Ld} {p c m : Nat} {t : List (Nat × Nat)} (hw : Wf P) (h : WfL P L) (hp : p < pN P) (hl : lLs L p = (c, m) :: t) (hr : rmS P L p c m = 1) : WfL P (mvL P L p c m) := by
  obtain ⟨e1, e2, e3, e4, e5, e6⟩ := h
  have hq := npl_le (c := c) hp
  have hcm := e4 p c m (by rw [hl]; exact List.mem_cons_self)
  have ok := outs_ok hw hp hcm.1 hcm.2.1 hcm.2.2
  have hlen := rm_len hr
  have hne : npl P p c ≠ p := by omega
  have hLs : ∀ r, lLs (mvL P L p c m) r = if r = npl P p c then insF (co P (npl P p c) (outs P p c m)) (lLs L (npl P p c)) else va_up (lLs L) p t r := by
    intro r
    unfold mvL
    rw [cmF_Ls]
    have a1 : lLs (rmv L p (lst P p c m)) (npl P p c) = lLs L (npl P p c) := vup_n hne
    have a2 : lLs (rmv L p (lst P p c m)) r = va_up (lLs L) p t r := by
      show va_up (lLs L) p (lLs L p).tail r = _
      rw [hl]; rfl
    rw [a1, a2]
  have hil := insF_take (o := co P (npl P p c) (outs P p c m)) (e3 (npl P p c)) (cdA (co P (npl P p c) (outs P p c m))) cdA_co' _ (Nat.le_refl _)
  rw [List.take_length, co_len] at hil
  refine ⟨e1, fun r => ?_, fun r => ?_, fun r c' m' hm' => ?_, fun r hr' => ?_, ?_⟩
  · rw [hLs]
    split
    · rw [hil.1]; exact hlen
    · by_cases e : r = p
      · rw [vup_e e]
        have := e2 p
        rw [hl] at this
        have this : t.length + 1 ≤ 200 := this
        omega
      · rw [vup_n e]; exact e2 r
  · rw [hLs]
    split
    · exact hil.2
    · by_cases e : r = p
      · rw [vup_e e]
        have := e3 p
        rw [hl] at this
        exact (List.pairwise_cons.mp this).2
      · rw [vup_n e]; exact e3 r
  · rw [hLs] at hm'
    split at hm'
    · rename_i er
      rw [er]
      refine insF_all (Q := fun x => 60 ^ (8 - cnt (pK P) 0 (npl P p c)) ∣ x) (fun a b => Nat.dvd_add) _ _ (fun c2 m2 h2 => ?_) (fun c2 m2 h2 => e4 _ c2 m2 h2) c' m' hm'
      obtain ⟨c3, z1, z2⟩ := co_mem h2
      have := ok c3 m2 z1
      exact ⟨by rw [z2]; exact ct_lt this.1, this.2⟩
    · by_cases e : r = p
      · rw [vup_e e] at hm'
        rw [e]
        exact e4 p c' m' (by rw [hl]; exact List.mem_cons_of_mem _ hm')
      · rw [vup_n e] at hm'
        exact e4 r c' m' hm'
  · rw [hLs, if_neg (by omega), vup_n (by omega)]
    exact e5 r hr'
  · have hfun : lLs (mvL P L p c m) = va_up (va_up (lLs L) p t) (npl P p c) (insF (co P (npl P p c) (outs P p c m)) (lLs L (npl P p c))) := by
      funext r
      rw [hLs]
      split
      · rename_i e; rw [vup_e e]
      · rename_i e; rw [vup_n e]
    rw [hfun]
    have p1 := (pot_up (P := P) (Ls := va_up (lLs L) p t) (q := npl P p c) (l := insF (co P (npl P p c) (outs P p c m)) (lLs L (npl P p c))) (pN P + 1)).1 (by omega)
    have p2 := (pot_up (P := P) (Ls := lLs L) (q := p) (l := t) (pN P + 1)).1 (by omega)
    rw [vup_n hne, insF_msum, co_msum, Nat.mul_add] at p1
    rw [hl, show msum ((c, m) :: t) = m + msum t from rfl, Nat.mul_add] at p2
    have := outs_pot (c := c) (m := m) hw e1 hp hcm.2.2
    omega
