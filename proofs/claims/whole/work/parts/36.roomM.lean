/-! ===== is there room: reference ===== -/
theorem b_sel : ∀ L : Nat, L < 64 → ∀ x : Nat, x < 6 → ((iv (L : Int) >>> (iv (x : Int) &&& iv 31)) &&& iv 1 = iv 1 ↔ L / 2 ^ x % 2 = 1) := by decide +kernel
theorem e_cut {S : St} {q c L : Nat} (hq : q ≤ 30) (hc : c < 1000000) (hL : L < 64) (hS : gA S 13 q = iv (L : Int)) : f_X5_cut (iv (c : Int)) (iv (q : Int)) S = some (iv (ct c L), S) := by
  have key : ∀ (j x fuel : Nat), j + x = 6 → j < fuel → lp_X5_cut_5 (iv (q : Int)) fuel (iv ((ctn L c x : Nat) : Int)) (iv (x : Int)) S = some (iv (ct c L), S) := by
    intro j
    induction j with
    | zero =>
      intro x fuel hx hf
      obtain ⟨n, rfl⟩ : ∃ k, fuel = k + 1 := ⟨fuel - 1, by omega⟩
      obtain rfl : x = 6 := by omega
      rw [lp_X5_cut_5]
      simp (disch := omega) only [nxt_e, bnd_s, chk_T, chk_nF, ↓reduceIte, i_0, i_1, i_2, i_3, i_4, i_5, i_6, i_8, i_9, i_10, i_15, i_19, i_20, i_30, i_31, i_40, i_60, i_100, i_200, i_1000, i_20000, iv_neg, iv_add, iv_sub, iv_mul, iv_lt, iv_le, iv_eq, iv_cl, iv_in, ltT, ltF, leT, leF, eqT, eqF, gI_e, gI_n, gI_sA, gI_sL, gI_sB, gL_e, gL_n, gL_sI, gL_sA, gL_sB, gA_e, gA_n, gA_sI, gA_sL, gA_sB, gB_e, gB_n, gB_sI, gB_sL, gB_sA, up_e, up_n, uL_e, uL_n]
      rfl
    | succ j ih =>
      intro x fuel hx hf
      obtain ⟨n, rfl⟩ : ∃ k, fuel = k + 1 := ⟨fuel - 1, by omega⟩
      have hb := b_sel L hL x (by omega)
      have hcl := (ct_dg (L := L) hc x (by omega)).1
      rw [lp_X5_cut_5]
      simp (disch := omega) only [nxt_e, bnd_s, chk_T, chk_nF, ↓reduceIte, i_0, i_1, i_2, i_3, i_4, i_5, i_6, i_8, i_9, i_10, i_15, i_19, i_20, i_30, i_31, i_40, i_60, i_100, i_200, i_1000, i_20000, iv_neg, iv_add, iv_sub, iv_mul, iv_lt, iv_le, iv_eq, iv_cl, iv_in, ltT, ltF, leT, leF, eqT, eqF, gI_e, gI_n, gI_sA, gI_sL, gI_sB, gL_e, gL_n, gL_sI, gL_sA, gL_sB, gA_e, gA_n, gA_sI, gA_sL, gA_sB, gB_e, gB_n, gB_sI, gB_sL, gB_sA, up_e, up_n, uL_e, uL_n, Int.toNat_natCast, hS]
      by_cases e : L / 2 ^ x % 2 = 1
      · rw [if_pos (hb.mpr e)]
        have h1 : ctn L c (x + 1) = ctn L c x := by
          show (if L / 2 ^ x % 2 = 1 then ctn L c x else wt (ctn L c x) x 0) = _
          rw [if_pos e]
        have := ih (x + 1) n (by omega) (by omega)
        rw [h1] at this
        exact this
      · rw [if_neg (fun z => e (hb.mp z))]
        have h1 : ctn L c (x + 1) = wt (ctn L c x) x 0 := by
          show (if L / 2 ^ x % 2 = 1 then ctn L c x else wt (ctn L c x) x 0) = _
          rw [if_neg e]
        have ew : f_X5_with (iv ((ctn L c x : Nat) : Int)) (iv (x : Int)) (iv 0) S = some (iv (wt (ctn L c x) x 0), S) := e_wth (v := 0) hcl (by omega)
        rw [ew, bnd_s]
        have := ih (x + 1) n (by omega) (by omega)
        rw [h1] at this
        exact this
  exact key 6 0 FU rfl (by rw [FU_v]; decide)
/-- no earlier code is alike: the last r of those ahead of k -/
def fr1 (cs : Nat → Nat) (k : Nat) : Nat → Nat → Nat
  | 0, b => b
  | r + 1, b => fr1 cs k r (if b = 0 then 0 else if cs (k - (r + 1)) = cs k then 0 else 1)
/-- how many of the first k codes are new -/
def frn (cs : Nat → Nat) (l : List (Nat × Nat)) : Nat → Nat
  | 0 => 0
  | k + 1 => frn cs l k + fr1 cs k k (1 - hs (cs k) l)
theorem fr1_le (cs : Nat → Nat) (k : Nat) : ∀ r b, b ≤ 1 → fr1 cs k r b ≤ b
  | 0, b, _ => Nat.le_refl b
  | r + 1, b, h => by
    unfold fr1
    refine Nat.le_trans (fr1_le cs k r _ ?_) ?_
    · split
      · omega
      · split <;> omega
    · split
      · omega
      · split <;> omega
theorem frn_le (cs : Nat → Nat) (l : List (Nat × Nat)) : ∀ k, frn cs l k ≤ k
  | 0 => Nat.le_refl 0
  | k + 1 => by
    have h1 := frn_le cs l k
    have h2 := fr1_le cs k k (1 - hs (cs k) l) (by omega)
    show frn cs l k + fr1 cs k k (1 - hs (cs k) l) ≤ k + 1
    omega
theorem room84 {S : St} {cs : Nat → Nat} {k fr : Nat} {kk : Int32 → Int32 → St → Option (Int32 × St)} (hk : k < 10) (hcs : ∀ j, j ≤ k → gA S 14 j = iv (cs j) ∧ cs j < 1000000) : ∀ (r j b fuel : Nat), r + j = k → r < fuel → b ≤ 1 → lp_X5_isRoom_84 (iv (fr : Int)) (iv (k : Int)) kk fuel (iv (b : Int)) (iv (j : Int)) S = kk (iv ((fr : Int) + (fr1 cs k r b : Int))) (iv ((k : Int) + 1)) S := by
  intro r
  induction r with
  | zero =>
    intro j b fuel hj hf hb
    obtain ⟨n, rfl⟩ : ∃ k, fuel = k + 1 := ⟨fuel - 1, by omega⟩
    rw [lp_X5_isRoom_84]
    rcases (show b = 0 ∨ b = 1 by omega) with rfl | rfl
    · simp (disch := omega) only [nxt_e, bnd_s, chk_T, chk_nF, ↓reduceIte, i_0, i_1, i_2, i_3, i_4, i_5, i_6, i_8, i_9, i_10, i_15, i_19, i_20, i_30, i_31, i_40, i_60, i_100, i_200, i_1000, i_20000, iv_neg, iv_add, iv_sub, iv_mul, iv_lt, iv_le, iv_eq, iv_cl, iv_in, ltT, ltF, leT, leF, eqT, eqF, gI_e, gI_n, gI_sA, gI_sL, gI_sB, gL_e, gL_n, gL_sI, gL_sA, gL_sB, gA_e, gA_n, gA_sI, gA_sL, gA_sB, gB_e, gB_n, gB_sI, gB_sL, gB_sA, up_e, up_n, uL_e, uL_n]
      rfl
    · simp (disch := omega) only [nxt_e, bnd_s, chk_T, chk_nF, ↓reduceIte, i_0, i_1, i_2, i_3, i_4, i_5, i_6, i_8, i_9, i_10, i_15, i_19, i_20, i_30, i_31, i_40, i_60, i_100, i_200, i_1000, i_20000, iv_neg, iv_add, iv_sub, iv_mul, iv_lt, iv_le, iv_eq, iv_cl, iv_in, ltT, ltF, leT, leF, eqT, eqF, gI_e, gI_n, gI_sA, gI_sL, gI_sB, gL_e, gL_n, gL_sI, gL_sA, gL_sB, gA_e, gA_n, gA_sI, gA_sL, gA_sB, gB_e, gB_n, gB_sI, gB_sL, gB_sA, up_e, up_n, uL_e, uL_n]
      rfl
  | succ r ih =>
    intro j b fuel hj hf hb
    obtain ⟨n, rfl⟩ : ∃ k, fuel = k + 1 := ⟨fuel - 1, by omega⟩
    obtain ⟨a1, a2⟩ := hcs j (by omega)
    obtain ⟨b1, b2⟩ := hcs k (by omega)
    rw [lp_X5_isRoom_84]
    have ej : k - (r + 1) = j := by omega
    rcases (show b = 0 ∨ b = 1 by omega) with rfl | rfl
    · simp (disch := omega) only [nxt_e, bnd_s, chk_T, chk_nF, ↓reduceIte, i_0, i_1, i_2, i_3, i_4, i_5, i_6, i_8, i_9, i_10, i_15, i_19, i_20, i_30, i_31, i_40, i_60, i_100, i_200, i_1000, i_20000, iv_neg, iv_add, iv_sub, iv_mul, iv_lt, iv_le, iv_eq, iv_cl, iv_in, ltT, ltF, leT, leF, eqT, eqF, gI_e, gI_n, gI_sA, gI_sL, gI_sB, gL_e, gL_n, gL_sI, gL_sA, gL_sB, gA_e, gA_n, gA_sI, gA_sL, gA_sB, gB_e, gB_n, gB_sI, gB_sL, gB_sA, up_e, up_n, uL_e, uL_n]
      exact ih (j + 1) 0 n (by omega) (by omega) (by omega)
    · by_cases e : cs j = cs k
      · simp (disch := omega) only [nxt_e, bnd_s, chk_T, chk_nF, ↓reduceIte, i_0, i_1, i_2, i_3, i_4, i_5, i_6, i_8, i_9, i_10, i_15, i_19, i_20, i_30, i_31, i_40, i_60, i_100, i_200, i_1000, i_20000, iv_neg, iv_add, iv_sub, iv_mul, iv_lt, iv_le, iv_eq, iv_cl, iv_in, ltT, ltF, leT, leF, eqT, eqF, gI_e, gI_n, gI_sA, gI_sL, gI_sB, gL_e, gL_n, gL_sI, gL_sA, gL_sB, gA_e, gA_n, gA_sI, gA_sL, gA_sB, gB_e, gB_n, gB_sI, gB_sL, gB_sA, up_e, up_n, uL_e, uL_n, Int.toNat_natCast, a1, b1]
        have := ih (j + 1) 0 n (by omega) (by omega) (by omega)
        show _ = kk (iv ((fr : Int) + ((fr1 cs k r (if 1 = 0 then 0 else if cs (k - (r + 1)) = cs k then 0 else 1) : Nat) : Int))) _ S
        rw [if_neg (by decide), ej, if_pos e]
        exact this
      · simp (disch := omega) only [nxt_e, bnd_s, chk_T, chk_nF, ↓reduceIte, i_0, i_1, i_2, i_3, i_4, i_5, i_6, i_8, i_9, i_10, i_15, i_19, i_20, i_30, i_31, i_40, i_60, i_100, i_200, i_1000, i_20000, iv_neg, iv_add, iv_sub, iv_mul, iv_lt, iv_le, iv_eq, iv_cl, iv_in, ltT, ltF, leT, leF, eqT, eqF, gI_e, gI_n, gI_sA, gI_sL, gI_sB, gL_e, gL_n, gL_sI, gL_sA, gL_sB, gA_e, gA_n, gA_sI, gA_sL, gA_sB, gB_e, gB_n, gB_sI, gB_sL, gB_sA, up_e, up_n, uL_e, uL_n, Int.toNat_natCast, a1, b1]
        have := ih (j + 1) 1 n (by omega) (by omega) (by omega)
        show _ = kk (iv ((fr : Int) + ((fr1 cs k r (if 1 = 0 then 0 else if cs (k - (r + 1)) = cs k then 0 else 1) : Nat) : Int))) _ S
        rw [if_neg (by decide), ej, if_neg e]
        exact this
/-- codes cut for place q -/
def co (P : Pr) (q : Nat) (l : List (Nat × Nat)) : List (Nat × Nat) := l.map (fun a => (ct a.1 (LV P q), a.2))
def cdA (l : List (Nat × Nat)) (i : Nat) : Nat := match l[i]? with
  | some a => a.1
  | none => 0
theorem room29 {P : Pr} {L : Ld} {q lo : Nat} {o : List (Nat × Nat)} (hw : Wf P) (hq : q ≤ pN P) (ho : o.length ≤ 10) (hoc : ∀ c m, (c, m) ∈ o → c < 1000000) (hlen : ∀ q, (lLs L q).length ≤ 200) (hcd : ∀ q c' m', (c', m') ∈ lLs L q → c' < 1000000) : ∀ (r k fuel : Nat) (S : St), r + k = o.length → r < fuel → RML P L S → gI S 20 = iv o.length → gI S 21 = iv q → gL S 22 = jv (lo : Int) → (∀ i c m : Nat, o[i]? = some (c, m) → gA S 14 i = iv ((if i < k then ct c (LV P q) else c : Nat) : Int) ∧ gB S 15 i = jv (m : Int)) → ∃ S', lp_X5_isRoom_29 fuel (iv (frn (cdA (co P q o)) (lLs L q) k : Int)) (iv (k : Int)) S = some (iv (if (lLs L q).length + frn (cdA (co P q o)) (lLs L q) o.length ≤ 200 then 1 else 0), S') ∧ MR (co P q o) S' ∧ Fm S S' ∧ gI S' 21 = iv q ∧ gL S' 22 = jv (lo : Int) := by
  have q1 := hw.1
  intro r
  induction r with
  | zero =>
    intro k fuel S hk hf hR g20 g21 g22 hrow
    obtain ⟨n, rfl⟩ : ∃ k, fuel = k + 1 := ⟨fuel - 1, by omega⟩
    obtain rfl : k = o.length := by omega
    have hl := hlen q
    have h1 := hR.1 q (by omega)
    have hfr := frn_le (cdA (co P q o)) (lLs L q) o.length
    refine ⟨S, ?_, ⟨?_, ?_⟩, Fm.rf, g21, g22⟩
    · rw [lp_X5_isRoom_29]
      by_cases h : (lLs L q).length + frn (cdA (co P q o)) (lLs L q) o.length ≤ 200
      · simp (disch := omega) only [nxt_e, bnd_s, chk_T, chk_nF, ↓reduceIte, i_0, i_1, i_2, i_3, i_4, i_5, i_6, i_8, i_9, i_10, i_15, i_19, i_20, i_30, i_31, i_40, i_60, i_100, i_200, i_1000, i_20000, iv_neg, iv_add, iv_sub, iv_mul, iv_lt, iv_le, iv_eq, iv_cl, iv_in, ltT, ltF, leT, leF, eqT, eqF, gI_e, gI_n, gI_sA, gI_sL, gI_sB, gL_e, gL_n, gL_sI, gL_sA, gL_sB, gA_e, gA_n, gA_sI, gA_sL, gA_sB, gB_e, gB_n, gB_sI, gB_sL, gB_sA, up_e, up_n, uL_e, uL_n, Int.toNat_natCast, g20, g21, h1]
        rw [if_pos h]
      · simp (disch := omega) only [nxt_e, bnd_s, chk_T, chk_nF, ↓reduceIte, i_0, i_1, i_2, i_3, i_4, i_5, i_6, i_8, i_9, i_10, i_15, i_19, i_20, i_30, i_31, i_40, i_60, i_100, i_200, i_1000, i_20000, iv_neg, iv_add, iv_sub, iv_mul, iv_lt, iv_le, iv_eq, iv_cl, iv_in, ltT, ltF, leT, leF, eqT, eqF, gI_e, gI_n, gI_sA, gI_sL, gI_sB, gL_e, gL_n, gL_sI, gL_sA, gL_sB, gA_e, gA_n, gA_sI, gA_sL, gA_sB, gB_e, gB_n, gB_sI, gB_sL, gB_sA, up_e, up_n, uL_e, uL_n, Int.toNat_natCast, g20, g21, h1]
        rw [if_neg h]
    · rw [g20]; unfold co; rw [List.length_map]
    · intro i c m hi
      unfold co at hi
      rw [List.getElem?_map] at hi
      cases e : o[i]? with
      | none => rw [e] at hi; cases hi
      | some a =>
        obtain ⟨c0, m0⟩ := a
        rw [e] at hi
        cases hi
        have := hrow i c0 m0 e
        rw [if_pos (List.getElem?_eq_some_iff.mp e).1] at this
        exact this
  | succ r ih =>
    intro k fuel S hk hf hR g20 g21 g22 hrow
    obtain ⟨n, rfl⟩ : ∃ k, fuel = k + 1 := ⟨fuel - 1, by omega⟩
    have hl := hlen q
    have h1 := hR.1 q (by omega)
    have h7 := hR.2.2.2.2.2.2 q hq
    have hb : o[k]? = some (o[k]'(by omega)) := List.getElem?_eq_getElem (by omega)
    generalize o[k]'(by omega) = a at hb
    obtain ⟨c, m⟩ := a
    have hcl := hoc c m (List.mem_of_getElem? hb)
    have hck := hrow k c m hb
    rw [if_neg (by omega)] at hck
    have hcc : cdA (co P q o) k = ct c (LV P q) := by
      unfold cdA co
      rw [List.getElem?_map, hb]
      rfl
    have ectl := ct_lt (L := LV P q) hcl
    have ec := e_cut (S := S) (q := q) (by omega) hcl (LV_lt hw q) h7
    have hcod : ∀ i c' m', (lLs L q)[i]? = some (c', m') → gA (sA S 14 (upd (gA S 14) k (iv (ct c (LV P q))))) 11 (200 * q + i) = iv ((c' : Nat) : Int) ∧ c' < 1000000 := fun i c' m' hi => ⟨by rw [gA_n (by decide)]; exact (hR.2.1 q i c' m' (by omega) hi).1, hcd q c' m' (List.mem_of_getElem? hi)⟩
    have et := e_there (S := sA S 14 (upd (gA S 14) k (iv (ct c (LV P q))))) (p := q) (c := ct c (LV P q)) (l := lLs L q) (by omega) ectl hl hcod (by rw [gA_n (by decide)]; exact h1)
    have hsl := hs_le (ct c (LV P q)) (lLs L q)
    have row : ∀ j, j ≤ k → gA (sA S 14 (upd (gA S 14) k (iv (ct c (LV P q))))) 14 j = iv (cdA (co P q o) j) ∧ cdA (co P q o) j < 1000000 := by
      intro j hj
      rw [gA_e]
      by_cases e : j = k
      · rw [up_e e, e, hcc]; exact ⟨rfl, ectl⟩
      · have hb2 : o[j]? = some (o[j]'(by omega)) := List.getElem?_eq_getElem (by omega)
        generalize o[j]'(by omega) = a at hb2
        obtain ⟨c2, m2⟩ := a
        have hj2 := (hrow j c2 m2 hb2).1
        rw [if_pos (by omega)] at hj2
        have hcc2 : cdA (co P q o) j = ct c2 (LV P q) := by
          unfold cdA co
          rw [List.getElem?_map, hb2]
          rfl
        rw [up_n e, hcc2]
        exact ⟨hj2, ct_lt (hoc c2 m2 (List.mem_of_getElem? hb2))⟩
    obtain ⟨S', s1, s2, s3, s4, s5⟩ := ih (k + 1) n (sA S 14 (upd (gA S 14) k (iv (ct c (LV P q))))) (by omega) (by omega) (RML_sA (by decide) hR) g20 g21 g22 (fun i c' m' hi => by
      rw [gA_e]
      by_cases e : i = k
      · rw [e, hb] at hi
        cases hi
        rw [up_e e, if_pos (by omega)]
        exact ⟨rfl, by rw [e]; exact hck.2⟩
      · rw [up_n e]
        have := hrow i c' m' hi
        by_cases e2 : i < k
        · rw [if_pos e2] at this
          rw [if_pos (by omega)]
          exact this
        · rw [if_neg e2] at this
          rw [if_neg (by omega)]
          exact this)
    refine ⟨S', ?_, s2, Fm.tr (show Fm S (sA S 14 (upd (gA S 14) k (iv (ct c (LV P q))))) from ⟨fun _ _ _ => rfl, fun _ _ => rfl, fun j hj => gA_n hj, fun _ _ => rfl⟩) s3, s4, s5⟩
    rw [lp_X5_isRoom_29]
    simp (disch := omega) only [nxt_e, i_0, i_1, g20, g21, iv_le, leF, ↓reduceIte, iv_in, chk_T, Int.toNat_natCast, iv_cl, hck.1, ec, bnd_s, gI_sA, gA_e, up_e]
    rw [et, bnd_s]
    have hfk : frn (cdA (co P q o)) (lLs L q) (k + 1) = frn (cdA (co P q o)) (lLs L q) k + fr1 (cdA (co P q o)) k k (1 - hs (ct c (LV P q)) (lLs L q)) := by
      show _ + fr1 _ k k (1 - hs (cdA (co P q o) k) _) = _
      rw [hcc]
    rw [hfk, Int.natCast_add] at s1
    rcases (show hs (ct c (LV P q)) (lLs L q) = 0 ∨ hs (ct c (LV P q)) (lLs L q) = 1 by omega) with h0 | h0
    · rw [h0] at s1 ⊢
      rw [if_pos (show iv ((0 : Nat) : Int) = iv 0 from rfl)]
      have := room84 (fr := frn (cdA (co P q o)) (lLs L q) k) (kk := lp_X5_isRoom_29 n) (by omega) row k 0 1 FU (by omega) (by rw [FU_v]; omega) (by omega)
      exact this.trans s1
    · rw [h0] at s1 ⊢
      rw [if_neg (show ¬ iv ((1 : Nat) : Int) = iv 0 by decide)]
      have := room84 (fr := frn (cdA (co P q o)) (lLs L q) k) (kk := lp_X5_isRoom_29 n) (by omega) row k 0 0 FU (by omega) (by rw [FU_v]; omega) (by omega)
      exact this.trans s1
theorem outs_len {P : Pr} {p c m : Nat} : (outs P p c m).length ≤ 10 := by
  unfold outs
  split
  · exact outD_len 10
  split
  · show 1 ≤ 10; decide
  split
  · split
    · exact Nat.zero_le _
    · show 1 ≤ 10; decide
  split
  · split
    · exact Nat.zero_le _
    · show 1 ≤ 10; decide
  · show 1 ≤ 10; decide
theorem outD_lt {P : Pr} {p c m : Nat} (hw : Wf P) (hc : c < 1000000) : ∀ v, v ≤ 10 → ∀ c' m', (c', m') ∈ outD P p c m v → c' < 1000000
  | 0, _, c', m', h => by cases h
  | v + 1, hv, c', m', h => by
    have h : (c', m') ∈ outD P p c m v ++ if pW P (pE P p) v = 0 then [] else [(wt c (pG P p) v, m / 60 * pW P (pE P p) v)] := h
    rcases List.mem_append.mp h with h | h
    · exact outD_lt hw hc v (by omega) c' m' h
    · split at h
      · cases h
      · cases List.mem_singleton.mp h
        exact wt_lt hc (by have := (hw.2.1 p).2.1; omega) (by omega)
theorem outs_lt {P : Pr} {p c m : Nat} (hw : Wf P) (hc : c < 1000000) : ∀ c' m', (c', m') ∈ outs P p c m → c' < 1000000 := by
  intro c' m' h
  obtain ⟨z1, z2, z3, z4, z5⟩ := hw.2.1 p
  unfold outs at h
  split at h
  · exact outD_lt hw hc 10 (Nat.le_refl _) c' m' h
  split at h
  · cases List.mem_singleton.mp h
    exact wt_lt hc (by omega) (cmb_le (tv_le z3) (tv_le z4) (dg_le _ _))
  split at h
  · split at h
    · cases h
    · cases List.mem_singleton.mp h; exact hc
  split at h
  · split at h
    · cases h
    · cases List.mem_singleton.mp h; exact hc
  · cases List.mem_singleton.mp h; exact hc
theorem npl_le {P : Pr} {p c : Nat} (hp : p < pN P) : p < npl P p c ∧ npl P p c ≤ pN P := by
  unfold npl
  have := psd_b hp
  split
  · split <;> omega
  · omega
/-- room for what comes of the first state of place p -/
def rmS (P : Pr) (L : Ld) (p c m : Nat) : Nat := if (lLs L (npl P p c)).length + frn (cdA (co P (npl P p c) (outs P p c m))) (lLs L (npl P p c)) (outs P p c m).length ≤ 200 then 1 else 0
theorem e_roomM {P : Pr} {L : Ld} {S : St} {p c m : Nat} (hw : Wf P) (hR : RM P S) (hL : RML P L S) (hp : p < pN P) (hlen : ∀ q, (lLs L q).length ≤ 200) (hcd : ∀ q c' m', (c', m') ∈ lLs L q → c' < 1000000) (hm : m < 9223372036854775808) (h0 : (lLs L p)[0]? = some (c, m)) : ∃ S', f_X5_isRoom (iv (p : Int)) S = some (iv (rmS P L p c m), S') ∧ MR (co P (npl P p c) (outs P p c m)) S' ∧ Fm S S' ∧ gI S' 21 = iv (npl P p c) ∧ gL S' 22 = jv (lst P p c m) := by
  have q1 := hw.1
  have hcl := hcd p c m (List.mem_of_getElem? h0)
  obtain ⟨x1, x2⟩ := hL.2.1 p 0 c m (by omega) h0
  rw [Nat.add_zero] at x1 x2
  obtain ⟨S1, s1, s2, s3, s4, s5⟩ := e_go (S := S) hw hR hp hcl hm
  have hq := npl_le (c := c) hp
  obtain ⟨S2, t1, t2, t3, t4, t5⟩ := room29 (L := L) (q := npl P p c) (lo := lst P p c m) (o := outs P p c m) hw hq.2 outs_len (outs_lt hw hcl) hlen hcd (outs P p c m).length 0 FU S1 (by omega) (by rw [FU_v]; have := @outs_len P p c m; omega) (s3.RML hL) s2.1 s4 s5 (fun i c' m' hi => by rw [if_neg (by omega)]; exact s2.2 i c' m' hi)
  refine ⟨S2, ?_, t2, s3.tr t3, t4, t5⟩
  unfold f_X5_isRoom
  simp (disch := omega) only [nxt_e, bnd_s, chk_T, chk_nF, ↓reduceIte, i_0, i_1, i_2, i_3, i_4, i_5, i_6, i_8, i_9, i_10, i_15, i_19, i_20, i_30, i_31, i_40, i_60, i_100, i_200, i_1000, i_20000, iv_neg, iv_add, iv_sub, iv_mul, iv_lt, iv_le, iv_eq, iv_cl, iv_in, ltT, ltF, leT, leF, eqT, eqF, gI_e, gI_n, gI_sA, gI_sL, gI_sB, gL_e, gL_n, gL_sI, gL_sA, gL_sB, gA_e, gA_n, gA_sI, gA_sL, gA_sB, gB_e, gB_n, gB_sI, gB_sL, gB_sA, up_e, up_n, uL_e, uL_n, show ((200 : Int) * (p : Int)).toNat = 200 * p by omega, x1, x2, s1]
  unfold rmS
  have t1 : lp_X5_isRoom_29 FU (iv 0) (iv 0) S1 = _ := t1
  rw [t1]
  split <;> rfl
