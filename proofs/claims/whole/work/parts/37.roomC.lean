/-! ===== is there room: class ===== -/
def nfk (cs : Nat → Nat) (l : List (Nat × Nat)) : Nat → Nat × Nat
  | 0 => (0, 1000000)
  | k + 1 => if cs k = (nfk cs l k).2 then nfk cs l k else if hs (cs k) l = 0 then ((nfk cs l k).1 + 1, cs k) else nfk cs l k
theorem fr1_0 (cs : Nat → Nat) (k : Nat) : ∀ r, fr1 cs k r 0 = 0 := fun r => Nat.le_zero.mp (fr1_le cs k r 0 (by omega))
theorem nfk_same {cs : Nat → Nat} {l : List (Nat × Nat)} {d : Nat} (hd : d < 1000000) : ∀ k, (∀ i, i < k → cs i = d) → (nfk cs l k).1 = frn cs l k ∧ (0 < k → nfk cs l k = if hs d l = 0 then (1, d) else (0, 1000000))
  | 0, _ => ⟨rfl, fun h => absurd h (by omega)⟩
  | k + 1, h => by
    obtain ⟨h1, h2⟩ := nfk_same hd k (fun i hi => h i (by omega))
    have hk := h k (by omega)
    have hle := hs_le d l
    have e : nfk cs l (k + 1) = if cs k = (nfk cs l k).2 then nfk cs l k else if hs (cs k) l = 0 then ((nfk cs l k).1 + 1, cs k) else nfk cs l k := rfl
    have ef : frn cs l (k + 1) = frn cs l k + fr1 cs k k (1 - hs (cs k) l) := rfl
    rw [hk] at e ef
    cases k with
    | zero =>
      have e0 : nfk cs l 0 = (0, 1000000) := rfl
      rw [e0, if_neg (by show ¬ d = 1000000; omega)] at e
      have f0 : frn cs l 1 = 1 - hs d l := by rw [ef]; show 0 + (1 - hs d l) = _; omega
      by_cases q : hs d l = 0
      · rw [if_pos q] at e
        exact ⟨by rw [e, f0, q], fun _ => by rw [e, if_pos q]⟩
      · rw [if_neg q] at e
        exact ⟨by rw [e, f0]; show 0 = _; omega, fun _ => by rw [e, if_neg q]⟩
    | succ k =>
      have hn := h2 (by omega)
      have fz : ∀ b, fr1 cs (k + 1) (k + 1) b = 0 := by
        intro b
        show fr1 cs (k + 1) k (if b = 0 then 0 else if cs (k + 1 - (k + 1)) = cs (k + 1) then 0 else 1) = 0
        rw [h _ (by omega), h _ (by omega), if_pos rfl]
        split <;> exact fr1_0 _ _ _
      rw [fz, Nat.add_zero] at ef
      by_cases q : hs d l = 0
      · rw [if_pos q] at hn
        rw [hn, if_pos rfl] at e
        exact ⟨by rw [e, ef, ← h1, hn], fun _ => by rw [e, if_pos q]⟩
      · rw [if_neg q] at hn
        rw [hn, if_neg (by show ¬ d = 1000000; omega), if_neg q] at e
        exact ⟨by rw [e, ef, ← h1, hn], fun _ => by rw [e, if_neg q]⟩
theorem nfk_dist {cs : Nat → Nat} {l : List (Nat × Nat)} : ∀ k, (∀ i, i < k → cs i < 1000000) → (∀ i j, i < j → j < k → cs i ≠ cs j) → (nfk cs l k).1 = frn cs l k ∧ ((nfk cs l k).2 = 1000000 ∨ ∃ i, i < k ∧ (nfk cs l k).2 = cs i)
  | 0, _, _ => ⟨rfl, Or.inl rfl⟩
  | k + 1, hlt, h => by
    obtain ⟨h1, h2⟩ := nfk_dist k (fun i hi => hlt i (by omega)) (fun i j a b => h i j a (by omega))
    have hne : cs k ≠ (nfk cs l k).2 := by
      rcases h2 with e | ⟨i, hi, e⟩
      · rw [e]; have := hlt k (by omega); omega
      · rw [e]; exact fun z => h i k hi (by omega) z.symm
    have hle := hs_le (cs k) l
    have e : nfk cs l (k + 1) = if cs k = (nfk cs l k).2 then nfk cs l k else if hs (cs k) l = 0 then ((nfk cs l k).1 + 1, cs k) else nfk cs l k := rfl
    have ef : frn cs l (k + 1) = frn cs l k + fr1 cs k k (1 - hs (cs k) l) := rfl
    have fb : ∀ r b, r ≤ k → b ≤ 1 → fr1 cs k r b = b := by
      intro r
      induction r with
      | zero => intro b _ _; rfl
      | succ r ih =>
        intro b hr hb
        show fr1 cs k r (if b = 0 then 0 else if cs (k - (r + 1)) = cs k then 0 else 1) = b
        rw [if_neg (h (k - (r + 1)) k (by omega) (by omega)), ih _ (by omega) (by split <;> omega)]
        split <;> omega
    rw [fb k _ (Nat.le_refl k) (by omega)] at ef
    rw [if_neg hne] at e
    by_cases q : hs (cs k) l = 0
    · rw [if_pos q] at e
      exact ⟨by rw [e, ef, q, ← h1], Or.inr ⟨k, by omega, by rw [e]⟩⟩
    · rw [if_neg q] at e
      refine ⟨by rw [e, ef, ← h1]; omega, ?_⟩
      rw [e]
      rcases h2 with z | ⟨i, hi, z⟩
      · exact Or.inl z
      · exact Or.inr ⟨i, by omega, z⟩
/-- the values that a draw gives -/
def usV (P : Pr) (p : Nat) : Nat → List Nat
  | 0 => []
  | v + 1 => usV P p v ++ if pW P (pE P p) v = 0 then [] else [v]
theorem usV_lt {P : Pr} {p : Nat} : ∀ v u, u ∈ usV P p v → u < v
  | 0, u, h => by cases h
  | v + 1, u, h => by
    have h : u ∈ usV P p v ++ if pW P (pE P p) v = 0 then [] else [v] := h
    rcases List.mem_append.mp h with h | h
    · have := usV_lt v u h; omega
    · split at h
      · cases h
      · cases List.mem_singleton.mp h; omega
theorem usV_pw {P : Pr} {p : Nat} : ∀ v, (usV P p v).Pairwise (· < ·)
  | 0 => List.Pairwise.nil
  | v + 1 => by
    show (usV P p v ++ if pW P (pE P p) v = 0 then [] else [v]).Pairwise (· < ·)
    rw [List.pairwise_append]
    refine ⟨usV_pw v, ?_, ?_⟩
    · split
      · exact List.Pairwise.nil
      · exact List.pairwise_singleton _ _
    · intro a ha b hb
      have := usV_lt v a ha
      split at hb
      · cases hb
      · cases List.mem_singleton.mp hb; exact this
theorem outD_map {P : Pr} {p c m : Nat} : ∀ v, outD P p c m v = (usV P p v).map (fun u => (wt c (pG P p) u, m / 60 * pW P (pE P p) u))
  | 0 => rfl
  | v + 1 => by
    show outD P p c m v ++ (if pW P (pE P p) v = 0 then [] else [(wt c (pG P p) v, m / 60 * pW P (pE P p) v)]) = (usV P p v ++ if pW P (pE P p) v = 0 then [] else [v]).map _
    rw [outD_map v, List.map_append]
    congr 1
    split <;> rfl
theorem dg_ext {a b : Nat} (ha : a < 1000000) (hb : b < 1000000) (h : ∀ x, x < 6 → dg a x = dg b x) : a = b := by
  have h0 : a / 100000 % 10 = b / 100000 % 10 := h 0 (by decide)
  have h1 : a / 10000 % 10 = b / 10000 % 10 := h 1 (by decide)
  have h2 : a / 1000 % 10 = b / 1000 % 10 := h 2 (by decide)
  have h3 : a / 100 % 10 = b / 100 % 10 := h 3 (by decide)
  have h4 : a / 10 % 10 = b / 10 % 10 := h 4 (by decide)
  have h5 : a / 1 % 10 = b / 1 % 10 := h 5 (by decide)
  omega
theorem cdA_co {P : Pr} {q : Nat} {o : List (Nat × Nat)} {i c m : Nat} (h : o[i]? = some (c, m)) : cdA (co P q o) i = ct c (LV P q) := by
  unfold cdA co
  rw [List.getElem?_map, h]
  rfl
theorem nfk_frn {P : Pr} {q p c m : Nat} {l : List (Nat × Nat)} (hw : Wf P) (hc : c < 1000000) : (nfk (cdA (co P q (outs P p c m))) l (outs P p c m).length).1 = frn (cdA (co P q (outs P p c m))) l (outs P p c m).length := by
  have hol := outs_lt (P := P) (p := p) (c := c) (m := m) hw hc
  have hlt : ∀ i, i < (outs P p c m).length → cdA (co P q (outs P p c m)) i < 1000000 := by
    intro i hi
    have hb : (outs P p c m)[i]? = some ((outs P p c m)[i]'hi) := List.getElem?_eq_getElem hi
    generalize (outs P p c m)[i]'hi = a at hb
    obtain ⟨c', m'⟩ := a
    rw [cdA_co hb]
    exact ct_lt (hol c' m' (List.mem_of_getElem? hb))
  by_cases k0 : pK P p = 0
  · have ho : outs P p c m = (usV P p 10).map (fun u => (wt c (pG P p) u, m / 60 * pW P (pE P p) u)) := by
      unfold outs
      rw [if_pos k0, outD_map]
    have hg : pG P p < 6 := by have := (hw.2.1 p).2.1; omega
    have at_ : ∀ i u, (usV P p 10)[i]? = some u → cdA (co P q (outs P p c m)) i = ct (wt c (pG P p) u) (LV P q) := by
      intro i u hu
      refine cdA_co (m := m / 60 * pW P (pE P p) u) ?_
      rw [ho, List.getElem?_map, hu]
      rfl
    have hlen : (outs P p c m).length = (usV P p 10).length := by rw [ho, List.length_map]
    by_cases hb : LV P q / 2 ^ pG P p % 2 = 1
    · refine (nfk_dist _ hlt (fun i j hij hj => ?_)).1
      rw [hlen] at hj
      have h1 : (usV P p 10)[i]? = some ((usV P p 10)[i]'(by omega)) := List.getElem?_eq_getElem (by omega)
      have h2 : (usV P p 10)[j]? = some ((usV P p 10)[j]'hj) := List.getElem?_eq_getElem hj
      have hp := List.pairwise_iff_getElem.mp (usV_pw (P := P) (p := p) 10) i j (by omega) hj hij
      generalize (usV P p 10)[i]'(by omega) = u at h1 hp
      generalize (usV P p 10)[j]'hj = w at h2 hp
      have u10 := usV_lt 10 u (List.mem_of_getElem? h1)
      have w10 := usV_lt 10 w (List.mem_of_getElem? h2)
      rw [at_ i u h1, at_ j w h2]
      intro e
      have e2 : dg (ct (wt c (pG P p) u) (LV P q)) (pG P p) = dg (ct (wt c (pG P p) w) (LV P q)) (pG P p) := by rw [e]
      rw [ctd (wt_lt hc hg (by omega)) hg, ctd (wt_lt hc hg (by omega)) hg, if_neg (by omega), if_neg (by omega), dg_wt hc hg hg (by omega), dg_wt hc hg hg (by omega), if_pos rfl, if_pos rfl] at e2
      omega
    · refine (nfk_same (d := ct (wt c (pG P p) 0) (LV P q)) (ct_lt (wt_lt hc hg (by omega))) _ (fun i hi => ?_)).1
      rw [hlen] at hi
      have h1 : (usV P p 10)[i]? = some ((usV P p 10)[i]'hi) := List.getElem?_eq_getElem hi
      generalize (usV P p 10)[i]'hi = u at h1
      have u10 := usV_lt 10 u (List.mem_of_getElem? h1)
      rw [at_ i u h1]
      refine dg_ext (ct_lt (wt_lt hc hg (by omega))) (ct_lt (wt_lt hc hg (by omega))) (fun x hx => ?_)
      rw [ctd (wt_lt hc hg (by omega)) hx, ctd (wt_lt hc hg (by omega)) hx, dg_wt hc hg hx (by omega), dg_wt hc hg hx (by omega)]
      by_cases e : x = pG P p
      · rw [e, if_pos hb, if_pos hb]
      · rw [if_neg e, if_neg e]
  · have hlen : (outs P p c m).length ≤ 1 := by
      unfold outs
      rw [if_neg k0]
      split
      · exact Nat.le_refl 1
      split
      · split
        · exact Nat.zero_le _
        · exact Nat.le_refl 1
      split
      · split
        · exact Nat.zero_le _
        · exact Nat.le_refl 1
      · exact Nat.le_refl 1
    exact (nfk_dist _ hlt (fun i j hij hj => by omega)).1
theorem lg_le (z : Int) (h1 : 0 ≤ z) (h2 : z < 9223372036854775808) : (lg_cmp (jv z) 0 ≤ 0) ↔ z = 0 := by
  unfold lg_cmp
  rw [j_0]
  by_cases h : z = 0
  · subst h
    simp (config := { decide := true })
  · rw [if_pos (show jv z > jv 0 from (jv_lt (by omega) (by omega) (by omega) (by omega)).mpr (by omega))]
    constructor
    · intro q; exact absurd q (by decide)
    · intro q; exact absurd q h
theorem outC_len {P : Pr} {p c m : Nat} : ∀ v, (outC P p c m v).length ≤ v
  | 0 => Nat.le_refl 0
  | v + 1 => by
    show (outC P p c m v ++ _).length ≤ v + 1
    rw [List.length_append]
    have := outC_len (P := P) (p := p) (c := c) (m := m) v
    split
    · show _ + 0 ≤ _; omega
    · show _ + 1 ≤ _; omega
theorem mb_le {P : Pr} {p v c m : Nat} (hw : Wf P) : mb P p v c m ≤ m * 60 := by
  have q5 := hw.2.2.2.2.1 (pE P p) v
  have tl := tv_le (c := c) (hw.2.1 p).2.2.1
  unfold mb
  split
  · exact Nat.le_trans (Nat.div_le_self _ _) (Nat.mul_le_mul_left m q5)
  split
  · split <;> omega
  split
  · exact Nat.mul_le_mul_left m (by omega)
  · omega
theorem outC_pre {P : Pr} {p c m : Nat} {a : Nat × Nat} : ∀ (d v i : Nat), (outC P p c m v)[i]? = some a → (outC P p c m (v + d))[i]? = some a
  | 0, v, i, h => h
  | d + 1, v, i, h => by
    have := outC_pre d v i h
    show (outC P p c m (v + d) ++ _)[i]? = some a
    rw [List.getElem?_append_left (List.getElem?_eq_some_iff.mp this).1]
    exact this
theorem nb_loop {P : Pr} {L : Ld} {S : St} {fs : Nat → Nat} {p q c m : Nat} (hw : Wf P) (hR : RC P S) (hF : RCF fs P L S) (hp : p < pN P) (hq : q ≤ pN P) (hc : c < 1000000) (hm : m * 60 < 9223372036854775808) (hsr : srt (lLs L q)) (hcd : ∀ q c' m', (c', m') ∈ lLs L q → c' < 1000000) : ∀ (j v fuel : Nat), j + v = wys P p → j < fuel → lp_X1_newBehind_35 (iv (p : Int)) (iv (q : Int)) (iv (hx c)) (jv m) (iv (wys P p)) fuel (iv (nfk (cdA (co P q (outC P p c m (wys P p)))) (lLs L q) (outC P p c m v).length).1) (iv (if (nfk (cdA (co P q (outC P p c m (wys P p)))) (lLs L q) (outC P p c m v).length).2 = 1000000 then -5 else ((hx (nfk (cdA (co P q (outC P p c m (wys P p)))) (lLs L q) (outC P p c m v).length).2 : Nat) : Int))) (iv (v : Int)) S = some (iv (nfk (cdA (co P q (outC P p c m (wys P p)))) (lLs L q) (outC P p c m (wys P p)).length).1, S) := by
  have q1 := hw.1
  have hwy : wys P p ≤ 10 := by unfold wys; split <;> omega
  have hlt : ∀ v, v ≤ 10 → ∀ c' m', (c', m') ∈ outC P p c m v → c' < 1000000 := by
    intro v
    induction v with
    | zero => intro _ c' m' h; cases h
    | succ v ih =>
      intro hv c' m' h
      have h : (c', m') ∈ outC P p c m v ++ if mb P p v c m = 0 then [] else [(hb P p v c, mb P p v c m)] := h
      rcases List.mem_append.mp h with h | h
      · exact ih (by omega) c' m' h
      · split at h
        · cases h
        · cases List.mem_singleton.mp h
          exact hb_lt hw hc (by omega)
  have s2 : ∀ k, k ≤ (outC P p c m (wys P p)).length → (nfk (cdA (co P q (outC P p c m (wys P p)))) (lLs L q) k).2 ≤ 1000000 ∧ (nfk (cdA (co P q (outC P p c m (wys P p)))) (lLs L q) k).1 ≤ k := by
    intro k
    induction k with
    | zero => intro _; exact ⟨Nat.le_refl _, Nat.le_refl _⟩
    | succ k ih =>
      intro hk
      obtain ⟨i1, i2⟩ := ih (by omega)
      have hb : (outC P p c m (wys P p))[k]? = some ((outC P p c m (wys P p))[k]'(by omega)) := List.getElem?_eq_getElem (by omega)
      generalize (outC P p c m (wys P p))[k]'(by omega) = a at hb
      obtain ⟨c', m'⟩ := a
      have := ct_lt (L := LV P q) (hlt _ hwy c' m' (List.mem_of_getElem? hb))
      show (if _ then _ else _ : Nat × Nat).2 ≤ _ ∧ (if _ then _ else _ : Nat × Nat).1 ≤ _
      split
      · exact ⟨i1, by omega⟩
      split
      · refine ⟨?_, by show _ + 1 ≤ k + 1; omega⟩
        show cdA _ k ≤ _
        rw [cdA_co hb]; omega
      · exact ⟨i1, by omega⟩
  intro j
  induction j with
  | zero =>
    intro v fuel hv hf
    obtain ⟨n, rfl⟩ : ∃ k, fuel = k + 1 := ⟨fuel - 1, by omega⟩
    obtain rfl : v = wys P p := by omega
    rw [lp_X1_newBehind_35]
    simp (disch := omega) only [iv_le, leT, ↓reduceIte]
  | succ j ih =>
    intro v fuel hv hf
    obtain ⟨n, rfl⟩ : ∃ k, fuel = k + 1 := ⟨fuel - 1, by omega⟩
    have em := e_mb (v := v) hw hR hp hc (by omega) hm
    have eh := e_hb (v := v) hw hR hp hc (by omega)
    have hbl := hb_lt (p := p) (v := v) hw hc (by omega)
    have hml := mb_le (p := p) (v := v) (c := c) (m := m) hw
    have x4 := hF.2.2.2.1 q hq
    have ih := ih (v + 1) n (by omega) (by omega)
    have hoS : outC P p c m (v + 1) = outC P p c m v ++ if mb P p v c m = 0 then [] else [(hb P p v c, mb P p v c m)] := rfl
    rw [lp_X1_newBehind_35]
    simp (disch := omega) only [nxt_e, i_0, i_1, iv_add, iv_le, leF, ↓reduceIte, em, bnd_s]
    by_cases h0 : mb P p v c m = 0
    · rw [if_pos h0, List.append_nil] at hoS
      rw [hoS] at ih
      rw [← i_0, if_pos ((lg_le _ (by omega) (by omega)).mpr (by omega))]
      exact ih
    · rw [if_neg h0] at hoS
      rw [hoS, List.length_append] at ih
      rw [← i_0, if_neg (fun z => h0 (by have := (lg_le _ (by omega) (by omega)).mp z; omega))]
      have ea : iv (hx (hb P p v c)) &&& iv (mk (LV P q)) = iv (hx (ct (hb P p v c) (LV P q))) := e_and hbl
      have dl := ct_lt (L := LV P q) hbl
      have hxd := @hx_lt (ct (hb P p v c) (LV P q))
      simp (disch := omega) only [eh, bnd_s, iv_in, chk_T, iv_cl, Int.toNat_natCast, x4, ea]
      have hpre : (outC P p c m (wys P p))[(outC P p c m v).length]? = some (hb P p v c, mb P p v c m) := by
        have := outC_pre (P := P) (p := p) (c := c) (m := m) (a := (hb P p v c, mb P p v c m)) (wys P p - (v + 1)) (v + 1) (outC P p c m v).length (by rw [hoS, List.getElem?_append_right (Nat.le_refl _), Nat.sub_self]; rfl)
        rw [show v + 1 + (wys P p - (v + 1)) = wys P p by omega] at this
        exact this
      have hlen := (List.getElem?_eq_some_iff.mp hpre).1
      have hcs : cdA (co P q (outC P p c m (wys P p))) (outC P p c m v).length = ct (hb P p v c) (LV P q) := cdA_co hpre
      obtain ⟨i1, i2⟩ := s2 (outC P p c m v).length (by omega)
      have hn : nfk (cdA (co P q (outC P p c m (wys P p)))) (lLs L q) ((outC P p c m v).length + 1) = if ct (hb P p v c) (LV P q) = (nfk (cdA (co P q (outC P p c m (wys P p)))) (lLs L q) (outC P p c m v).length).2 then nfk (cdA (co P q (outC P p c m (wys P p)))) (lLs L q) (outC P p c m v).length else if hs (ct (hb P p v c) (LV P q)) (lLs L q) = 0 then ((nfk (cdA (co P q (outC P p c m (wys P p)))) (lLs L q) (outC P p c m v).length).1 + 1, ct (hb P p v c) (LV P q)) else nfk (cdA (co P q (outC P p c m (wys P p)))) (lLs L q) (outC P p c m v).length := by
        rw [← hcs]; rfl
      have ih : lp_X1_newBehind_35 (iv (p : Int)) (iv (q : Int)) (iv (hx c)) (jv m) (iv (wys P p)) n (iv (nfk (cdA (co P q (outC P p c m (wys P p)))) (lLs L q) ((outC P p c m v).length + 1)).1) (iv (if (nfk (cdA (co P q (outC P p c m (wys P p)))) (lLs L q) ((outC P p c m v).length + 1)).2 = 1000000 then -5 else ((hx (nfk (cdA (co P q (outC P p c m (wys P p)))) (lLs L q) ((outC P p c m v).length + 1)).2 : Nat) : Int))) (iv ((v : Int) + 1)) S = _ := ih
      rw [hn] at ih
      generalize nfk (cdA (co P q (outC P p c m (wys P p)))) (lLs L q) (outC P p c m v).length = s at ih i1 i2 ⊢
      generalize ct (hb P p v c) (LV P q) = d at ih dl hxd ⊢
      have hxs := @hx_lt s.2
      have ceq : (iv ((hx d : Nat) : Int) = iv (if s.2 = 1000000 then -5 else ((hx s.2 : Nat) : Int))) ↔ d = s.2 := by
        by_cases e : s.2 = 1000000
        · rw [if_pos e, iv_eq (by omega) (by omega) (by omega) (by omega)]
          constructor
          · intro z; omega
          · intro z; omega
        · rw [if_neg e, iv_eq (by omega) (by omega) (by omega) (by omega)]
          have := (hx_cmp dl (show s.2 < 1000000 by omega)).2
          constructor
          · intro z; exact this.mpr (by omega)
          · intro z; rw [this.mp z]
      have hfd := fd_le d (lLs L q)
      have esx := e_seat (c := d) hF (show q ≤ 30 by omega) dl hsr hcd
      obtain ⟨x1q1, x1q2, x1q3⟩ := hF.1 q (by omega)
      have etx := e_thC (S := S) (p := q) (c := d) (l := lLs L q) (f0 := fs q) (by omega) dl x1q2 x1q3 (fun i c' m' hi => ⟨(hF.2.2.1 q i c' m' (by omega) hi).1, hcd q c' m' (List.mem_of_getElem? hi)⟩)
      have hsl := hs_le d (lLs L q)
      by_cases e : d = s.2
      · rw [if_pos (ceq.mpr e)]
        rw [if_pos e] at ih
        exact ih
      · rw [if_neg (fun z => e (ceq.mp z)), esx, bnd_s, etx, bnd_s]
        rw [if_neg e] at ih
        by_cases h1 : hs d (lLs L q) = 0
        · rw [if_pos h1] at ih
          rw [h1, if_pos (show iv ((0 : Nat) : Int) = 0 from rfl)]
          have ih : lp_X1_newBehind_35 _ _ _ _ _ n (iv ((s.1 + 1 : Nat) : Int)) (iv (if d = 1000000 then -5 else ((hx d : Nat) : Int))) _ S = _ := ih
          rw [if_neg (show ¬ d = 1000000 by omega)] at ih
          exact ih
        · rw [if_neg h1] at ih
          rw [show hs d (lLs L q) = 1 by omega, if_neg (show ¬ iv ((1 : Nat) : Int) = 0 by decide)]
          exact ih
theorem e_roomC {P : Pr} {L : Ld} {S : St} {fs : Nat → Nat} {p c m : Nat} (hw : Wf P) (hR : RC P S) (hF : RCF fs P L S) (hL : RCL P L S) (hp : p < pN P) (hm : 0 < m) (hm2 : m * 60 < 9223372036854775808) (hd : pK P p = 0 → 60 ∣ m) (hsr : ∀ q, srt (lLs L q)) (hcd : ∀ q c' m', (c', m') ∈ lLs L q → c' < 1000000) (h0 : (lLs L p)[0]? = some (c, m)) (hfs : fs (npl P p c) = 0) : f_X1_hasRoomBehind (iv (p : Int)) S = some (iv (rmS P L p c m), S) := by
  have q1 := hw.1
  have hcl := hcd p c m (List.mem_of_getElem? h0)
  have hq := npl_le (c := c) hp
  have ehd := e_held hL (show p ≤ 30 by omega) h0
  have ems := e_mass hL (show p ≤ 30 by omega) h0
  have epl := e_plb hw hR hp hcl
  have ew := e_wys hw hR hp
  have hwy : wys P p ≤ 10 := by unfold wys; split <;> omega
  obtain ⟨x1, x2, x3⟩ := hF.1 (npl P p c) (by omega)
  rw [hfs, Nat.zero_add] at x2 x3
  have hnb := nb_loop hw hR hF hp hq.2 hcl hm2 (hsr _) hcd (wys P p) 0 FU (by omega) (by rw [FU_v]; omega)
  rw [outC_eq hm hd] at hnb
  have hfr := nfk_frn (P := P) (q := npl P p c) (p := p) (m := m) (l := lLs L (npl P p c)) hw hcl
  have hol : (outs P p c m).length ≤ wys P p := by rw [← outC_eq hm hd]; exact outC_len _
  have hfl := frn_le (cdA (co P (npl P p c) (outs P p c m))) (lLs L (npl P p c)) (outs P p c m).length
  rw [hfr] at hnb
  have hnB : f_X1_newBehind (iv (p : Int)) (iv (npl P p c)) S = some (iv (frn (cdA (co P (npl P p c) (outs P p c m))) (lLs L (npl P p c)) (outs P p c m).length), S) := by
    unfold f_X1_newBehind
    rw [i_0, ← i0n, ehd, bnd_s, ems, bnd_s, ew, bnd_s, i0n]
    exact hnb
  unfold f_X1_hasRoomBehind rmS
  rw [i_0, ← i0n, ehd, bnd_s, i0n]
  simp (disch := omega) only [epl, bnd_s, i_31, i_200, i_1, nxt_e, iv_lt, ltF, ltT, ↓reduceIte, iv_in, chk_T, iv_cl, Int.toNat_natCast, x2, iv_sub, ew]
  by_cases e : wys P p ≤ 200 - (lLs L (npl P p c)).length
  · simp (disch := omega) only [iv_le, leT, ↓reduceIte]
    rw [if_pos (by omega)]
    rfl
  · simp (disch := omega) only [iv_le, leF, ↓reduceIte, hnB, bnd_s]
    by_cases e2 : (lLs L (npl P p c)).length + frn (cdA (co P (npl P p c) (outs P p c m))) (lLs L (npl P p c)) (outs P p c m).length ≤ 200
    · simp (disch := omega) only [iv_lt, ltF, ↓reduceIte]
      rw [if_pos e2]
      rfl
    · simp (disch := omega) only [iv_lt, ltT, ↓reduceIte]
      rw [if_neg e2]
      rfl
