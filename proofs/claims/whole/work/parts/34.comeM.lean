/-! ===== come: reference ===== -/
section CM
variable {S : St} {p c : Nat} {l : List (Nat × Nat)}
theorem e_found (hp : p ≤ 30) (hc : c < 1000000) (hl : l.length ≤ 200) (hcod : ∀ i c' m', l[i]? = some (c', m') → gA S 11 (200 * p + i) = iv ((c' : Nat) : Int) ∧ c' < 1000000) (hlen : gA S 8 p = iv l.length) : f_X5_found (iv (p : Int)) (iv (c : Int)) S = some (iv (fd c l), S) := by
  have key : ∀ (j i fuel : Nat), j + i = fd c l → j < fuel → lp_X5_found_2 (iv (p : Int)) (iv (c : Int)) fuel (iv (i : Int)) S = some (iv (fd c l), S) := by
    have hfd := fd_le c l
    intro j
    induction j with
    | zero =>
      intro i fuel hi hf
      obtain ⟨n, rfl⟩ : ∃ k, fuel = k + 1 := ⟨fuel - 1, by omega⟩
      rw [lp_X5_found_2]
      by_cases h : l.length ≤ i
      · simp (disch := omega) only [nxt_e, bnd_s, chk_T, chk_nF, ↓reduceIte, i_0, i_1, i_2, i_3, i_4, i_5, i_6, i_8, i_9, i_10, i_15, i_19, i_20, i_30, i_31, i_40, i_60, i_100, i_200, i_1000, i_20000, iv_neg, iv_add, iv_sub, iv_mul, iv_lt, iv_le, iv_eq, iv_cl, iv_in, ltT, ltF, leT, leF, eqT, eqF, gI_e, gI_n, gI_sA, gI_sL, gI_sB, gL_e, gL_n, gL_sI, gL_sA, gL_sB, gA_e, gA_n, gA_sI, gA_sL, gA_sB, gB_e, gB_n, gB_sI, gB_sL, gB_sA, up_e, up_n, uL_e, uL_n, Int.toNat_natCast, hlen]
        rw [show i = fd c l by omega]
      · have hb : l[i]? = some (l[i]'(by omega)) := List.getElem?_eq_getElem (by omega)
        generalize l[i]'(by omega) = a at hb
        obtain ⟨c', m'⟩ := a
        have h1 := fd_at c l (c', m') (by rw [show fd c l = i by omega]; exact hb)
        obtain ⟨h2, h3⟩ := hcod i c' m' hb
        simp (disch := omega) only [nxt_e, bnd_s, chk_T, chk_nF, ↓reduceIte, i_0, i_1, i_2, i_3, i_4, i_5, i_6, i_8, i_9, i_10, i_15, i_19, i_20, i_30, i_31, i_40, i_60, i_100, i_200, i_1000, i_20000, iv_neg, iv_add, iv_sub, iv_mul, iv_lt, iv_le, iv_eq, iv_cl, iv_in, ltT, ltF, leT, leF, eqT, eqF, gI_e, gI_n, gI_sA, gI_sL, gI_sB, gL_e, gL_n, gL_sI, gL_sA, gL_sB, gA_e, gA_n, gA_sI, gA_sL, gA_sB, gB_e, gB_n, gB_sI, gB_sL, gB_sA, up_e, up_n, uL_e, uL_n, Int.toNat_natCast, hlen, show ((200 : Int) * (p : Int) + (i : Int)).toNat = 200 * p + i by omega, h2]
        rw [show i = fd c l by omega]
    | succ j ih =>
      intro i fuel hi hf
      obtain ⟨n, rfl⟩ : ∃ k, fuel = k + 1 := ⟨fuel - 1, by omega⟩
      rw [lp_X5_found_2]
      have hb : l[i]? = some (l[i]'(by omega)) := List.getElem?_eq_getElem (by omega)
      generalize l[i]'(by omega) = a at hb
      obtain ⟨c', m'⟩ := a
      have h1 : c' < c := fd_lt c l i (c', m') (by omega) hb
      obtain ⟨h2, h3⟩ := hcod i c' m' hb
      simp (disch := omega) only [nxt_e, bnd_s, chk_T, chk_nF, ↓reduceIte, i_0, i_1, i_2, i_3, i_4, i_5, i_6, i_8, i_9, i_10, i_15, i_19, i_20, i_30, i_31, i_40, i_60, i_100, i_200, i_1000, i_20000, iv_neg, iv_add, iv_sub, iv_mul, iv_lt, iv_le, iv_eq, iv_cl, iv_in, ltT, ltF, leT, leF, eqT, eqF, gI_e, gI_n, gI_sA, gI_sL, gI_sB, gL_e, gL_n, gL_sI, gL_sA, gL_sB, gA_e, gA_n, gA_sI, gA_sL, gA_sB, gB_e, gB_n, gB_sI, gB_sL, gB_sA, up_e, up_n, uL_e, uL_n, Int.toNat_natCast, hlen, show ((200 : Int) * (p : Int) + (i : Int)).toNat = 200 * p + i by omega, h2]
      exact ih (i + 1) n (by omega) (by omega)
  have hfd := fd_le c l
  exact key (fd c l) 0 FU (by omega) (by rw [FU_v]; omega)
theorem e_there (hp : p ≤ 30) (hc : c < 1000000) (hl : l.length ≤ 200) (hcod : ∀ i c' m', l[i]? = some (c', m') → gA S 11 (200 * p + i) = iv ((c' : Nat) : Int) ∧ c' < 1000000) (hlen : gA S 8 p = iv l.length) : f_X5_isThere (iv (p : Int)) (iv (c : Int)) S = some (iv (hs c l), S) := by
  have hfd := fd_le c l
  have ef := e_found hp hc hl hcod hlen
  unfold f_X5_isThere
  by_cases h : l.length ≤ fd c l
  · simp (disch := omega) only [nxt_e, bnd_s, chk_T, chk_nF, ↓reduceIte, i_0, i_1, i_2, i_3, i_4, i_5, i_6, i_8, i_9, i_10, i_15, i_19, i_20, i_30, i_31, i_40, i_60, i_100, i_200, i_1000, i_20000, iv_neg, iv_add, iv_sub, iv_mul, iv_lt, iv_le, iv_eq, iv_cl, iv_in, ltT, ltF, leT, leF, eqT, eqF, gI_e, gI_n, gI_sA, gI_sL, gI_sB, gL_e, gL_n, gL_sI, gL_sA, gL_sB, gA_e, gA_n, gA_sI, gA_sL, gA_sB, gB_e, gB_n, gB_sI, gB_sL, gB_sA, up_e, up_n, uL_e, uL_n, Int.toNat_natCast, ef, hlen]
    have : hs c l = 0 := by
      unfold hs
      rw [List.getElem?_eq_none h]
    rw [this]
    rfl
  · have hb : l[fd c l]? = some (l[fd c l]'(by omega)) := List.getElem?_eq_getElem (by omega)
    generalize l[fd c l]'(by omega) = a at hb
    obtain ⟨c', m'⟩ := a
    obtain ⟨h2, h3⟩ := hcod _ c' m' hb
    have hh : hs c l = if c' = c then 1 else 0 := by
      unfold hs
      rw [hb]
    by_cases e : c' = c
    · simp (disch := omega) only [nxt_e, bnd_s, chk_T, chk_nF, ↓reduceIte, i_0, i_1, i_2, i_3, i_4, i_5, i_6, i_8, i_9, i_10, i_15, i_19, i_20, i_30, i_31, i_40, i_60, i_100, i_200, i_1000, i_20000, iv_neg, iv_add, iv_sub, iv_mul, iv_lt, iv_le, iv_eq, iv_cl, iv_in, ltT, ltF, leT, leF, eqT, eqF, gI_e, gI_n, gI_sA, gI_sL, gI_sB, gL_e, gL_n, gL_sI, gL_sA, gL_sB, gA_e, gA_n, gA_sI, gA_sL, gA_sB, gB_e, gB_n, gB_sI, gB_sL, gB_sA, up_e, up_n, uL_e, uL_n, Int.toNat_natCast, ef, hlen, show ((200 : Int) * (p : Int) + (fd c l : Int)).toNat = 200 * p + fd c l by omega, h2]
      rw [hh, if_pos e]; rfl
    · simp (disch := omega) only [nxt_e, bnd_s, chk_T, chk_nF, ↓reduceIte, i_0, i_1, i_2, i_3, i_4, i_5, i_6, i_8, i_9, i_10, i_15, i_19, i_20, i_30, i_31, i_40, i_60, i_100, i_200, i_1000, i_20000, iv_neg, iv_add, iv_sub, iv_mul, iv_lt, iv_le, iv_eq, iv_cl, iv_in, ltT, ltF, leT, leF, eqT, eqF, gI_e, gI_n, gI_sA, gI_sL, gI_sB, gL_e, gL_n, gL_sI, gL_sA, gL_sB, gA_e, gA_n, gA_sI, gA_sL, gA_sB, gB_e, gB_n, gB_sI, gB_sL, gB_sA, up_e, up_n, uL_e, uL_n, Int.toNat_natCast, ef, hlen, show ((200 : Int) * (p : Int) + (fd c l : Int)).toNat = 200 * p + fd c l by omega, h2]
      rw [hh, if_neg e]; rfl
theorem sAB (S : St) (j k : Nat) (f : Nat → Int32) (g : Nat → Int64) : sA (sB S k g) j f = sB (sA S j f) k g := rfl
theorem sABAB (S : St) (j k : Nat) (f f1 : Nat → Int32) (g g1 : Nat → Int64) : sB (sA (sB (sA S j f1) k g1) j f) k g = sB (sA S j f) k g := by
  rw [sAB (sA S j f1), sA_sA, sB_sB]
theorem come_loop {m i n0 : Nat} (hp : p ≤ 30) : ∀ (j k fuel : Nat) (S : St), k = i + j → j < fuel → k ≤ 199 → n0 ≤ 199 → gA S 8 p = iv (n0 : Int) → ∃ f g, lp_X5_come_63 (iv (p : Int)) (iv (c : Int)) (jv m) (iv (i : Int)) fuel (iv (k : Int)) S = some ((), sA (sB (sA S 11 f) 12 g) 8 (upd (gA S 8) p (iv ((n0 : Int) + 1)))) ∧ (∀ x, f x = if x = 200 * p + i then iv (c : Int) else if 200 * p + i < x ∧ x ≤ 200 * p + k then gA S 11 (x - 1) else gA S 11 x) ∧ (∀ x, g x = if x = 200 * p + i then jv m else if 200 * p + i < x ∧ x ≤ 200 * p + k then gB S 12 (x - 1) else gB S 12 x) := by
  intro j
  induction j with
  | zero =>
    intro k fuel S hk hf hk2 hn0 hl
    obtain ⟨n, rfl⟩ : ∃ k, fuel = k + 1 := ⟨fuel - 1, by omega⟩
    rw [lp_X5_come_63]
    simp (disch := omega) only [nxt_e, bnd_s, chk_T, chk_nF, ↓reduceIte, i_0, i_1, i_2, i_3, i_4, i_5, i_6, i_8, i_9, i_10, i_15, i_19, i_20, i_30, i_31, i_40, i_60, i_100, i_200, i_1000, i_20000, iv_neg, iv_add, iv_sub, iv_mul, iv_lt, iv_le, iv_eq, iv_cl, iv_in, ltT, ltF, leT, leF, eqT, eqF, gI_e, gI_n, gI_sA, gI_sL, gI_sB, gL_e, gL_n, gL_sI, gL_sA, gL_sB, gA_e, gA_n, gA_sI, gA_sL, gA_sB, gB_e, gB_n, gB_sI, gB_sL, gB_sA, up_e, up_n, uL_e, uL_n, Int.toNat_natCast, hl, show ((200 : Int) * (p : Int) + (i : Int)).toNat = 200 * p + i by omega]
    refine ⟨_, _, rfl, fun x => ?_, fun x => ?_⟩
    · by_cases e : x = 200 * p + i
      · rw [up_e e, if_pos e]
      · rw [up_n e, if_neg e, if_neg (by omega)]
    · by_cases e : x = 200 * p + i
      · rw [uL_e e, if_pos e]
      · rw [uL_n e, if_neg e, if_neg (by omega)]
  | succ j ih =>
    intro k fuel S hk hf hk2 hn0 hl
    obtain ⟨n, rfl⟩ : ∃ k, fuel = k + 1 := ⟨fuel - 1, by omega⟩
    rw [lp_X5_come_63]
    simp (disch := omega) only [nxt_e, bnd_s, chk_T, chk_nF, ↓reduceIte, i_0, i_1, i_2, i_3, i_4, i_5, i_6, i_8, i_9, i_10, i_15, i_19, i_20, i_30, i_31, i_40, i_60, i_100, i_200, i_1000, i_20000, iv_neg, iv_add, iv_sub, iv_mul, iv_lt, iv_le, iv_eq, iv_cl, iv_in, ltT, ltF, leT, leF, eqT, eqF, gI_e, gI_n, gI_sA, gI_sL, gI_sB, gL_e, gL_n, gL_sI, gL_sA, gL_sB, gA_e, gA_n, gA_sI, gA_sL, gA_sB, gB_e, gB_n, gB_sI, gB_sL, gB_sA, up_e, up_n, uL_e, uL_n, Int.toNat_natCast, show ((200 : Int) * (p : Int) + (k : Int)).toNat = 200 * p + k by omega, show ((200 : Int) * (p : Int) + (k : Int) - 1).toNat = 200 * p + k - 1 by omega]
    obtain ⟨f, g, e1, e2, e3⟩ := ih (k - 1) n (sB (sA S 11 (upd (gA S 11) (200 * p + k) (gA S 11 (200 * p + k - 1)))) 12 (vp_updL (gB S 12) (200 * p + k) (gB S 12 (200 * p + k - 1)))) (by omega) (by omega) (by omega) hn0 hl
    rw [sABAB, show ((k - 1 : Nat) : Int) = (k : Int) + -1 by omega] at e1
    refine ⟨f, g, e1, fun x => ?_, fun x => ?_⟩
    · rw [e2 x, gA_sB, gA_e]
      by_cases a : x = 200 * p + i
      · rw [if_pos a, if_pos a]
      · rw [if_neg a, if_neg a]
        by_cases b : x = 200 * p + k
        · rw [if_neg (by omega), if_pos (by omega), up_e b, b]
        · by_cases d : 200 * p + i < x ∧ x ≤ 200 * p + k
          · rw [if_pos (by omega), if_pos d, up_n (by omega)]
          · rw [if_neg (by omega), if_neg d, up_n (by omega)]
    · rw [e3 x, gB_e]
      by_cases a : x = 200 * p + i
      · rw [if_pos a, if_pos a]
      · rw [if_neg a, if_neg a]
        by_cases b : x = 200 * p + k
        · rw [if_neg (by omega), if_pos (by omega), uL_e b, b]
        · by_cases d : 200 * p + i < x ∧ x ≤ 200 * p + k
          · rw [if_pos (by omega), if_pos d, uL_n (by omega)]
          · rw [if_neg (by omega), if_neg d, uL_n (by omega)]
end CM
/-- nothing but the listing's rows has changed -/
def Fl (S S' : St) : Prop := (∀ k, gI S' k = gI S k) ∧ (∀ k, gL S' k = gL S k) ∧ (∀ k, k ≠ 8 → k ≠ 9 → k ≠ 10 → k ≠ 11 → gA S' k = gA S k) ∧ ∀ k, k ≠ 12 → gB S' k = gB S k
theorem Fl.RM {P : Pr} {S S' : St} (h : Fl S S') (hR : RM P S) : RM P S' := by
  obtain ⟨m1, m2, m3, m4, m5, m6, m7, m8, m9, m10⟩ := hR
  obtain ⟨a, b, c, d⟩ := h
  refine ⟨?_, ?_, ?_, ?_, ?_, ?_, ?_, ?_, ?_, ?_⟩
  · rw [a]; exact m1
  · rw [a]; exact m2
  · rw [a]; exact m3
  · rw [c 1 (by decide) (by decide) (by decide) (by decide)]; exact m4
  · rw [c 2 (by decide) (by decide) (by decide) (by decide)]; exact m5
  · rw [c 3 (by decide) (by decide) (by decide) (by decide)]; exact m6
  · rw [c 4 (by decide) (by decide) (by decide) (by decide)]; exact m7
  · rw [c 5 (by decide) (by decide) (by decide) (by decide)]; exact m8
  · rw [c 6 (by decide) (by decide) (by decide) (by decide)]; exact m9
  · rw [c 7 (by decide) (by decide) (by decide) (by decide)]; exact m10
theorem e_comeM {P : Pr} {L : Ld} {S : St} {p c m : Nat} (hR : RML P L S) (hp : p ≤ 30) (hc : c < 1000000) (hlen : ∀ q, (lLs L q).length ≤ 200) (hcd : ∀ q c' m', (c', m') ∈ lLs L q → c' < 1000000) (hroom : hs c (lLs L p) = 1 ∨ (lLs L p).length < 200) : ∃ S', f_X5_come (iv (p : Int)) (iv (c : Int)) (jv m) S = some ((), S') ∧ RML P (cmL L p c m) S' ∧ Fl S S' := by
  obtain ⟨h1, h2, h3, h4, h5, h6, h7⟩ := hR
  have hlp := hlen p
  have hfd := fd_le c (lLs L p)
  have hsl := hs_le c (lLs L p)
  have cod : ∀ S1 : St, gA S1 11 = gA S 11 → ∀ i c' m', (lLs L p)[i]? = some (c', m') → gA S1 11 (200 * p + i) = iv ((c' : Nat) : Int) ∧ c' < 1000000 := fun S1 he i c' m' hi => ⟨by rw [he]; exact (h2 p i c' m' hp hi).1, hcd p c' m' (List.mem_of_getElem? hi)⟩
  have ef : ∀ S1 : St, gA S1 11 = gA S 11 → gA S1 8 = gA S 8 → f_X5_found (iv (p : Int)) (iv (c : Int)) S1 = some (iv (fd c (lLs L p)), S1) := fun S1 he he2 => e_found hp hc hlp (cod S1 he) (by rw [he2]; exact h1 p hp)
  have et : ∀ S1 : St, gA S1 11 = gA S 11 → gA S1 8 = gA S 8 → f_X5_isThere (iv (p : Int)) (iv (c : Int)) S1 = some (iv (hs c (lLs L p)), S1) := fun S1 he he2 => e_there hp hc hlp (cod S1 he) (by rw [he2]; exact h1 p hp)
  have h1p := h1 p hp
  have h3p := h3 p hp
  have h4p := h4 p hp
  unfold f_X5_come
  by_cases hh : hs c (lLs L p) = 1
  · obtain ⟨m', x1, x2⟩ := hs_1 hh
    have hi := (List.getElem?_eq_some_iff.mp x1).1
    obtain ⟨y1, y2⟩ := h2 p _ c m' hp x1
    rw [hh] at et
    simp (disch := omega) only [nxt_e, bnd_s, chk_T, chk_nF, ↓reduceIte, i_0, i_1, i_2, i_3, i_4, i_5, i_6, i_8, i_9, i_10, i_15, i_19, i_20, i_30, i_31, i_40, i_60, i_100, i_200, i_1000, i_20000, iv_neg, iv_add, iv_sub, iv_mul, iv_lt, iv_le, iv_eq, iv_cl, iv_in, ltT, ltF, leT, leF, eqT, eqF, gI_e, gI_n, gI_sA, gI_sL, gI_sB, gL_e, gL_n, gL_sI, gL_sA, gL_sB, gA_e, gA_n, gA_sI, gA_sL, gA_sB, gB_e, gB_n, gB_sI, gB_sL, gB_sA, up_e, up_n, uL_e, uL_n, Int.toNat_natCast]
    rw [ef (sA S 9 (upd (gA S 9) p (gA S 9 p + iv 1))) (gA_n (by decide)) (gA_n (by decide)), bnd_s, et (sA S 9 (upd (gA S 9) p (gA S 9 p + iv 1))) (gA_n (by decide)) (gA_n (by decide)), bnd_s]
    simp (disch := omega) only [nxt_e, bnd_s, chk_T, chk_nF, ↓reduceIte, i_0, i_1, i_2, i_3, i_4, i_5, i_6, i_8, i_9, i_10, i_15, i_19, i_20, i_30, i_31, i_40, i_60, i_100, i_200, i_1000, i_20000, iv_neg, iv_add, iv_sub, iv_mul, iv_lt, iv_le, iv_eq, iv_cl, iv_in, ltT, ltF, leT, leF, eqT, eqF, gI_e, gI_n, gI_sA, gI_sL, gI_sB, gL_e, gL_n, gL_sI, gL_sA, gL_sB, gA_e, gA_n, gA_sI, gA_sL, gA_sB, gB_e, gB_n, gB_sI, gB_sL, gB_sA, up_e, up_n, uL_e, uL_n, Int.toNat_natCast, h3p, h4p, show ((200 : Int) * (p : Int) + (fd c (lLs L p) : Int)).toNat = 200 * p + fd c (lLs L p) by omega, y2, jv_add]
    refine ⟨_, rfl, ⟨?_, ?_, ?_, ?_, h5, h6, ?_⟩, ⟨fun _ => rfl, fun _ => rfl, fun k a b d e => ?_, fun k a => ?_⟩⟩
    · intro q hq
      simp (disch := omega) only [gI_e, gI_n, gI_sA, gI_sL, gI_sB, gL_e, gL_n, gL_sI, gL_sA, gL_sB, gA_e, gA_n, gA_sI, gA_sL, gA_sB, gB_e, gB_n, gB_sI, gB_sL, gB_sA, up_e, up_n, uL_e, uL_n]
      show gA S 8 q = iv ((va_up (lLs L) p (ins c m (lLs L p)) q).length : Int)
      by_cases e : q = p
      · rw [vup_e e, ins_len, hh, e]; exact h1 p hp
      · rw [vup_n e]; exact h1 q hq
    · intro q i c' m'' hq hi'
      simp (disch := omega) only [gI_e, gI_n, gI_sA, gI_sL, gI_sB, gL_e, gL_n, gL_sI, gL_sA, gL_sB, gA_e, gA_n, gA_sI, gA_sL, gA_sB, gB_e, gB_n, gB_sI, gB_sL, gB_sA, up_e, up_n, uL_e, uL_n]
      have hi' : (va_up (lLs L) p (ins c m (lLs L p)) q)[i]? = some (c', m'') := hi'
      by_cases e : q = p
      · rw [vup_e e, ins_get1 hh] at hi'
        subst e
        by_cases e2 : i = fd c (lLs L q)
        · rw [if_pos e2] at hi'
          cases hi'
          rw [uL_e (by omega), e2, x2]
          exact ⟨y1, by rw [Int.natCast_add]⟩
        · rw [if_neg e2] at hi'
          rw [uL_n (by omega)]
          exact h2 q i c' m'' hq hi'
      · rw [vup_n e] at hi'
        have hi2 := (List.getElem?_eq_some_iff.mp hi').1
        have := hlen q
        rw [uL_n (by omega)]
        exact h2 q i c' m'' hq hi'
    · intro q hq
      simp (disch := omega) only [gI_e, gI_n, gI_sA, gI_sL, gI_sB, gL_e, gL_n, gL_sI, gL_sA, gL_sB, gA_e, gA_n, gA_sI, gA_sL, gA_sB, gB_e, gB_n, gB_sI, gB_sL, gB_sA, up_e, up_n, uL_e, uL_n]
      show _ = iv ((va_up (lCm L) p (lCm L p + 1) q : Nat) : Int)
      by_cases e : q = p
      · rw [up_e e, vup_e e]; rfl
      · rw [up_n e, vup_n e]; exact h3 q hq
    · intro q hq
      simp (disch := omega) only [gI_e, gI_n, gI_sA, gI_sL, gI_sB, gL_e, gL_n, gL_sI, gL_sA, gL_sB, gA_e, gA_n, gA_sI, gA_sL, gA_sB, gB_e, gB_n, gB_sI, gB_sL, gB_sA, up_e, up_n, uL_e, uL_n]
      show _ = iv ((va_up (lJn L) p (lJn L p + hs c (lLs L p)) q : Nat) : Int)
      by_cases e : q = p
      · rw [up_e e, vup_e e, hh]; rfl
      · rw [up_n e, vup_n e]; exact h4 q hq
    · simp (disch := omega) only [gI_e, gI_n, gI_sA, gI_sL, gI_sB, gL_e, gL_n, gL_sI, gL_sA, gL_sB, gA_e, gA_n, gA_sI, gA_sL, gA_sB, gB_e, gB_n, gB_sI, gB_sL, gB_sA, up_e, up_n, uL_e, uL_n]; exact h7
    · simp (disch := omega) only [gI_e, gI_n, gI_sA, gI_sL, gI_sB, gL_e, gL_n, gL_sI, gL_sA, gL_sB, gA_e, gA_n, gA_sI, gA_sL, gA_sB, gB_e, gB_n, gB_sI, gB_sL, gB_sA, up_e, up_n, uL_e, uL_n]
    · simp (disch := omega) only [gI_e, gI_n, gI_sA, gI_sL, gI_sB, gL_e, gL_n, gL_sI, gL_sA, gL_sB, gA_e, gA_n, gA_sI, gA_sL, gA_sB, gB_e, gB_n, gB_sI, gB_sL, gB_sA, up_e, up_n, uL_e, uL_n]
  · have hr : (lLs L p).length < 200 := by omega
    have h0 : hs c (lLs L p) = 0 := by omega
    rw [h0] at et
    simp (disch := omega) only [nxt_e, bnd_s, chk_T, chk_nF, ↓reduceIte, i_0, i_1, i_2, i_3, i_4, i_5, i_6, i_8, i_9, i_10, i_15, i_19, i_20, i_30, i_31, i_40, i_60, i_100, i_200, i_1000, i_20000, iv_neg, iv_add, iv_sub, iv_mul, iv_lt, iv_le, iv_eq, iv_cl, iv_in, ltT, ltF, leT, leF, eqT, eqF, gI_e, gI_n, gI_sA, gI_sL, gI_sB, gL_e, gL_n, gL_sI, gL_sA, gL_sB, gA_e, gA_n, gA_sI, gA_sL, gA_sB, gB_e, gB_n, gB_sI, gB_sL, gB_sA, up_e, up_n, uL_e, uL_n, Int.toNat_natCast]
    rw [ef (sA S 9 (upd (gA S 9) p (gA S 9 p + iv 1))) (gA_n (by decide)) (gA_n (by decide)), bnd_s, et (sA S 9 (upd (gA S 9) p (gA S 9 p + iv 1))) (gA_n (by decide)) (gA_n (by decide)), bnd_s]
    simp (disch := omega) only [nxt_e, bnd_s, chk_T, chk_nF, ↓reduceIte, i_0, i_1, i_2, i_3, i_4, i_5, i_6, i_8, i_9, i_10, i_15, i_19, i_20, i_30, i_31, i_40, i_60, i_100, i_200, i_1000, i_20000, iv_neg, iv_add, iv_sub, iv_mul, iv_lt, iv_le, iv_eq, iv_cl, iv_in, ltT, ltF, leT, leF, eqT, eqF, gI_e, gI_n, gI_sA, gI_sL, gI_sB, gL_e, gL_n, gL_sI, gL_sA, gL_sB, gA_e, gA_n, gA_sI, gA_sL, gA_sB, gB_e, gB_n, gB_sI, gB_sL, gB_sA, up_e, up_n, uL_e, uL_n, Int.toNat_natCast, h3p, h1p, nxt_e]
    obtain ⟨f, g, e1, e2, e3⟩ := come_loop (c := c) (m := m) (i := fd c (lLs L p)) (n0 := (lLs L p).length) hp ((lLs L p).length - fd c (lLs L p)) (lLs L p).length FU (sA S 9 (upd (gA S 9) p (iv ((lCm L p : Int) + 1)))) (by omega) (by rw [FU_v]; omega) (by omega) (by omega) h1p
    rw [e1]
    have e2 : ∀ x, f x = if x = 200 * p + fd c (lLs L p) then iv (c : Int) else if 200 * p + fd c (lLs L p) < x ∧ x ≤ 200 * p + (lLs L p).length then gA S 11 (x - 1) else gA S 11 x := e2
    have e3 : ∀ x, g x = if x = 200 * p + fd c (lLs L p) then jv m else if 200 * p + fd c (lLs L p) < x ∧ x ≤ 200 * p + (lLs L p).length then gB S 12 (x - 1) else gB S 12 x := e3
    refine ⟨_, rfl, ⟨?_, ?_, ?_, ?_, h5, h6, ?_⟩, ⟨fun _ => rfl, fun _ => rfl, fun k a b d e => ?_, fun k a => ?_⟩⟩
    · intro q hq
      simp (disch := omega) only [gI_e, gI_n, gI_sA, gI_sL, gI_sB, gL_e, gL_n, gL_sI, gL_sA, gL_sB, gA_e, gA_n, gA_sI, gA_sL, gA_sB, gB_e, gB_n, gB_sI, gB_sL, gB_sA, up_e, up_n, uL_e, uL_n]
      show _ = iv ((va_up (lLs L) p (ins c m (lLs L p)) q).length : Int)
      by_cases e : q = p
      · rw [up_e e, vup_e e, ins_len, h0]; rfl
      · rw [up_n e, vup_n e]; exact h1 q hq
    · intro q i c' m'' hq hi'
      simp (disch := omega) only [gI_e, gI_n, gI_sA, gI_sL, gI_sB, gL_e, gL_n, gL_sI, gL_sA, gL_sB, gA_e, gA_n, gA_sI, gA_sL, gA_sB, gB_e, gB_n, gB_sI, gB_sL, gB_sA, up_e, up_n, uL_e, uL_n]
      rw [e2, e3]
      have hi' : (va_up (lLs L) p (ins c m (lLs L p)) q)[i]? = some (c', m'') := hi'
      by_cases e : q = p
      · rw [vup_e e, ins_get0 hh] at hi'
        subst e
        by_cases a : i < fd c (lLs L q)
        · rw [if_pos a] at hi'
          rw [if_neg (by omega), if_neg (by omega), if_neg (by omega), if_neg (by omega)]
          exact h2 q i c' m'' hq hi'
        · rw [if_neg a] at hi'
          by_cases b : i = fd c (lLs L q)
          · rw [if_pos b] at hi'
            cases hi'
            rw [if_pos (by omega), if_pos (by omega)]
            exact ⟨rfl, rfl⟩
          · rw [if_neg b] at hi'
            have hi2 := (List.getElem?_eq_some_iff.mp hi').1
            rw [if_neg (by omega), if_pos (by omega), if_neg (by omega), if_pos (by omega)]
            have := h2 q (i - 1) c' m'' hq hi'
            rw [show 200 * q + i - 1 = 200 * q + (i - 1) by omega]
            exact this
      · rw [vup_n e] at hi'
        have hi2 := (List.getElem?_eq_some_iff.mp hi').1
        have := hlen q
        rw [if_neg (by omega), if_neg (by omega), if_neg (by omega), if_neg (by omega)]
        exact h2 q i c' m'' hq hi'
    · intro q hq
      simp (disch := omega) only [gI_e, gI_n, gI_sA, gI_sL, gI_sB, gL_e, gL_n, gL_sI, gL_sA, gL_sB, gA_e, gA_n, gA_sI, gA_sL, gA_sB, gB_e, gB_n, gB_sI, gB_sL, gB_sA, up_e, up_n, uL_e, uL_n]
      show _ = iv ((va_up (lCm L) p (lCm L p + 1) q : Nat) : Int)
      by_cases e : q = p
      · rw [up_e e, vup_e e]; rfl
      · rw [up_n e, vup_n e]; exact h3 q hq
    · intro q hq
      simp (disch := omega) only [gI_e, gI_n, gI_sA, gI_sL, gI_sB, gL_e, gL_n, gL_sI, gL_sA, gL_sB, gA_e, gA_n, gA_sI, gA_sL, gA_sB, gB_e, gB_n, gB_sI, gB_sL, gB_sA, up_e, up_n, uL_e, uL_n]
      show _ = iv ((va_up (lJn L) p (lJn L p + hs c (lLs L p)) q : Nat) : Int)
      by_cases e : q = p
      · rw [vup_e e, h0, e]; exact h4 p hp
      · rw [vup_n e]; exact h4 q hq
    · simp (disch := omega) only [gI_e, gI_n, gI_sA, gI_sL, gI_sB, gL_e, gL_n, gL_sI, gL_sA, gL_sB, gA_e, gA_n, gA_sI, gA_sL, gA_sB, gB_e, gB_n, gB_sI, gB_sL, gB_sA, up_e, up_n, uL_e, uL_n]; exact h7
    · simp (disch := omega) only [gI_e, gI_n, gI_sA, gI_sL, gI_sB, gL_e, gL_n, gL_sI, gL_sA, gL_sB, gA_e, gA_n, gA_sI, gA_sL, gA_sB, gB_e, gB_n, gB_sI, gB_sL, gB_sA, up_e, up_n, uL_e, uL_n]
    · simp (disch := omega) only [gI_e, gI_n, gI_sA, gI_sL, gI_sB, gL_e, gL_n, gL_sI, gL_sA, gL_sB, gA_e, gA_n, gA_sI, gA_sL, gA_sB, gB_e, gB_n, gB_sI, gB_sL, gB_sA, up_e, up_n, uL_e, uL_n]
