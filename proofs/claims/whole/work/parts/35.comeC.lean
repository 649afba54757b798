/-! ===== come: class ===== -/
def RCF (fs : Nat → Nat) (P : Pr) (L : Ld) (S : St) : Prop := (∀ p : Nat, p ≤ 30 → gA S 13 p = iv (fs p) ∧ gA S 14 p = iv ((fs p + (lLs L p).length : Nat) : Int) ∧ fs p + (lLs L p).length ≤ 200) ∧ (∀ p : Nat, p ≤ 30 → gA S 15 p = iv (lCm L p) ∧ gA S 16 p = iv (lJn L p)) ∧ (∀ p i c m : Nat, p ≤ 30 → (lLs L p)[i]? = some (c, m) → gA S (23 + p) (fs p + i) = iv (hx c) ∧ gB S (54 + p) (fs p + i) = jv m) ∧ (∀ p : Nat, p ≤ pN P → gA S 17 p = iv (mk (LV P p))) ∧ gL S 109 = jv (lLo L) ∧ gI S 110 = iv (lWk L)
theorem RCL_of {fs : Nat → Nat} {P : Pr} {L : Ld} {S : St} (h : RCF fs P L S) (hz : ∀ p q : Nat, q < p → fs p ≠ 0 → lLs L q = []) : RCL P L S := by
  obtain ⟨a, b, c, d, e, f⟩ := h
  exact ⟨fs, a, b, c, d, e, f, hz⟩
theorem RCL_to {P : Pr} {L : Ld} {S : St} (h : RCL P L S) : ∃ fs, RCF fs P L S ∧ ∀ p q : Nat, q < p → fs p ≠ 0 → lLs L q = [] := by
  obtain ⟨fs, a, b, c, d, e, f, g⟩ := h
  exact ⟨fs, ⟨a, b, c, d, e, f⟩, g⟩
theorem e_half {n : Nat} (hn : n < 2147483648) : iv (n : Int) >>> (iv 1 &&& iv 31) = iv ((n / 2 : Nat) : Int) := by
  have h : ((iv 1 &&& iv 31).toBitVec.smod 32).toNat = 1 := by decide +kernel
  rw [← iv_nI, pk_shrN hn _ _ h, iv_nI, Nat.pow_one]
section CC
variable {P : Pr} {L : Ld} {S : St} {fs : Nat → Nat} {p c : Nat}
theorem seat_loop {l : List (Nat × Nat)} {f0 : Nat} (hp : p ≤ 30) (hc : c < 1000000) (hl : srt l) (h200 : f0 + l.length ≤ 200) (hcod : ∀ i c' m', l[i]? = some (c', m') → gA S (23 + p) (f0 + i) = iv ((hx c' : Nat) : Int) ∧ c' < 1000000) : ∀ (j lo hi t fuel : Nat), hi - lo ≤ j → j < fuel → f0 ≤ lo → lo ≤ hi → hi ≤ f0 + l.length → hi - lo + t ≤ 200 → (∀ i a, f0 + i < lo → l[i]? = some a → a.1 < c) → (∀ i a, hi ≤ f0 + i → l[i]? = some a → c ≤ a.1) → lp_X1_seat_18 (iv (p : Int)) (iv (hx c)) fuel (iv (lo : Int)) (iv (hi : Int)) (iv (t : Int)) S = some (iv ((f0 + fd c l : Nat) : Int), S) := by
  have fin : ∀ lo : Nat, f0 ≤ lo → lo ≤ f0 + l.length → (∀ i a, f0 + i < lo → l[i]? = some a → a.1 < c) → (∀ i a, lo ≤ f0 + i → l[i]? = some a → c ≤ a.1) → lo = f0 + fd c l := by
    intro lo h1 h2 h3 h4
    have := fd_uniq (c := c) hl (k := lo - f0) (by omega) (fun i a hi ha => h3 i a (by omega) ha) (fun i a hi ha => h4 i a (by omega) ha)
    omega
  have hxc := @hx_lt c
  intro j
  induction j with
  | zero =>
    intro lo hi t fuel hj hf h1 h2 h3 h4 h5 h6
    obtain ⟨n, rfl⟩ : ∃ k, fuel = k + 1 := ⟨fuel - 1, by omega⟩
    have e := fin lo h1 (by omega) h5 (fun i a q => h6 i a (by omega))
    rw [lp_X1_seat_18]
    by_cases ht : 200 ≤ t
    · simp (disch := omega) only [nxt_e, bnd_s, chk_T, chk_nF, ↓reduceIte, i_0, i_1, i_2, i_3, i_4, i_5, i_6, i_8, i_9, i_10, i_15, i_19, i_20, i_30, i_31, i_40, i_60, i_100, i_200, i_1000, i_20000, iv_neg, iv_add, iv_sub, iv_mul, iv_lt, iv_le, iv_eq, iv_cl, iv_in, ltT, ltF, leT, leF, eqT, eqF, gI_e, gI_n, gI_sA, gI_sL, gI_sB, gL_e, gL_n, gL_sI, gL_sA, gL_sB, gA_e, gA_n, gA_sI, gA_sL, gA_sB, gB_e, gB_n, gB_sI, gB_sL, gB_sA, up_e, up_n, uL_e, uL_n]
      rw [← e]
    · simp (disch := omega) only [nxt_e, bnd_s, chk_T, chk_nF, ↓reduceIte, i_0, i_1, i_2, i_3, i_4, i_5, i_6, i_8, i_9, i_10, i_15, i_19, i_20, i_30, i_31, i_40, i_60, i_100, i_200, i_1000, i_20000, iv_neg, iv_add, iv_sub, iv_mul, iv_lt, iv_le, iv_eq, iv_cl, iv_in, ltT, ltF, leT, leF, eqT, eqF, gI_e, gI_n, gI_sA, gI_sL, gI_sB, gL_e, gL_n, gL_sI, gL_sA, gL_sB, gA_e, gA_n, gA_sI, gA_sL, gA_sB, gB_e, gB_n, gB_sI, gB_sL, gB_sA, up_e, up_n, uL_e, uL_n]
      rw [← e]
  | succ j ih =>
    intro lo hi t fuel hj hf h1 h2 h3 h4 h5 h6
    obtain ⟨n, rfl⟩ : ∃ k, fuel = k + 1 := ⟨fuel - 1, by omega⟩
    rw [lp_X1_seat_18]
    by_cases hlt : lo < hi
    · have hmid : (lo + hi) / 2 - f0 < l.length := by omega
      have hb : l[(lo + hi) / 2 - f0]? = some (l[(lo + hi) / 2 - f0]'hmid) := List.getElem?_eq_getElem hmid
      generalize l[(lo + hi) / 2 - f0]'hmid = a at hb
      obtain ⟨c', m'⟩ := a
      obtain ⟨y1, y2⟩ := hcod _ c' m' hb
      rw [show f0 + ((lo + hi) / 2 - f0) = (lo + hi) / 2 by omega] at y1
      have hx' := @hx_lt c'
      have cmp := hx_cmp y2 hc
      simp (disch := omega) only [nxt_e, i_200, i_1, i_31, iv_add, iv_le, leF, ↓reduceIte]
      rw [show ((lo : Int) + (hi : Int)) = ((lo + hi : Nat) : Int) from (Int.natCast_add _ _).symm, e_half (by omega)]
      simp (disch := omega) only [nxt_e, bnd_s, chk_T, chk_nF, ↓reduceIte, i_0, i_1, i_2, i_3, i_4, i_5, i_6, i_8, i_9, i_10, i_15, i_19, i_20, i_30, i_31, i_40, i_60, i_100, i_200, i_1000, i_20000, iv_neg, iv_add, iv_sub, iv_mul, iv_lt, iv_le, iv_eq, iv_cl, iv_in, ltT, ltF, leT, leF, eqT, eqF, gI_e, gI_n, gI_sA, gI_sL, gI_sB, gL_e, gL_n, gL_sI, gL_sA, gL_sB, gA_e, gA_n, gA_sI, gA_sL, gA_sB, gB_e, gB_n, gB_sI, gB_sL, gB_sA, up_e, up_n, uL_e, uL_n, Int.toNat_natCast, y1]
      by_cases q : c ≤ c'
      · have q2 : hx c ≤ hx c' := by
          rcases Nat.lt_or_ge (hx c') (hx c) with z | z
          · have := cmp.1.mpr z; omega
          · exact z
        simp (disch := omega) only [nxt_e, bnd_s, chk_T, chk_nF, ↓reduceIte, i_0, i_1, i_2, i_3, i_4, i_5, i_6, i_8, i_9, i_10, i_15, i_19, i_20, i_30, i_31, i_40, i_60, i_100, i_200, i_1000, i_20000, iv_neg, iv_add, iv_sub, iv_mul, iv_lt, iv_le, iv_eq, iv_cl, iv_in, ltT, ltF, leT, leF, eqT, eqF, gI_e, gI_n, gI_sA, gI_sL, gI_sB, gL_e, gL_n, gL_sI, gL_sA, gL_sB, gA_e, gA_n, gA_sI, gA_sL, gA_sB, gB_e, gB_n, gB_sI, gB_sL, gB_sA, up_e, up_n, uL_e, uL_n]
        refine ih lo ((lo + hi) / 2) (t + 1) n (by omega) (by omega) h1 (by omega) (by omega) (by omega) h5 (fun i a hi' ha => ?_)
        rcases Nat.eq_or_lt_of_le (show (lo + hi) / 2 - f0 ≤ i by omega) with z | z
        · rw [← z, hb] at ha
          cases ha
          exact q
        · have := srt_get hl z hb ha
          have this : c' < a.1 := this
          omega
      · have q2 : hx c' < hx c := cmp.1.mp (by omega)
        simp (disch := omega) only [nxt_e, bnd_s, chk_T, chk_nF, ↓reduceIte, i_0, i_1, i_2, i_3, i_4, i_5, i_6, i_8, i_9, i_10, i_15, i_19, i_20, i_30, i_31, i_40, i_60, i_100, i_200, i_1000, i_20000, iv_neg, iv_add, iv_sub, iv_mul, iv_lt, iv_le, iv_eq, iv_cl, iv_in, ltT, ltF, leT, leF, eqT, eqF, gI_e, gI_n, gI_sA, gI_sL, gI_sB, gL_e, gL_n, gL_sI, gL_sA, gL_sB, gA_e, gA_n, gA_sI, gA_sL, gA_sB, gB_e, gB_n, gB_sI, gB_sL, gB_sA, up_e, up_n, uL_e, uL_n]
        refine ih ((lo + hi) / 2 + 1) hi (t + 1) n (by omega) (by omega) (by omega) (by omega) h3 (by omega) (fun i a hi' ha => ?_) h6
        rcases Nat.eq_or_lt_of_le (show i ≤ (lo + hi) / 2 - f0 by omega) with z | z
        · rw [z, hb] at ha
          cases ha
          show c' < c
          omega
        · have := srt_get hl z ha hb
          have this : a.1 < c' := this
          omega
    · have e := fin lo h1 (by omega) h5 (fun i a q => h6 i a (by omega))
      by_cases ht : 200 ≤ t
      · simp (disch := omega) only [nxt_e, bnd_s, chk_T, chk_nF, ↓reduceIte, i_0, i_1, i_2, i_3, i_4, i_5, i_6, i_8, i_9, i_10, i_15, i_19, i_20, i_30, i_31, i_40, i_60, i_100, i_200, i_1000, i_20000, iv_neg, iv_add, iv_sub, iv_mul, iv_lt, iv_le, iv_eq, iv_cl, iv_in, ltT, ltF, leT, leF, eqT, eqF, gI_e, gI_n, gI_sA, gI_sL, gI_sB, gL_e, gL_n, gL_sI, gL_sA, gL_sB, gA_e, gA_n, gA_sI, gA_sL, gA_sB, gB_e, gB_n, gB_sI, gB_sL, gB_sA, up_e, up_n, uL_e, uL_n]
        rw [← e]
      · simp (disch := omega) only [nxt_e, bnd_s, chk_T, chk_nF, ↓reduceIte, i_0, i_1, i_2, i_3, i_4, i_5, i_6, i_8, i_9, i_10, i_15, i_19, i_20, i_30, i_31, i_40, i_60, i_100, i_200, i_1000, i_20000, iv_neg, iv_add, iv_sub, iv_mul, iv_lt, iv_le, iv_eq, iv_cl, iv_in, ltT, ltF, leT, leF, eqT, eqF, gI_e, gI_n, gI_sA, gI_sL, gI_sB, gL_e, gL_n, gL_sI, gL_sA, gL_sB, gA_e, gA_n, gA_sI, gA_sL, gA_sB, gB_e, gB_n, gB_sI, gB_sL, gB_sA, up_e, up_n, uL_e, uL_n]
        rw [← e]
theorem e_seat (hR : RCF fs P L S) (hp : p ≤ 30) (hc : c < 1000000) (hs : srt (lLs L p)) (hcd : ∀ q c' m', (c', m') ∈ lLs L q → c' < 1000000) : f_X1_seat (iv (p : Int)) (iv (hx c)) S = some (iv ((fs p + fd c (lLs L p) : Nat) : Int), S) := by
  obtain ⟨x1, x2, x3, x4, x5, x6⟩ := hR
  obtain ⟨y1, y2, y3⟩ := x1 p hp
  unfold f_X1_seat
  simp (disch := omega) only [nxt_e, bnd_s, chk_T, chk_nF, ↓reduceIte, i_0, i_1, i_2, i_3, i_4, i_5, i_6, i_8, i_9, i_10, i_15, i_19, i_20, i_30, i_31, i_40, i_60, i_100, i_200, i_1000, i_20000, iv_neg, iv_add, iv_sub, iv_mul, iv_lt, iv_le, iv_eq, iv_cl, iv_in, ltT, ltF, leT, leF, eqT, eqF, gI_e, gI_n, gI_sA, gI_sL, gI_sB, gL_e, gL_n, gL_sI, gL_sA, gL_sB, gA_e, gA_n, gA_sI, gA_sL, gA_sB, gB_e, gB_n, gB_sI, gB_sL, gB_sA, up_e, up_n, uL_e, uL_n, Int.toNat_natCast, y1, y2]
  exact seat_loop hp hc hs y3 (fun i c' m' hi => ⟨(x3 p i c' m' hp hi).1, hcd p c' m' (List.mem_of_getElem? hi)⟩) (lLs L p).length (fs p) (fs p + (lLs L p).length) 0 FU (by omega) (by rw [FU_v]; omega) (Nat.le_refl _) (by omega) (Nat.le_refl _) (by omega) (fun i a h => absurd h (by omega)) (fun i a h ha => absurd (List.getElem?_eq_some_iff.mp ha).1 (by omega))
theorem e_thC {l : List (Nat × Nat)} {f0 : Nat} (hp : p ≤ 30) (hc : c < 1000000) (y2 : gA S 14 p = iv ((f0 + l.length : Nat) : Int)) (y3 : f0 + l.length ≤ 200) (hcod : ∀ i c' m', l[i]? = some (c', m') → gA S (23 + p) (f0 + i) = iv ((hx c' : Nat) : Int) ∧ c' < 1000000) : f_X1_isThere (iv (p : Int)) (iv (hx c)) (iv ((f0 + fd c l : Nat) : Int)) S = some (iv (hs c l), S) := by
  have hfd := fd_le c l
  have hxc := @hx_lt c
  unfold f_X1_isThere
  by_cases h : l.length ≤ fd c l
  · simp (disch := omega) only [nxt_e, bnd_s, chk_T, chk_nF, ↓reduceIte, i_0, i_1, i_2, i_3, i_4, i_5, i_6, i_8, i_9, i_10, i_15, i_19, i_20, i_30, i_31, i_40, i_60, i_100, i_200, i_1000, i_20000, iv_neg, iv_add, iv_sub, iv_mul, iv_lt, iv_le, iv_eq, iv_cl, iv_in, ltT, ltF, leT, leF, eqT, eqF, gI_e, gI_n, gI_sA, gI_sL, gI_sB, gL_e, gL_n, gL_sI, gL_sA, gL_sB, gA_e, gA_n, gA_sI, gA_sL, gA_sB, gB_e, gB_n, gB_sI, gB_sL, gB_sA, up_e, up_n, uL_e, uL_n, Int.toNat_natCast, y2]
    have : hs c l = 0 := by
      unfold hs
      rw [List.getElem?_eq_none h]
    rw [this]
    rfl
  · have hb : l[fd c l]? = some (l[fd c l]'(by omega)) := List.getElem?_eq_getElem (by omega)
    generalize l[fd c l]'(by omega) = a at hb
    obtain ⟨c', m'⟩ := a
    obtain ⟨z1, z2⟩ := hcod _ c' m' hb
    have hx' := @hx_lt c'
    have cmp := (hx_cmp z2 hc).2
    have hh : hs c l = if c' = c then 1 else 0 := by
      unfold hs
      rw [hb]
    by_cases e : c' = c
    · subst e
      simp (disch := omega) only [nxt_e, bnd_s, chk_T, chk_nF, ↓reduceIte, i_0, i_1, i_2, i_3, i_4, i_5, i_6, i_8, i_9, i_10, i_15, i_19, i_20, i_30, i_31, i_40, i_60, i_100, i_200, i_1000, i_20000, iv_neg, iv_add, iv_sub, iv_mul, iv_lt, iv_le, iv_eq, iv_cl, iv_in, ltT, ltF, leT, leF, eqT, eqF, gI_e, gI_n, gI_sA, gI_sL, gI_sB, gL_e, gL_n, gL_sI, gL_sA, gL_sB, gA_e, gA_n, gA_sI, gA_sL, gA_sB, gB_e, gB_n, gB_sI, gB_sL, gB_sA, up_e, up_n, uL_e, uL_n, Int.toNat_natCast, y2, z1]
      rw [hh, if_pos rfl]; rfl
    · have e' : ¬ hx c' = hx c := fun q => e (cmp.mpr q)
      simp (disch := omega) only [nxt_e, bnd_s, chk_T, chk_nF, ↓reduceIte, i_0, i_1, i_2, i_3, i_4, i_5, i_6, i_8, i_9, i_10, i_15, i_19, i_20, i_30, i_31, i_40, i_60, i_100, i_200, i_1000, i_20000, iv_neg, iv_add, iv_sub, iv_mul, iv_lt, iv_le, iv_eq, iv_cl, iv_in, ltT, ltF, leT, leF, eqT, eqF, gI_e, gI_n, gI_sA, gI_sL, gI_sB, gL_e, gL_n, gL_sI, gL_sA, gL_sB, gA_e, gA_n, gA_sI, gA_sL, gA_sB, gB_e, gB_n, gB_sI, gB_sL, gB_sA, up_e, up_n, uL_e, uL_n, Int.toNat_natCast, y2, z1]
      rw [hh, if_neg e]; rfl
/-- nothing but the rows of place p has changed -/
def FlC (p : Nat) (S S' : St) : Prop := (∀ k, gI S' k = gI S k) ∧ (∀ k, gL S' k = gL S k) ∧ (∀ k, k ≠ 14 → k ≠ 15 → k ≠ 16 → k ≠ 23 + p → gA S' k = gA S k) ∧ ∀ k, k ≠ 54 + p → gB S' k = gB S k
end CC
theorem FlC.RC {P : Pr} {S S' : St} {p : Nat} (h : FlC p S S') (hR : RC P S) : RC P S' := by
  obtain ⟨m1, m2, m3, m4, m5, m6, m7, m8, m9, m10⟩ := hR
  obtain ⟨a, b, c, d⟩ := h
  refine ⟨?_, ?_, ?_, ?_, ?_, ?_, ?_, ?_, ?_, ?_⟩
  · rw [a]; exact m1
  · rw [a]; exact m2
  · rw [a]; exact m3
  · rw [c 4 (by omega) (by omega) (by omega) (by omega)]; exact m4
  · rw [c 5 (by omega) (by omega) (by omega) (by omega)]; exact m5
  · rw [c 6 (by omega) (by omega) (by omega) (by omega)]; exact m6
  · rw [c 7 (by omega) (by omega) (by omega) (by omega)]; exact m7
  · rw [c 8 (by omega) (by omega) (by omega) (by omega)]; exact m8
  · intro r v hr hv
    rw [c (19 + r) (by omega) (by omega) (by omega) (by omega)]; exact m9 r v hr hv
  · rw [a]; exact m10
theorem RCK_Fl {P : Pr} {S S' : St} {p : Nat} (hp : p ≤ 30) (h : FlC p S S') (hR : RCK P S) : RCK P S' := by
  obtain ⟨a, b, c, d⟩ := h
  unfold RCK at hR ⊢
  rw [a, a, b]
  rcases hR with h | ⟨h, h2⟩
  · exact Or.inl h
  · refine Or.inr ⟨h, ?_⟩
    rcases h2 with ⟨e, f, g, i⟩ | h2
    · exact Or.inl ⟨e, f, g, fun x v hx hv => by rw [d (85 + x) (by omega)]; exact i x v hx hv⟩
    · exact Or.inr h2
theorem cpB_t {a b n : Int} (h1 : 0 ≤ a) (h2 : 0 ≤ b) (h3 : 0 ≤ n) (h4 : a + n ≤ 200) (h5 : b + n ≤ 200) : cpB (iv a) (iv b) (iv n) 200 200 = true := by
  unfold cpB
  rw [iv_cl h1 (by omega), iv_cl h2 (by omega), iv_cl h3 (by omega), i_0]
  simp only [Bool.and_eq_true, decide_eq_true_eq]
  exact ⟨(iv_le (by omega) (by omega) (by omega) (by omega)).mpr h1, (iv_le (by omega) (by omega) (by omega) (by omega)).mpr h2, (iv_le (by omega) (by omega) (by omega) (by omega)).mpr h3, by omega, by omega⟩
theorem cpy_i {α : Type} {f g : Nat → α} {sp dp n k : Nat} (h1 : dp ≤ k) (h2 : k < dp + n) : va_cpy f g sp dp n k = f (sp + (k - dp)) := if_pos ⟨h1, h2⟩
theorem cpy_o {α : Type} {f g : Nat → α} {sp dp n k : Nat} (h : k < dp ∨ dp + n ≤ k) : va_cpy f g sp dp n k = g k := if_neg (by omega)
theorem e_comeC {P : Pr} {L : Ld} {S : St} {fs : Nat → Nat} {p c0 m : Nat} (hR : RCF fs P L S) (hp : p ≤ 30) (hpn : p ≤ pN P) (hc0 : c0 < 1000000) (hsr : srt (lLs L p)) (hcd : ∀ q c' m', (c', m') ∈ lLs L q → c' < 1000000) (hroom : hs (ct c0 (LV P p)) (lLs L p) = 1 ∨ fs p + (lLs L p).length < 200) : ∃ S', f_X1_come (iv (p : Int)) (iv (hx c0)) (jv m) S = some ((), S') ∧ RCF fs P (cmL L p (ct c0 (LV P p)) m) S' ∧ FlC p S S' := by
  have hc : ct c0 (LV P p) < 1000000 := ct_lt hc0
  have es := e_seat hR hp hc hsr hcd
  have hR2 := hR
  obtain ⟨x1, x2, x3, x4, x5, x6⟩ := hR
  obtain ⟨y1, y2, y3⟩ := x1 p hp
  obtain ⟨w1, w2⟩ := x2 p hp
  have x4p := x4 p hpn
  generalize hcc : ct c0 (LV P p) = c at es hc hroom
  have ha : iv (hx c0) &&& iv (mk (LV P p)) = iv (hx c) := by rw [e_and hc0, hcc]
  have hfd := fd_le c (lLs L p)
  have hsl := hs_le c (lLs L p)
  have cod : ∀ i c' m', (lLs L p)[i]? = some (c', m') → gA S (23 + p) (fs p + i) = iv ((hx c' : Nat) : Int) ∧ c' < 1000000 := fun i c' m' hi => ⟨(x3 p i c' m' hp hi).1, hcd p c' m' (List.mem_of_getElem? hi)⟩
  have et : ∀ f : Nat → Int32, f_X1_isThere (iv (p : Int)) (iv (hx c)) (iv ((fs p + fd c (lLs L p) : Nat) : Int)) (sA S 15 f) = some (iv (hs c (lLs L p)), sA S 15 f) := fun f => e_thC hp hc (by rw [gA_n (by decide)]; exact y2) y3 (fun i c' m' hi => by rw [gA_n (by omega)]; exact cod i c' m' hi)
  have oth : ∀ q i c' m'' : Nat, q ≤ 30 → q ≠ p → (va_up (lLs L) p (ins c m (lLs L p)) q)[i]? = some (c', m'') → gA S (23 + q) (fs q + i) = iv (hx c') ∧ gB S (54 + q) (fs q + i) = jv m'' := fun q i c' m'' hq hne hi => x3 q i c' m'' hq (by rw [vup_n hne] at hi; exact hi)
  unfold f_X1_come
  simp (disch := omega) only [nxt_e, bnd_s, chk_T, chk_nF, ↓reduceIte, i_0, i_1, i_2, i_3, i_4, i_5, i_6, i_8, i_9, i_10, i_15, i_19, i_20, i_30, i_31, i_40, i_60, i_100, i_200, i_1000, i_20000, iv_neg, iv_add, iv_sub, iv_mul, iv_lt, iv_le, iv_eq, iv_cl, iv_in, ltT, ltF, leT, leF, eqT, eqF, gI_e, gI_n, gI_sA, gI_sL, gI_sB, gL_e, gL_n, gL_sI, gL_sA, gL_sB, gA_e, gA_n, gA_sI, gA_sL, gA_sB, gB_e, gB_n, gB_sI, gB_sL, gB_sA, up_e, up_n, uL_e, uL_n, Int.toNat_natCast, x4p, ha, es, w1, et]
  by_cases hh : hs c (lLs L p) = 1
  · obtain ⟨m', g1, g2⟩ := hs_1 hh
    have hi := (List.getElem?_eq_some_iff.mp g1).1
    have gB1 := (x3 p _ c m' hp g1).2
    have gA1 := (x3 p _ c m' hp g1).1
    rw [hh]
    simp (disch := omega) only [nxt_e, bnd_s, chk_T, chk_nF, ↓reduceIte, i_0, i_1, i_2, i_3, i_4, i_5, i_6, i_8, i_9, i_10, i_15, i_19, i_20, i_30, i_31, i_40, i_60, i_100, i_200, i_1000, i_20000, iv_neg, iv_add, iv_sub, iv_mul, iv_lt, iv_le, iv_eq, iv_cl, iv_in, ltT, ltF, leT, leF, eqT, eqF, gI_e, gI_n, gI_sA, gI_sL, gI_sB, gL_e, gL_n, gL_sI, gL_sA, gL_sB, gA_e, gA_n, gA_sI, gA_sL, gA_sB, gB_e, gB_n, gB_sI, gB_sL, gB_sA, up_e, up_n, uL_e, uL_n, Int.toNat_natCast, w2, gB1, jv_add]
    refine ⟨_, rfl, ⟨?_, ?_, ?_, ?_, x5, x6⟩, ⟨fun _ => rfl, fun _ => rfl, fun k a b d e => ?_, fun k a => ?_⟩⟩
    · intro q hq
      simp (disch := omega) only [gI_e, gI_n, gI_sA, gI_sL, gI_sB, gL_e, gL_n, gL_sI, gL_sA, gL_sB, gA_e, gA_n, gA_sI, gA_sL, gA_sB, gB_e, gB_n, gB_sI, gB_sL, gB_sA, up_e, up_n, uL_e, uL_n]
      have hl : (lLs (cmL L p c m) q).length = (lLs L q).length := by
        show (va_up (lLs L) p (ins c m (lLs L p)) q).length = _
        by_cases e : q = p
        · rw [vup_e e, ins_len, hh, e]; rfl
        · rw [vup_n e]
      rw [hl]
      exact x1 q hq
    · intro q hq
      simp (disch := omega) only [gI_e, gI_n, gI_sA, gI_sL, gI_sB, gL_e, gL_n, gL_sI, gL_sA, gL_sB, gA_e, gA_n, gA_sI, gA_sL, gA_sB, gB_e, gB_n, gB_sI, gB_sL, gB_sA, up_e, up_n, uL_e, uL_n]
      show _ = iv ((va_up (lCm L) p (lCm L p + 1) q : Nat) : Int) ∧ _ = iv ((va_up (lJn L) p (lJn L p + hs c (lLs L p)) q : Nat) : Int)
      by_cases e : q = p
      · rw [up_e e, up_e e, vup_e e, vup_e e, hh]; exact ⟨rfl, rfl⟩
      · rw [up_n e, up_n e, vup_n e, vup_n e]; exact x2 q hq
    · intro q i c' m'' hq hi'
      have hi' : (va_up (lLs L) p (ins c m (lLs L p)) q)[i]? = some (c', m'') := hi'
      by_cases e : q = p
      · subst e
        simp (disch := omega) only [gI_e, gI_n, gI_sA, gI_sL, gI_sB, gL_e, gL_n, gL_sI, gL_sA, gL_sB, gA_e, gA_n, gA_sI, gA_sL, gA_sB, gB_e, gB_n, gB_sI, gB_sL, gB_sA, up_e, up_n, uL_e, uL_n]
        rw [vup_e rfl, ins_get1 hh] at hi'
        by_cases e2 : i = fd c (lLs L q)
        · rw [if_pos e2] at hi'
          cases hi'
          rw [uL_e (by omega), e2, g2]
          exact ⟨gA1, by rw [Int.natCast_add]⟩
        · rw [if_neg e2] at hi'
          rw [uL_n (by omega)]
          exact x3 q i c' m'' hq hi'
      · simp (disch := omega) only [gI_e, gI_n, gI_sA, gI_sL, gI_sB, gL_e, gL_n, gL_sI, gL_sA, gL_sB, gA_e, gA_n, gA_sI, gA_sL, gA_sB, gB_e, gB_n, gB_sI, gB_sL, gB_sA, up_e, up_n, uL_e, uL_n]
        exact oth q i c' m'' hq e hi'
    · simp (disch := omega) only [gI_e, gI_n, gI_sA, gI_sL, gI_sB, gL_e, gL_n, gL_sI, gL_sA, gL_sB, gA_e, gA_n, gA_sI, gA_sL, gA_sB, gB_e, gB_n, gB_sI, gB_sL, gB_sA, up_e, up_n, uL_e, uL_n]; exact x4
    · simp (disch := omega) only [gI_e, gI_n, gI_sA, gI_sL, gI_sB, gL_e, gL_n, gL_sI, gL_sA, gL_sB, gA_e, gA_n, gA_sI, gA_sL, gA_sB, gB_e, gB_n, gB_sI, gB_sL, gB_sA, up_e, up_n, uL_e, uL_n]
    · simp (disch := omega) only [gI_e, gI_n, gI_sA, gI_sL, gI_sB, gL_e, gL_n, gL_sI, gL_sA, gL_sB, gA_e, gA_n, gA_sI, gA_sL, gA_sB, gB_e, gB_n, gB_sI, gB_sL, gB_sA, up_e, up_n, uL_e, uL_n]
  · have hr : fs p + (lLs L p).length < 200 := by omega
    have h0 : hs c (lLs L p) = 0 := by omega
    rw [h0]
    unfold f_X1_insert
    have cp : cpB (iv ((fs p + fd c (lLs L p) : Nat) : Int)) (iv (((fs p + fd c (lLs L p) : Nat) : Int) + 1)) (iv (((fs p + (lLs L p).length : Nat) : Int) - ((fs p + fd c (lLs L p) : Nat) : Int))) 200 200 = true := cpB_t (by omega) (by omega) (by omega) (by omega) (by omega)
    simp (disch := omega) only [nxt_e, bnd_s, chk_T, chk_nF, ↓reduceIte, i_0, i_1, i_2, i_3, i_4, i_5, i_6, i_8, i_9, i_10, i_15, i_19, i_20, i_30, i_31, i_40, i_60, i_100, i_200, i_1000, i_20000, iv_neg, iv_add, iv_sub, iv_mul, iv_lt, iv_le, iv_eq, iv_cl, iv_in, ltT, ltF, leT, leF, eqT, eqF, gI_e, gI_n, gI_sA, gI_sL, gI_sB, gL_e, gL_n, gL_sI, gL_sA, gL_sB, gA_e, gA_n, gA_sI, gA_sL, gA_sB, gB_e, gB_n, gB_sI, gB_sL, gB_sA, up_e, up_n, uL_e, uL_n, Int.toNat_natCast, y2, cp, show (((fs p + fd c (lLs L p) : Nat) : Int) + 1).toNat = fs p + fd c (lLs L p) + 1 by omega, show (((fs p + (lLs L p).length : Nat) : Int) - ((fs p + fd c (lLs L p) : Nat) : Int)).toNat = (lLs L p).length - fd c (lLs L p) by omega]
    refine ⟨_, rfl, ⟨?_, ?_, ?_, ?_, x5, x6⟩, ⟨fun _ => rfl, fun _ => rfl, fun k a b d e => ?_, fun k a => ?_⟩⟩
    · intro q hq
      simp (disch := omega) only [gI_e, gI_n, gI_sA, gI_sL, gI_sB, gL_e, gL_n, gL_sI, gL_sA, gL_sB, gA_e, gA_n, gA_sI, gA_sL, gA_sB, gB_e, gB_n, gB_sI, gB_sL, gB_sA, up_e, up_n, uL_e, uL_n]
      show gA S 13 q = iv (fs q) ∧ _ = iv ((fs q + (va_up (lLs L) p (ins c m (lLs L p)) q).length : Nat) : Int) ∧ fs q + (va_up (lLs L) p (ins c m (lLs L p)) q).length ≤ 200
      by_cases e : q = p
      · rw [up_e e, vup_e e, ins_len, h0, e]
        exact ⟨y1, by congr 1, by omega⟩
      · rw [up_n e, vup_n e]; exact x1 q hq
    · intro q hq
      simp (disch := omega) only [gI_e, gI_n, gI_sA, gI_sL, gI_sB, gL_e, gL_n, gL_sI, gL_sA, gL_sB, gA_e, gA_n, gA_sI, gA_sL, gA_sB, gB_e, gB_n, gB_sI, gB_sL, gB_sA, up_e, up_n, uL_e, uL_n]
      show _ = iv ((va_up (lCm L) p (lCm L p + 1) q : Nat) : Int) ∧ _ = iv ((va_up (lJn L) p (lJn L p + hs c (lLs L p)) q : Nat) : Int)
      by_cases e : q = p
      · rw [up_e e, vup_e e, vup_e e, h0, e]; exact ⟨rfl, w2⟩
      · rw [up_n e, vup_n e, vup_n e]; exact x2 q hq
    · intro q i c' m'' hq hi'
      have hi' : (va_up (lLs L) p (ins c m (lLs L p)) q)[i]? = some (c', m'') := hi'
      by_cases e : q = p
      · subst e
        simp (disch := omega) only [gI_e, gI_n, gI_sA, gI_sL, gI_sB, gL_e, gL_n, gL_sI, gL_sA, gL_sB, gA_e, gA_n, gA_sI, gA_sL, gA_sB, gB_e, gB_n, gB_sI, gB_sL, gB_sA, up_e, up_n, uL_e, uL_n]
        rw [vup_e rfl, ins_get0 hh] at hi'
        by_cases a : i < fd c (lLs L q)
        · rw [if_pos a] at hi'
          rw [up_n (by omega), uL_n (by omega), cpy_o (by omega), cpy_o (by omega)]
          exact x3 q i c' m'' hq hi'
        · rw [if_neg a] at hi'
          by_cases b : i = fd c (lLs L q)
          · rw [if_pos b] at hi'
            cases hi'
            rw [up_e (by omega), uL_e (by omega)]
            exact ⟨rfl, rfl⟩
          · rw [if_neg b] at hi'
            have hi2 := (List.getElem?_eq_some_iff.mp hi').1
            rw [up_n (by omega), uL_n (by omega), cpy_i (by omega) (by omega), cpy_i (by omega) (by omega)]
            have := x3 q (i - 1) c' m'' hq hi'
            rw [show fs q + fd c (lLs L q) + (fs q + i - (fs q + fd c (lLs L q) + 1)) = fs q + (i - 1) by omega]
            exact this
      · simp (disch := omega) only [gI_e, gI_n, gI_sA, gI_sL, gI_sB, gL_e, gL_n, gL_sI, gL_sA, gL_sB, gA_e, gA_n, gA_sI, gA_sL, gA_sB, gB_e, gB_n, gB_sI, gB_sL, gB_sA, up_e, up_n, uL_e, uL_n]
        exact oth q i c' m'' hq e hi'
    · simp (disch := omega) only [gI_e, gI_n, gI_sA, gI_sL, gI_sB, gL_e, gL_n, gL_sI, gL_sA, gL_sB, gA_e, gA_n, gA_sI, gA_sL, gA_sB, gB_e, gB_n, gB_sI, gB_sL, gB_sA, up_e, up_n, uL_e, uL_n]; exact x4
    · simp (disch := omega) only [gI_e, gI_n, gI_sA, gI_sL, gI_sB, gL_e, gL_n, gL_sI, gL_sA, gL_sB, gA_e, gA_n, gA_sI, gA_sL, gA_sB, gB_e, gB_n, gB_sI, gB_sL, gB_sA, up_e, up_n, uL_e, uL_n]
    · simp (disch := omega) only [gI_e, gI_n, gI_sA, gI_sL, gI_sB, gL_e, gL_n, gL_sI, gL_sA, gL_sB, gA_e, gA_n, gA_sI, gA_sL, gA_sB, gB_e, gB_n, gB_sI, gB_sL, gB_sA, up_e, up_n, uL_e, uL_n]
