/-! ===== every run: reference ===== -/
def Fp (S S' : St) : Prop := (∀ k, k ≠ 20 → k ≠ 21 → k ≠ 25 → gI S' k = gI S k) ∧ (∀ k, k ≠ 22 → k ≠ 29 → gL S' k = gL S k) ∧ (∀ k, k ≠ 14 → k ≠ 16 → k ≠ 17 → gA S' k = gA S k) ∧ ∀ k, k ≠ 15 → k ≠ 18 → gB S' k = gB S k
theorem Fp.rf {S : St} : Fp S S := ⟨fun _ _ _ _ => rfl, fun _ _ _ => rfl, fun _ _ _ _ => rfl, fun _ _ _ => rfl⟩
theorem Fp.tr {S S1 S2 : St} (h : Fp S S1) (g : Fp S1 S2) : Fp S S2 := ⟨fun k a b c => (g.1 k a b c).trans (h.1 k a b c), fun k a b => (g.2.1 k a b).trans (h.2.1 k a b), fun k a b c => (g.2.2.1 k a b c).trans (h.2.2.1 k a b c), fun k a b => (g.2.2.2 k a b).trans (h.2.2.2 k a b)⟩
theorem Fm.Fp {S S' : St} (h : Fm S S') : Fp S S' := ⟨fun k a b _ => h.1 k a b, fun k a _ => h.2.1 k a, fun k a _ _ => h.2.2.1 k a, fun k a _ => h.2.2.2 k a⟩
theorem Fp.RM {P : Pr} {S S' : St} (h : Fp S S') (hR : RM P S) : RM P S' := by
  obtain ⟨m1, m2, m3, m4, m5, m6, m7, m8, m9, m10⟩ := hR
  obtain ⟨a, b, c, d⟩ := h
  refine ⟨?_, ?_, ?_, ?_, ?_, ?_, ?_, ?_, ?_, ?_⟩
  · rw [a 1 (by decide) (by decide) (by decide)]; exact m1
  · rw [a 2 (by decide) (by decide) (by decide)]; exact m2
  · rw [a 3 (by decide) (by decide) (by decide)]; exact m3
  · rw [c 1 (by decide) (by decide) (by decide)]; exact m4
  · rw [c 2 (by decide) (by decide) (by decide)]; exact m5
  · rw [c 3 (by decide) (by decide) (by decide)]; exact m6
  · rw [c 4 (by decide) (by decide) (by decide)]; exact m7
  · rw [c 5 (by decide) (by decide) (by decide)]; exact m8
  · rw [c 6 (by decide) (by decide) (by decide)]; exact m9
  · rw [c 7 (by decide) (by decide) (by decide)]; exact m10
theorem Fp.RML {P : Pr} {L : Ld} {S S' : St} (h : Fp S S') (hR : RML P L S) : RML P L S' := by
  obtain ⟨h1, h2, h3, h4, h5, h6, h7⟩ := hR
  obtain ⟨a, b, c, d⟩ := h
  refine ⟨?_, ?_, ?_, ?_, ?_, ?_, ?_⟩
  · rw [c 8 (by decide) (by decide) (by decide)]; exact h1
  · rw [c 11 (by decide) (by decide) (by decide), d 12 (by decide) (by decide)]; exact h2
  · rw [c 9 (by decide) (by decide) (by decide)]; exact h3
  · rw [c 10 (by decide) (by decide) (by decide)]; exact h4
  · rw [b 13 (by decide) (by decide)]; exact h5
  · rw [a 12 (by decide) (by decide) (by decide)]; exact h6
  · rw [c 13 (by decide) (by decide) (by decide)]; exact h7
/-- the pile, its lowest first -/
def PL (bs : List (Nat × Nat × Nat)) (S : St) : Prop := gI S 25 = iv bs.length ∧ ∀ i p c m : Nat, bs[i]? = some (p, c, m) → gA S 16 i = iv p ∧ gA S 17 i = iv c ∧ gB S 18 i = jv m
theorem e_lay {bs : List (Nat × Nat × Nat)} {S : St} {p c m : Nat} (h : PL bs S) (hl : bs.length < 320) : ∃ S', f_X5_lay (iv (p : Int)) (iv (c : Int)) (jv (m : Int)) S = some ((), S') ∧ PL (bs ++ [(p, c, m)]) S' ∧ Fp S S' ∧ (∀ k, k ≠ 25 → gI S' k = gI S k) ∧ (∀ k, gL S' k = gL S k) ∧ gA S' 14 = gA S 14 ∧ gB S' 15 = gB S 15 := by
  obtain ⟨h1, h2⟩ := h
  unfold f_X5_lay
  simp (disch := omega) only [nxt_e, bnd_s, chk_T, chk_nF, ↓reduceIte, i_0, i_1, i_2, i_3, i_4, i_5, i_6, i_8, i_9, i_10, i_15, i_19, i_20, i_30, i_31, i_40, i_60, i_100, i_200, i_1000, i_20000, iv_neg, iv_add, iv_sub, iv_mul, iv_lt, iv_le, iv_eq, iv_cl, iv_in, ltT, ltF, leT, leF, eqT, eqF, gI_e, gI_n, gI_sA, gI_sL, gI_sB, gL_e, gL_n, gL_sI, gL_sA, gL_sB, gA_e, gA_n, gA_sI, gA_sL, gA_sB, gB_e, gB_n, gB_sI, gB_sL, gB_sA, up_e, up_n, uL_e, uL_n, Int.toNat_natCast, h1]
  refine ⟨_, rfl, ⟨?_, fun i p' c' m' hi => ?_⟩, ⟨fun k _ _ a => ?_, fun _ _ _ => rfl, fun k _ a b => ?_, fun k _ a => ?_⟩, fun k a => ?_, fun _ => rfl, rfl, rfl⟩
  · rw [gI_e, List.length_append]; rfl
  · simp (disch := omega) only [gI_e, gI_n, gI_sA, gI_sL, gI_sB, gL_e, gL_n, gL_sI, gL_sA, gL_sB, gA_e, gA_n, gA_sI, gA_sL, gA_sB, gB_e, gB_n, gB_sI, gB_sL, gB_sA, up_e, up_n, uL_e, uL_n]
    by_cases e : i = bs.length
    · subst e
      rw [List.getElem?_append_right (Nat.le_refl _), Nat.sub_self] at hi
      cases hi
      rw [up_e rfl, up_e rfl, uL_e rfl]
      exact ⟨rfl, rfl, rfl⟩
    · have hi2 := (List.getElem?_eq_some_iff.mp hi).1
      rw [List.length_append] at hi2
      have hi2 : i < bs.length + 1 := hi2
      rw [List.getElem?_append_left (by omega)] at hi
      rw [up_n e, up_n e, uL_n e]
      exact h2 i p' c' m' hi
  · rw [gI_n a]; rfl
  · rw [gA_sI, gA_sB, gA_n b, gA_n a]
  · rw [gB_sI, gB_n a]; rfl
  · rw [gI_n a]; rfl
def ch (q : Nat) (a : Nat × Nat) : Nat × Nat × Nat := (q, a.1, a.2)
theorem lay_loop {q n : Nat} {o : List (Nat × Nat)} {x1 x2 : Int32} {k21 : Int32 → St → Option (Int32 × St)} (hn : n < 1000000) (ho : o.length ≤ 10) : ∀ (j fuel : Nat) (bs : List (Nat × Nat × Nat)) (S : St), j ≤ o.length → j < fuel → bs.length + j ≤ 320 → PL bs S → MR o S → gI S 21 = iv (q : Int) → ∃ S', lp_X5_listed_148 x1 x2 (iv (n : Int)) k21 fuel (iv ((j : Int) - 1)) S = (if n ≤ 20000 then k21 (iv (n : Int)) S' else some (-2, S')) ∧ PL (bs ++ (o.take j).reverse.map (ch q)) S' ∧ Fp S S' ∧ gL S' 29 = gL S 29 := by
  intro j
  induction j with
  | zero =>
    intro fuel bs S h1 h2 h3 h4 h5 h6
    obtain ⟨f, rfl⟩ : ∃ k, fuel = k + 1 := ⟨fuel - 1, by omega⟩
    refine ⟨S, ?_, by simpa using h4, Fp.rf, rfl⟩
    rw [lp_X5_listed_148, if_pos (by rw [i_0, iv_lt (by omega) (by omega) (by omega) (by omega)]; omega)]
    by_cases e : n ≤ 20000
    · rw [if_pos e, if_pos (by rw [i_20000, iv_le (by omega) (by omega) (by omega) (by omega)]; omega)]
    · rw [if_neg e, if_neg (by rw [i_20000, iv_le (by omega) (by omega) (by omega) (by omega)]; omega)]
  | succ j ih =>
    intro fuel bs S h1 h2 h3 h4 h5 h6
    obtain ⟨f, rfl⟩ : ∃ k, fuel = k + 1 := ⟨fuel - 1, by omega⟩
    have hb : o[j]? = some (o[j]'(by omega)) := List.getElem?_eq_getElem (by omega)
    have ht : o.take (j + 1) = o.take j ++ [o[j]'(by omega)] := by simp
    generalize o[j]'(by omega) = a at hb ht
    obtain ⟨c, m⟩ := a
    obtain ⟨g1, g2⟩ := h5.2 j c m hb
    obtain ⟨S1, y1, y2, y3, y4, y5, y6, y7⟩ := e_lay (p := q) (c := c) (m := m) h4 (by omega)
    obtain ⟨S2, z1, z2, z3, z4⟩ := ih f (bs ++ [(q, c, m)]) S1 (by omega) (by omega) (by rw [List.length_append]; show bs.length + 1 + j ≤ 320; omega) y2 ⟨by rw [y4 20 (by decide)]; exact h5.1, fun i c' m' hi => by rw [y6, y7]; exact h5.2 i c' m' hi⟩ (by rw [y4 21 (by decide)]; exact h6)
    refine ⟨S2, ?_, ?_, y3.tr z3, by rw [z4, y5]⟩
    · rw [lp_X5_listed_148, show ((j + 1 : Nat) : Int) - 1 = (j : Int) by omega, if_neg (by rw [i_0, iv_lt (by omega) (by omega) (by omega) (by omega)]; omega), iv_in (by omega) (by omega) (by omega), chk_T, chk_T, iv_cl (by omega) (by omega), Int.toNat_natCast, g1, g2, h6, y1, bnd_s, i_m1, iv_add]
      exact z1
    · rw [ht, List.reverse_append, List.map_append, ← List.append_assoc]
      exact z2
/-- sums over a pile -/
def sl (P : Pr) : List (Nat × Nat × Nat) → Nat
  | [] => 0
  | e :: t => (R P e.1 e.2.1 e.2.2).length + sl P t
def se (P : Pr) (x v : Nat) : List (Nat × Nat × Nat) → Nat
  | [] => 0
  | e :: t => endM x v (R P e.1 e.2.1 e.2.2) + se P x v t
def sp (P : Pr) : List (Nat × Nat × Nat) → Nat
  | [] => 0
  | e :: t => phi P e.1 + sp P t
theorem sl_app (P : Pr) : ∀ a b, sl P (a ++ b) = sl P a + sl P b
  | [], b => by show _ = 0 + _; rw [Nat.zero_add]; rfl
  | y :: a, b => by
    show _ + sl P (a ++ b) = (_ + sl P a) + sl P b
    rw [sl_app P a b, Nat.add_assoc]
theorem se_app (P : Pr) (x v : Nat) : ∀ a b, se P x v (a ++ b) = se P x v a + se P x v b
  | [], b => by show _ = 0 + _; rw [Nat.zero_add]; rfl
  | y :: a, b => by
    show _ + se P x v (a ++ b) = (_ + se P x v a) + se P x v b
    rw [se_app P x v a b, Nat.add_assoc]
theorem sp_app (P : Pr) : ∀ a b, sp P (a ++ b) = sp P a + sp P b
  | [], b => by show _ = 0 + _; rw [Nat.zero_add]; rfl
  | y :: a, b => by
    show _ + sp P (a ++ b) = (_ + sp P a) + sp P b
    rw [sp_app P a b, Nat.add_assoc]
theorem sl_ch (P : Pr) (q : Nat) : ∀ o : List (Nat × Nat), sl P (o.reverse.map (ch q)) = (o.flatMap (fun a => R P q a.1 a.2)).length
  | [] => rfl
  | a :: t => by
    rw [List.reverse_cons, List.map_append, sl_app, sl_ch P q t, List.flatMap_cons, List.length_append]
    show _ + ((R P q a.1 a.2).length + 0) = _
    omega
theorem se_ch (P : Pr) (x v q : Nat) : ∀ o : List (Nat × Nat), se P x v (o.reverse.map (ch q)) = endM x v (o.flatMap (fun a => R P q a.1 a.2))
  | [] => rfl
  | a :: t => by
    rw [List.reverse_cons, List.map_append, se_app, se_ch P x v q t, List.flatMap_cons, endM_app]
    show _ + (endM x v (R P q a.1 a.2) + 0) = _
    omega
theorem sp_ch (P : Pr) (q : Nat) : ∀ o : List (Nat × Nat), sp P (o.reverse.map (ch q)) = o.length * phi P q
  | [] => by show 0 = 0 * _; rw [Nat.zero_mul]
  | a :: t => by
    rw [List.reverse_cons, List.map_append, sp_app, sp_ch P q t]
    show _ + (phi P q + 0) = (t.length + 1) * _
    rw [Nat.add_mul, Nat.one_mul]; omega
def xok (xi vi : Int) (xn vn : Nat) : Prop := (xi = -1 ∧ xn = 6) ∨ (xi = (xn : Int) ∧ xn < 6 ∧ vi = (vn : Int) ∧ vn ≤ 9)
theorem listed_loop {P : Pr} {xi vi : Int} {xn vn : Nat} (hw : Wf P) (he : EV P) (hx : xok xi vi xn vn) : ∀ (M fuel n acc : Nat) (bs : List (Nat × Nat × Nat)) (S : St), sp P bs ≤ M → M < fuel → n ≤ 20000 → RM P S → PL bs S → gL S 29 = jv (acc : Int) → (∀ i p c m, bs[i]? = some (p, c, m) → En P p c m ∧ i + 1 + 9 * dl P p ≤ 73) → ∃ S', lp_X5_listed_21 (iv xi) (iv vi) fuel (iv (n : Int)) S = some (if n + sl P bs ≤ 20000 then iv ((n + sl P bs : Nat) : Int) else -2, S') ∧ (n + sl P bs ≤ 20000 → gL S' 29 = jv ((acc + se P xn vn bs : Nat) : Int)) ∧ Fp S S' := by
  have q1 := hw.1
  intro M
  induction M with
  | zero =>
    intro fuel n acc bs S h1 h2 h3 hR h4 h5 h6
    obtain ⟨f, rfl⟩ : ∃ k, fuel = k + 1 := ⟨fuel - 1, by omega⟩
    have hb : bs = [] := by
      cases bs with
      | nil => rfl
      | cons e t =>
        have h1 : phi P e.1 + sp P t ≤ 0 := h1
        have : 0 < phi P e.1 := Nat.mul_pos (by omega) (Nat.pow_pos (by decide))
        omega
    subst hb
    refine ⟨S, ?_, fun _ => h5, Fp.rf⟩
    rw [lp_X5_listed_21, h4.1, if_pos (by decide), if_pos (by show n + 0 ≤ 20000; omega)]
    rfl
  | succ M ih =>
    intro fuel n acc bs S h1 h2 h3 hR h4 h5 h6
    obtain ⟨f, rfl⟩ : ∃ k, fuel = k + 1 := ⟨fuel - 1, by omega⟩
    rcases List.eq_nil_or_concat bs with hb | ⟨bs, e, hb⟩
    · subst hb
      refine ⟨S, ?_, fun _ => h5, Fp.rf⟩
      rw [lp_X5_listed_21, h4.1, if_pos (by decide), if_pos (by show n + 0 ≤ 20000; omega)]
      rfl
    · obtain ⟨p, c, m⟩ := e
      rw [List.concat_eq_append] at hb
      subst hb
      have hg : (bs ++ [(p, c, m)])[bs.length]? = some (p, c, m) := by simp
      obtain ⟨eN, eH⟩ := h6 _ p c m hg
      obtain ⟨g1, g2, g3⟩ := h4.2 _ p c m hg
      have g0 := h4.1
      rw [List.length_append] at g0
      have g0 : gI S 25 = iv ((bs.length + 1 : Nat) : Int) := g0
      have hm := En_m eN
      obtain ⟨e1, e2, e3, e4, e5⟩ := eN
      have hPL : PL bs (sI S 25 (iv (bs.length : Int))) := by
        refine ⟨gI_e _ _ _, fun i p' c' m' hi => ?_⟩
        have := (List.getElem?_eq_some_iff.mp hi).1
        exact h4.2 i p' c' m' (by rw [List.getElem?_append_left this]; exact hi)
      have h6' : ∀ i p c m, bs[i]? = some (p, c, m) → En P p c m ∧ i + 1 + 9 * dl P p ≤ 73 := fun i p' c' m' hi => h6 i p' c' m' (by rw [List.getElem?_append_left (List.getElem?_eq_some_iff.mp hi).1]; exact hi)
      rw [sp_app] at h1
      have h1 : sp P bs + (phi P p + 0) ≤ M + 1 := h1
      have hsl : sl P (bs ++ [(p, c, m)]) = sl P bs + (R P p c m).length := by
        rw [sl_app]; show _ + ((R P p c m).length + 0) = _; omega
      have hse : se P xn vn (bs ++ [(p, c, m)]) = se P xn vn bs + endM xn vn (R P p c m) := by
        rw [se_app]; show _ + (endM xn vn (R P p c m) + 0) = _; omega
      have hphi : 0 < phi P p := Nat.mul_pos (by omega) (Nat.pow_pos (by decide))
      have hF0 : Fp S (sI S 25 (iv (bs.length : Int))) := ⟨fun k _ _ a => gI_n a, fun _ _ _ => rfl, fun _ _ _ _ => rfl, fun _ _ _ => rfl⟩
      have m1 := hR.1
      rw [hsl, hse]
      by_cases hp : p < pN P
      · -- a step
        obtain ⟨S1, y1, y2, y3, y4, y5⟩ := e_go (S := sI S 25 (iv (bs.length : Int))) hw (RM_sI (by decide) hR) hp e2 (show m < 9223372036854775808 by omega)
        have hph := phi_st (P := P) (c := c) (m := m) hp
        have hol := outs_len (P := P) (p := p) (c := c) (m := m)
        have hRin := R_in (c := c) (m := m) hw hp
        have hq := npl_le (c := c) hp
        have hPL1 : PL bs S1 := by
          refine ⟨by rw [y3.1 25 (by decide) (by decide)]; exact hPL.1, fun i p' c' m' hi => ?_⟩
          rw [y3.2.2.1 16 (by decide), y3.2.2.1 17 (by decide), y3.2.2.2 18 (by decide)]
          exact hPL.2 i p' c' m' hi
        have h29 : gL S1 29 = jv (acc : Int) := by rw [y3.2.1 29 (by decide)]; exact h5
        have hob : bs.length + 10 ≤ 320 := by omega
        rw [lp_X5_listed_21]
        simp (disch := omega) only [nxt_e, bnd_s, chk_T, chk_nF, ↓reduceIte, i_0, i_1, i_2, i_3, i_4, i_5, i_6, i_8, i_9, i_10, i_15, i_19, i_20, i_30, i_31, i_40, i_60, i_100, i_200, i_1000, i_20000, iv_neg, iv_lt, iv_le, iv_eq, iv_cl, iv_in, iv_sub, leF, leT, eqT, eqF, ltT, ltF, g0, gI_e, gI_n, gA_sI, gB_sI, show ((bs.length + 1 : Nat) : Int) - 1 = (bs.length : Int) by omega, Int.toNat_natCast, g1, g2, g3, m1, y1]
        by_cases ho : outs P p c m = []
        · rw [if_pos ho] at hRin
          obtain ⟨S2, z1, z2, z3, z4⟩ := lay_loop (q := npl P p c) (n := n + 1) (o := outs P p c m) (x1 := iv xi) (x2 := iv vi) (k21 := lp_X5_listed_21 (iv xi) (iv vi) f) (by omega) hol 0 FU bs S1 (by omega) (by rw [FU_v]; omega) (by omega) hPL1 y2 y4
          have hlen : gI S1 20 = iv 0 := by rw [y2.1, ho]; rfl
          simp (disch := omega) only [nxt_e, bnd_s, chk_T, chk_nF, ↓reduceIte, hlen, i_0, i_1, i_2, i_3, i_4, i_5, i_6, i_8, i_9, i_10, i_15, i_19, i_20, i_30, i_31, i_40, i_60, i_100, i_200, i_1000, i_20000, iv_neg, iv_eq, eqT, iv_sub, iv_add]
          have z1 : lp_X5_listed_148 (iv xi) (iv vi) (iv ((n : Int) + 1)) (lp_X5_listed_21 (iv xi) (iv vi) f) FU (iv (0 - 1)) S1 = (if n + 1 ≤ 20000 then lp_X5_listed_21 (iv xi) (iv vi) f (iv ((n + 1 : Nat) : Int)) S2 else some (-2, S2)) := z1
          rw [z1, hRin]
          have hFp : Fp S S2 := hF0.tr (y3.Fp.tr z3)
          by_cases hn : n + 1 ≤ 20000
          · rw [if_pos hn]
            obtain ⟨S3, u1, u2, u3⟩ := ih f (n + 1) acc bs S2 (by omega) (by omega) hn (hFp.RM hR) (by simpa using z2) (by rw [z4]; exact h29) h6'
            refine ⟨S3, ?_, fun h => ?_, hFp.tr u3⟩
            · rw [u1, show n + 1 + sl P bs = n + (sl P bs + 1) by omega]
              rfl
            · have h : n + (sl P bs + 1) ≤ 20000 := h
              rw [u2 (by omega)]
              show jv ((acc + se P xn vn bs : Nat) : Int) = jv ((acc + (se P xn vn bs + ((if 1000000 < 1000000 ∧ _ then m else 0) + 0)) : Nat) : Int)
              rw [if_neg (fun z => absurd z.1 (by omega))]
              rfl
          · rw [if_neg hn]
            refine ⟨S2, ?_, fun h => ?_, hFp⟩
            · rw [if_neg (by show ¬ n + (sl P bs + 1) ≤ 20000; omega)]
              rfl
            · have h : n + (sl P bs + 1) ≤ 20000 := h
              omega
        · rw [if_neg ho] at hRin
          have hpos : 0 < (outs P p c m).length := List.length_pos_iff.mpr ho
          obtain ⟨S2, z1, z2, z3, z4⟩ := lay_loop (q := npl P p c) (n := n) (o := outs P p c m) (x1 := iv xi) (x2 := iv vi) (k21 := lp_X5_listed_21 (iv xi) (iv vi) f) (by omega) hol (outs P p c m).length FU bs S1 (Nat.le_refl _) (by rw [FU_v]; omega) (by omega) hPL1 y2 y4
          have hlen : gI S1 20 = iv (outs P p c m).length := y2.1
          simp (disch := omega) only [nxt_e, bnd_s, chk_T, chk_nF, ↓reduceIte, hlen, i_0, i_1, i_2, i_3, i_4, i_5, i_6, i_8, i_9, i_10, i_15, i_19, i_20, i_30, i_31, i_40, i_60, i_100, i_200, i_1000, i_20000, iv_neg, iv_eq, eqF, iv_sub, iv_add]
          rw [Int.add_zero, z1, if_pos h3, hRin]
          rw [List.take_length] at z2
          have hFp : Fp S S2 := hF0.tr (y3.Fp.tr z3)
          obtain ⟨S3, u1, u2, u3⟩ := ih f n acc (bs ++ (outs P p c m).reverse.map (ch (npl P p c))) S2 (by rw [sp_app, sp_ch]; omega) (by omega) h3 (hFp.RM hR) z2 (by rw [z4]; exact h29) (fun i p' c' m' hi => by
            by_cases hib : i < bs.length
            · rw [List.getElem?_append_left hib] at hi
              exact h6' i p' c' m' hi
            · rw [List.getElem?_append_right (by omega)] at hi
              have hi2 := (List.getElem?_eq_some_iff.mp hi).1
              rw [List.length_map, List.length_reverse] at hi2
              have hmem := List.mem_of_getElem? hi
              obtain ⟨a, ha, hae⟩ := List.mem_map.mp hmem
              have ha := List.mem_reverse.mp ha
              cases hae
              refine ⟨En_outs hw he hp ⟨e1, e2, e3, e4, e5⟩ a.1 a.2 ha, ?_⟩
              by_cases k0 : pK P p = 0
              · have hnp : npl P p c = p + 1 := by unfold npl; rw [if_neg (by omega)]
                have hd := dl_D hp k0
                rw [hnp]
                omega
              · have hl1 := outs_1 (c := c) (m := m) k0
                have hd := dl_le (P := P) (show p ≤ npl P p c by omega)
                omega)
          rw [sl_app, se_app, sl_ch, se_ch] at *
          exact ⟨S3, u1, u2, hFp.tr u3⟩
      · -- an end
        have hpe : p = pN P := by omega
        have hRe := R_end (P := P) (c := c) (m := m) hp
        rw [hRe]
        have dgl := dg9 c xn
        obtain ⟨acc', S1, hacc, hS1, hL1⟩ : ∃ (acc' : Nat) (S1 : St), acc' = acc + endM xn vn [(c, m)] ∧ lp_X5_listed_21 (iv xi) (iv vi) (f + 1) (iv (n : Int)) S = (if n + 1 ≤ 20000 then lp_X5_listed_21 (iv xi) (iv vi) f (iv ((n + 1 : Nat) : Int)) S1 else some (-2, S1)) ∧ S1 = sL (sI S 25 (iv (bs.length : Int))) 29 (jv (acc' : Int)) := by
          refine ⟨_, _, rfl, ?_, rfl⟩
          show _ = if n + 1 ≤ 20000 then lp_X5_listed_21 (iv xi) (iv vi) f (iv ((n + 1 : Nat) : Int)) (sL (sI S 25 (iv (bs.length : Int))) 29 (jv ((acc + ((if c < 1000000 ∧ (xn = 6 ∨ dg c xn = vn) then m else 0) + 0) : Nat) : Int))) else some (-2, sL (sI S 25 (iv (bs.length : Int))) 29 (jv ((acc + ((if c < 1000000 ∧ (xn = 6 ∨ dg c xn = vn) then m else 0) + 0) : Nat) : Int)))
          have hle : iv ((n : Int) + 1) ≤ iv 20000 ↔ n + 1 ≤ 20000 := by
            rw [iv_le (by omega) (by omega) (by omega) (by omega)]; omega
          rw [lp_X5_listed_21]
          rcases hx with ⟨x1, x2⟩ | ⟨x1, x2, x3, x4⟩
          · rw [if_pos (⟨e2, Or.inl x2⟩ : c < 1000000 ∧ (xn = 6 ∨ dg c xn = vn)), Nat.add_zero]
            subst x1
            simp (disch := omega) only [nxt_e, bnd_s, chk_T, chk_nF, ↓reduceIte, i_0, i_1, i_2, i_3, i_4, i_5, i_6, i_8, i_9, i_10, i_15, i_19, i_20, i_30, i_31, i_40, i_60, i_100, i_200, i_1000, i_20000, iv_neg, iv_lt, iv_eq, iv_cl, iv_in, iv_sub, iv_add, leF, eqT, eqF, ltT, ltF, g0, gI_e, gI_n, gA_sI, gB_sI, gL_sI, show ((bs.length + 1 : Nat) : Int) - 1 = (bs.length : Int) by omega, Int.toNat_natCast, g1, g2, g3, m1, h5, jv_add, show (iv ((bs.length + 1 : Nat) : Int) ≤ iv 0) = False from eq_false (by rw [iv_le (by omega) (by omega) (by omega) (by omega)]; omega)]
            by_cases hn : n + 1 ≤ 20000
            · rw [if_pos (hle.mpr hn), if_pos hn]; rfl
            · rw [if_neg (fun z => hn (hle.mp z)), if_neg hn]; rfl
          · have ed := e_dig (S := sI S 25 (iv (bs.length : Int))) e2 x2
            subst x1
            subst x3
            by_cases hd : dg c xn = vn
            · rw [if_pos (⟨e2, Or.inr hd⟩ : c < 1000000 ∧ (xn = 6 ∨ dg c xn = vn)), Nat.add_zero]
              simp (disch := omega) only [nxt_e, bnd_s, chk_T, chk_nF, ↓reduceIte, i_0, i_1, i_2, i_3, i_4, i_5, i_6, i_8, i_9, i_10, i_15, i_19, i_20, i_30, i_31, i_40, i_60, i_100, i_200, i_1000, i_20000, iv_neg, iv_lt, iv_eq, iv_cl, iv_in, iv_sub, iv_add, leF, eqT, eqF, ltT, ltF, g0, gI_e, gI_n, gA_sI, gB_sI, gL_sI, show ((bs.length + 1 : Nat) : Int) - 1 = (bs.length : Int) by omega, Int.toNat_natCast, g1, g2, g3, m1, h5, ed, jv_add, show (iv ((bs.length + 1 : Nat) : Int) ≤ iv 0) = False from eq_false (by rw [iv_le (by omega) (by omega) (by omega) (by omega)]; omega)]
              by_cases hn : n + 1 ≤ 20000
              · rw [if_pos (hle.mpr hn), if_pos hn]; rfl
              · rw [if_neg (fun z => hn (hle.mp z)), if_neg hn]; rfl
            · rw [if_neg (show ¬ (c < 1000000 ∧ (xn = 6 ∨ dg c xn = vn)) by rintro ⟨_, z | z⟩; omega; exact hd z), Nat.add_zero]
              simp (disch := omega) only [nxt_e, bnd_s, chk_T, chk_nF, ↓reduceIte, i_0, i_1, i_2, i_3, i_4, i_5, i_6, i_8, i_9, i_10, i_15, i_19, i_20, i_30, i_31, i_40, i_60, i_100, i_200, i_1000, i_20000, iv_neg, iv_lt, iv_eq, iv_cl, iv_in, iv_sub, iv_add, leF, eqT, eqF, ltT, ltF, g0, gI_e, gI_n, gA_sI, gB_sI, gL_sI, show ((bs.length + 1 : Nat) : Int) - 1 = (bs.length : Int) by omega, Int.toNat_natCast, g1, g2, g3, m1, h5, ed, j_0, jv_add, show (iv ((bs.length + 1 : Nat) : Int) ≤ iv 0) = False from eq_false (by rw [iv_le (by omega) (by omega) (by omega) (by omega)]; omega)]
              by_cases hn : n + 1 ≤ 20000
              · rw [if_pos (hle.mpr hn), if_pos hn]; rfl
              · rw [if_neg (fun z => hn (hle.mp z)), if_neg hn]; rfl
        rw [hS1]
        have hF1 : Fp S S1 := by
          rw [hL1]
          exact ⟨fun k _ _ a => gI_n a, fun k _ a => gL_n a, fun _ _ _ _ => rfl, fun _ _ _ => rfl⟩
        by_cases hn : n + 1 ≤ 20000
        · rw [if_pos hn]
          obtain ⟨S3, u1, u2, u3⟩ := ih f (n + 1) acc' bs S1 (by omega) (by omega) hn (hF1.RM hR) (by rw [hL1]; exact hPL) (by rw [hL1, gL_e]) h6'
          refine ⟨S3, ?_, fun h => ?_, hF1.tr u3⟩
          · rw [u1, show n + 1 + sl P bs = n + (sl P bs + 1) by omega]
            rfl
          · have h : n + (sl P bs + 1) ≤ 20000 := h
            rw [u2 (by omega), hacc, Nat.add_assoc, Nat.add_comm (endM xn vn [(c, m)])]
        · rw [if_neg hn]
          refine ⟨S1, ?_, fun h => ?_, hF1⟩
          · rw [if_neg (by show ¬ n + (sl P bs + 1) ≤ 20000; omega)]
          · have h : n + (sl P bs + 1) ≤ 20000 := h
            omega
theorem e_listed {P : Pr} {S : St} {xi vi : Int} {xn vn : Nat} (hw : Wf P) (he : EV P) (hx : xok xi vi xn vn) (hR : RM P S) : ∃ S', f_X5_listed (iv xi) (iv vi) S = some (if (allR P).length ≤ 20000 then iv (allR P).length else -2, S') ∧ ((allR P).length ≤ 20000 → gL S' 29 = jv (endM xn vn (allR P))) ∧ Fp S S' := by
  have hPL : PL [] (sI (sL S 29 0) 25 0) := ⟨rfl, fun i p c m h => by cases i <;> cases h⟩
  obtain ⟨S1, y1, y2, y3, y4, y5, y6, y7⟩ := e_lay (p := 0) (c := 0) (m := 167961600000000) hPL (by show 0 < 320; omega)
  have hF0 : Fp S (sI (sL S 29 0) 25 0) := ⟨fun k _ _ a => gI_n a, fun k _ a => gL_n a, fun _ _ _ _ => rfl, fun _ _ _ => rfl⟩
  have hF1 := hF0.tr y3
  have hph := phi_0 hw
  obtain ⟨S2, z1, z2, z3⟩ := listed_loop hw he hx (phi P 0) FU 0 0 [(0, 0, 167961600000000)] S1 (by show phi P 0 + 0 ≤ _; omega) (by rw [FU_v]; omega) (by omega) (hF1.RM hR) y2 (by rw [y5]; rfl) (fun i p c m hi => by
    cases i with
    | zero =>
      cases hi
      refine ⟨En_0 hw, ?_⟩
      unfold dl
      have := hw.2.2.2.2.2.1
      omega
    | succ i => cases hi)
  have hsl : sl P [(0, 0, 167961600000000)] = (allR P).length := by show (allR P).length + 0 = _; omega
  have hse : se P xn vn [(0, 0, 167961600000000)] = endM xn vn (allR P) := by show endM xn vn (allR P) + 0 = _; omega
  rw [hsl, hse, Nat.zero_add, Nat.zero_add] at *
  refine ⟨S2, ?_, z2, hF1.tr z3⟩
  unfold f_X5_listed
  rw [nxt_e, nxt_e]
  have y1 : f_X5_lay 0 0 167961600000000 (sI (sL S 29 0) 25 0) = some ((), S1) := y1
  rw [y1, bnd_s, i_0, ← i0n]
  exact z1
