/-! ===== every run: class ===== -/
def FS (S S' : St) : Prop := (∀ k, k ≠ 303 → k ≠ 304 → gI S' k = gI S k) ∧ (∀ k, k ≠ 302 → gL S' k = gL S k) ∧ (∀ k, gA S' k = gA S k) ∧ ∀ k, k < 85 → gB S' k = gB S k
theorem FS.rf {S : St} : FS S S := ⟨fun _ _ _ => rfl, fun _ _ => rfl, fun _ => rfl, fun _ _ => rfl⟩
theorem FS.tr {S S1 S2 : St} (h : FS S S1) (g : FS S1 S2) : FS S S2 := ⟨fun k a b => (g.1 k a b).trans (h.1 k a b), fun k a => (g.2.1 k a).trans (h.2.1 k a), fun k => (g.2.2.1 k).trans (h.2.2.1 k), fun k a => (g.2.2.2 k a).trans (h.2.2.2 k a)⟩
theorem FS.RC {P : Pr} {S S' : St} (h : FS S S') (hR : RC P S) : RC P S' := by
  obtain ⟨m1, m2, m3, m4, m5, m6, m7, m8, m9, m10⟩ := hR
  obtain ⟨a, b, c, d⟩ := h
  refine ⟨?_, ?_, ?_, ?_, ?_, ?_, ?_, ?_, ?_, ?_⟩
  · rw [a 208 (by decide) (by decide)]; exact m1
  · rw [a 209 (by decide) (by decide)]; exact m2
  · rw [a 210 (by decide) (by decide)]; exact m3
  · rw [c]; exact m4
  · rw [c]; exact m5
  · rw [c]; exact m6
  · rw [c]; exact m7
  · rw [c]; exact m8
  · intro r v hr hv; rw [c]; exact m9 r v hr hv
  · rw [a 207 (by decide) (by decide)]; exact m10
theorem FS.RCL {P : Pr} {L : Ld} {S S' : St} (h : FS S S') (hR : RCL P L S) : RCL P L S' := by
  obtain ⟨fs, h1, h2, h3, h4, h5, h6, h7⟩ := hR
  obtain ⟨a, b, c, d⟩ := h
  refine ⟨fs, ?_, ?_, ?_, ?_, ?_, ?_, h7⟩
  · intro p hp; rw [c, c]; exact h1 p hp
  · intro p hp; rw [c, c]; exact h2 p hp
  · intro p i c' m' hp hi; rw [c, d (54 + p) (by omega)]; exact h3 p i c' m' hp hi
  · rw [c]; exact h4
  · rw [b 109 (by decide)]; exact h5
  · rw [a 110 (by decide) (by decide)]; exact h6
/-- the runs that are counted -/
def SvR (l : List (Nat × Nat)) (S : St) : Prop := gI S 303 = iv l.length ∧ gL S 302 = jv (endM 6 0 l) ∧ ∀ x v, x < 6 → v < 10 → gB S (85 + x) v = jv (endM x v l)
theorem endM_1 {x v c m : Nat} (hc : c < 1000000) : endM x v [(c, m)] = if x = 6 ∨ dg c x = v then m else 0 := by
  show (if c < 1000000 ∧ (x = 6 ∨ dg c x = v) then m else 0) + 0 = _
  by_cases h : x = 6 ∨ dg c x = v
  · rw [if_pos ⟨hc, h⟩, if_pos h]; rfl
  · rw [if_neg (fun z => h z.2), if_neg h]
theorem e_add {S : St} {l : List (Nat × Nat)} {c m : Nat} (hc : c < 1000000) (h1 : gL S 302 = jv (endM 6 0 l)) (h2 : ∀ x v, x < 6 → v < 10 → gB S (85 + x) v = jv (endM x v l)) : ∃ S', f_X3_addAtEnd (iv (hx c)) (jv m) S = some ((), S') ∧ gI S' 303 = gI S 303 ∧ gL S' 302 = jv (endM 6 0 (l ++ [(c, m)])) ∧ (∀ x v, x < 6 → v < 10 → gB S' (85 + x) v = jv (endM x v (l ++ [(c, m)]))) ∧ FS S S' := by
  have key : ∀ (j k fuel : Nat) (S : St), j + k = 6 → j < fuel → (∀ x v, x < 6 → v < 10 → gB S (85 + x) v = jv (if x < k then endM x v (l ++ [(c, m)]) else endM x v l : Nat)) → ∃ S', lp_X3_addAtEnd_13 (iv (hx c)) (jv m) fuel (iv (k : Int)) S = some ((), S') ∧ (∀ x v, x < 6 → v < 10 → gB S' (85 + x) v = jv (endM x v (l ++ [(c, m)]))) ∧ (∀ k, gI S' k = gI S k) ∧ (∀ k, gL S' k = gL S k) ∧ (∀ k, gA S' k = gA S k) ∧ ∀ k, k < 85 → gB S' k = gB S k := by
    intro j
    induction j with
    | zero =>
      intro k fuel S h1 h2 h3
      obtain ⟨n, rfl⟩ : ∃ k, fuel = k + 1 := ⟨fuel - 1, by omega⟩
      refine ⟨S, ?_, fun x v hx hv => ?_, fun _ => rfl, fun _ => rfl, fun _ => rfl, fun _ _ => rfl⟩
      · rw [lp_X3_addAtEnd_13]
        simp (disch := omega) only [nxt_e, bnd_s, chk_T, chk_nF, ↓reduceIte, i_0, i_1, i_2, i_3, i_4, i_5, i_6, i_8, i_9, i_10, i_15, i_19, i_20, i_30, i_31, i_40, i_60, i_100, i_200, i_1000, i_20000, iv_neg, iv_add, iv_sub, iv_mul, iv_lt, iv_le, iv_eq, iv_cl, iv_in, ltT, ltF, leT, leF, eqT, eqF, gI_e, gI_n, gI_sA, gI_sL, gI_sB, gL_e, gL_n, gL_sI, gL_sA, gL_sB, gA_e, gA_n, gA_sI, gA_sL, gA_sB, gB_e, gB_n, gB_sI, gB_sL, gB_sA, up_e, up_n, uL_e, uL_n]
      · have := h3 x v hx hv
        rw [if_pos (by omega)] at this
        exact this
    | succ j ih =>
      intro k fuel S h1 h2 h3
      obtain ⟨n, rfl⟩ : ∃ k, fuel = k + 1 := ⟨fuel - 1, by omega⟩
      have ev := e_val (S := S) hc (show k < 6 by omega)
      have d9 := dg9 c k
      have h3k := h3 k (dg c k) (by omega) (by omega)
      rw [if_neg (by omega)] at h3k
      rw [lp_X3_addAtEnd_13]
      simp (disch := omega) only [nxt_e, bnd_s, chk_T, chk_nF, ↓reduceIte, i_0, i_1, i_2, i_3, i_4, i_5, i_6, i_8, i_9, i_10, i_15, i_19, i_20, i_30, i_31, i_40, i_60, i_100, i_200, i_1000, i_20000, iv_neg, iv_add, iv_sub, iv_mul, iv_lt, iv_le, iv_eq, iv_cl, iv_in, ltT, ltF, leT, leF, eqT, eqF, gI_e, gI_n, gI_sA, gI_sL, gI_sB, gL_e, gL_n, gL_sI, gL_sA, gL_sB, gA_e, gA_n, gA_sI, gA_sL, gA_sB, gB_e, gB_n, gB_sI, gB_sL, gB_sA, up_e, up_n, uL_e, uL_n, isIn_t, isIn_f, isTmM_t, isTmM_f, isRow_t, isRow_f, isVal_t, isVal_f, isVar_t, isVar_f, isTmC_t, isTmC_f, ev, Int.toNat_natCast, h3k, jv_add]
      obtain ⟨S', y1, y2, y3, y4, y5, y6⟩ := ih (k + 1) n (sB S (85 + k) (vp_updL (gB S (85 + k)) (dg c k) (jv ((endM k (dg c k) l : Int) + (m : Int))))) (by omega) (by omega) (fun x v hx hv => by
        by_cases e : x = k
        · subst e
          rw [gB_e, if_pos (by omega), endM_app, endM_1 hc]
          by_cases e2 : v = dg c x
          · subst e2
            rw [uL_e rfl, if_pos (Or.inr rfl), Int.natCast_add]
          · rw [uL_n e2, if_neg (by rintro (z | z); omega; exact e2 z.symm), Nat.add_zero]
            have := h3 x v hx hv
            rw [if_neg (by omega)] at this
            exact this
        · rw [gB_n (by omega), h3 x v hx hv]
          by_cases e2 : x < k
          · rw [if_pos e2, if_pos (by omega)]
          · rw [if_neg e2, if_neg (by omega)])
      exact ⟨S', y1, y2, y3, y4, y5, fun i hi => by rw [y6 i hi, gB_n (by omega)]⟩
  obtain ⟨S', y1, y2, y3, y4, y5, y6⟩ := key 6 0 FU (sL S 302 (gL S 302 + jv m)) (by omega) (by rw [FU_v]; omega) (fun x v hx hv => by rw [if_neg (by omega)]; exact h2 x v hx hv)
  refine ⟨S', ?_, ?_, ?_, y2, fun k a b => ?_, fun k a => ?_, fun k => ?_, fun k a => ?_⟩
  · unfold f_X3_addAtEnd
    rw [nxt_e, i_0, ← i0n]
    exact y1
  · rw [y3]; rfl
  · rw [y4, gL_e, h1, jv_add, endM_app, endM_1 hc, if_pos (Or.inl rfl), Int.natCast_add]
  · rw [y3]; rfl
  · rw [y4, gL_n a]
  · rw [y5]; rfl
  · rw [y6 k a]; rfl
/-- a part of the walk has come to its end: all of its runs are counted, or more than may be -/
def Rs (l : List (Nat × Nat)) (S' : St) : Prop := (l.length ≤ 20000 ∧ SvR l S') ∨ (20000 < l.length ∧ gI S' 303 = iv 20001)
/-- what comes of a draw from v on -/
def rst (P : Pr) (p c m : Nat) : Nat → Nat → List (Nat × Nat)
  | 0, _ => []
  | j + 1, v => (if mb P p v c m = 0 then [] else [(hb P p v c, mb P p v c m)]) ++ rst P p c m j (v + 1)
theorem rst_out {P : Pr} {p c m : Nat} : ∀ j v, outC P p c m v ++ rst P p c m j v = outC P p c m (v + j)
  | 0, v => by
    show _ ++ [] = _
    rw [List.append_nil]; rfl
  | j + 1, v => by
    show _ ++ ((if mb P p v c m = 0 then [] else [(hb P p v c, mb P p v c m)]) ++ rst P p c m j (v + 1)) = _
    rw [← List.append_assoc, show v + (j + 1) = (v + 1) + j by omega, ← rst_out j (v + 1)]
    rfl
theorem rst_0 {P : Pr} {p c m : Nat} : rst P p c m 10 0 = outC P p c m 10 := by
  have := rst_out (P := P) (p := p) (c := c) (m := m) 10 0
  exact this
/-- follow, as a part of the walk: d draws are behind it -/
def FolOk (P : Pr) (ff : Int32 → Int32 → Int64 → Int32 → St → Option (Unit × St)) (n : Nat) : Prop := ∀ (p c m d : Nat) (l : List (Nat × Nat)) (S : St), En P p c m → d ≤ cnt (pK P) 0 p → dl P p < n → RC P S → SvR l S → l.length ≤ 20000 → ∃ S', ff (iv (p : Int)) (iv (hx c)) (jv m) (iv (d : Int)) S = some ((), S') ∧ FS S S' ∧ Rs (l ++ R P p c m) S'
theorem br_loop {P : Pr} {ff : Int32 → Int32 → Int64 → Int32 → St → Option (Unit × St)} {n p c m d : Nat} (hw : Wf P) (he : EV P) (hff : FolOk P ff n) (hp : p < pN P) (k0 : pK P p = 0) (hE : En P p c m) (hd : d ≤ cnt (pK P) 0 p) (hn : dl P p < n + 1) : ∀ (j v fuel : Nat) (l : List (Nat × Nat)) (S : St), j + v = 10 → j < fuel → RC P S → SvR l S → l.length ≤ 20000 → ∃ S', lp_X3_branch_11 ff (iv (p : Int)) (iv (hx c)) (jv m) (iv (d : Int)) fuel (iv (v : Int)) S = some ((), S') ∧ FS S S' ∧ Rs (l ++ (rst P p c m j v).flatMap (fun q => R P (p + 1) q.1 q.2)) S' := by
  have q1 := hw.1
  have hm := En_m hE
  obtain ⟨e1, e2, e3, e4, e5⟩ := hE
  have h60 := div60 hw hp k0 e4
  have hnp : npl P p c = p + 1 := by unfold npl; rw [if_neg (by omega)]
  have hc8 := hw.2.2.2.2.2.1
  have hcp := cnt_lt (K := pK P) hp k0
  have hcn : cnt (pK P) 0 (p + 1) = cnt (pK P) 0 p + 1 := by
    show cnt (pK P) 0 p + (if pK P p = 0 then 1 else 0) = _
    rw [if_pos k0]
  have hdl := dl_D hp k0
  intro j
  induction j with
  | zero =>
    intro v fuel l S h1 h2 hR h3 h4
    obtain ⟨f, rfl⟩ : ∃ k, fuel = k + 1 := ⟨fuel - 1, by omega⟩
    refine ⟨S, ?_, FS.rf, Or.inl ⟨?_, ?_⟩⟩
    · rw [lp_X3_branch_11]
      simp (disch := omega) only [nxt_e, bnd_s, chk_T, chk_nF, ↓reduceIte, i_0, i_1, i_2, i_3, i_4, i_5, i_6, i_8, i_9, i_10, i_15, i_19, i_20, i_30, i_31, i_40, i_60, i_100, i_200, i_1000, i_20000, iv_neg, iv_add, iv_sub, iv_mul, iv_lt, iv_le, iv_eq, iv_cl, iv_in, ltT, ltF, leT, leF, eqT, eqF, gI_e, gI_n, gI_sA, gI_sL, gI_sB, gL_e, gL_n, gL_sI, gL_sA, gL_sB, gA_e, gA_n, gA_sI, gA_sL, gA_sB, gB_e, gB_n, gB_sI, gB_sL, gB_sA, up_e, up_n, uL_e, uL_n]
    · show (l ++ []).length ≤ 20000
      rw [List.append_nil]; exact h4
    · show SvR (l ++ []) S
      rw [List.append_nil]; exact h3
  | succ j ih =>
    intro v fuel l S h1 h2 hR h3 h4
    obtain ⟨f, rfl⟩ : ∃ k, fuel = k + 1 := ⟨fuel - 1, by omega⟩
    have emb := e_mb (v := v) (m := m) hw hR hp e2 (by omega) (by omega)
    have ehb := e_hb (v := v) hw hR hp e2 (by omega)
    have mbl := mb_le (v := v) (c := c) (m := m) (p := p) hw
    have hlg := lg_le (mb P p v c m : Int) (by omega) (by omega)
    have h303 := h3.1
    have h303' : ¬ (20000 : Int32) < gI S 303 := by
      rw [h303, i_20000, iv_lt (by omega) (by omega) (by omega) (by omega)]; omega
    rw [lp_X3_branch_11, if_neg (by rw [i_10, iv_le (by omega) (by omega) (by omega) (by omega)]; omega), if_neg h303', emb, bnd_s]
    show ∃ S', _ ∧ FS S S' ∧ Rs (l ++ ((if mb P p v c m = 0 then [] else [(hb P p v c, mb P p v c m)]) ++ rst P p c m j (v + 1)).flatMap (fun q => R P (p + 1) q.1 q.2)) S'
    by_cases h0 : mb P p v c m = 0
    · rw [if_pos (hlg.mpr (by omega)), if_pos h0, List.nil_append, i_1, iv_add]
      exact ih (v + 1) f l S (by omega) (by omega) hR h3 h4
    · rw [if_neg (fun z => h0 (by have := hlg.mp z; omega)), if_neg h0, ehb, bnd_s, List.flatMap_append, ← List.append_assoc, List.flatMap_singleton]
      have hmem : (hb P p v c, mb P p v c m) ∈ outs P p c m := by
        rw [← outC_eq e3 (fun _ => h60)]
        have : wys P p = 10 := by unfold wys; rw [if_pos k0]
        have hr := rst_out (P := P) (p := p) (c := c) (m := m) (j + 1) v
        rw [show v + (j + 1) = 10 by omega] at hr
        rw [this, ← hr]
        refine List.mem_append_right _ ?_
        show _ ∈ (if mb P p v c m = 0 then [] else [(hb P p v c, mb P p v c m)]) ++ rst P p c m j (v + 1)
        rw [if_neg h0]
        exact List.mem_append_left _ List.mem_cons_self
      have hE2 := En_outs hw he hp ⟨e1, e2, e3, e4, e5⟩ _ _ hmem
      rw [hnp] at hE2
      obtain ⟨S1, y1, y2, y3⟩ := hff (p + 1) (hb P p v c) (mb P p v c m) (d + 1) l S hE2 (by omega) (by omega) hR h3 h4
      have y1 : ff (iv ((p : Int) + 1)) (iv (hx (hb P p v c))) (jv (mb P p v c m)) (iv ((d : Int) + 1)) S = some ((), S1) := y1
      rw [i_1, iv_add, iv_add, iv_add, y1, bnd_s]
      rcases y3 with ⟨y3, y4⟩ | ⟨y3, y4⟩
      · obtain ⟨S2, z1, z2, z3⟩ := ih (v + 1) f _ S1 (by omega) (by omega) (y2.RC hR) y4 y3
        exact ⟨S2, z1, y2.tr z2, z3⟩
      · obtain ⟨f, rfl⟩ : ∃ k, f = k + 1 := ⟨f - 1, by omega⟩
        refine ⟨S1, ?_, y2, Or.inr ⟨?_, y4⟩⟩
        · rw [lp_X3_branch_11]
          split
          · rfl
          · rw [if_pos (by rw [y4]; decide)]
        · show 20000 < ((l ++ R P (p + 1) (hb P p v c) (mb P p v c m)) ++ _).length
          rw [List.length_append]; omega
theorem e_stepf {P : Pr} {S : St} {p : Nat} (hw : Wf P) (hR : RC P S) (hp : ¬ p < pN P) (hp2 : p ≤ 30) : f_X2_isStep (iv (p : Int)) S = some (iv 0, S) := by
  have q1 := hw.1
  have c1 := hR.1
  unfold f_X2_isStep
  simp (disch := omega) only [nxt_e, bnd_s, chk_T, chk_nF, ↓reduceIte, i_0, i_1, i_2, i_3, i_4, i_5, i_6, i_8, i_9, i_10, i_15, i_19, i_20, i_30, i_31, i_40, i_60, i_100, i_200, i_1000, i_20000, iv_neg, iv_add, iv_sub, iv_mul, iv_lt, iv_le, iv_eq, iv_cl, iv_in, ltT, ltF, leT, leF, eqT, eqF, gI_e, gI_n, gI_sA, gI_sL, gI_sB, gL_e, gL_n, gL_sI, gL_sA, gL_sB, gA_e, gA_n, gA_sI, gA_sL, gA_sB, gB_e, gB_n, gB_sI, gB_sL, gB_sA, up_e, up_n, uL_e, uL_n, c1]
theorem outs_n1 {P : Pr} {p c m : Nat} (hm : 0 < m) (k0 : pK P p ≠ 0) : outs P p c m = if mb P p 0 c m = 0 then [] else [(hb P p 0 c, mb P p 0 c m)] := by
  rw [← outC_eq hm (fun z => absurd z k0)]
  unfold wys
  rw [if_neg k0]
  show [] ++ _ = _
  rw [List.nil_append]
theorem fo_loop {P : Pr} {fb : Int32 → Int32 → Int64 → Int32 → St → Option (Unit × St)} {d nn : Nat} (hw : Wf P) (he : EV P) (hfb : ∀ (p c m : Nat) (l : List (Nat × Nat)) (S : St), p < pN P → pK P p = 0 → dl P p < nn → En P p c m → d ≤ cnt (pK P) 0 p → RC P S → SvR l S → l.length ≤ 20000 → ∃ S', fb (iv (p : Int)) (iv (hx c)) (jv m) (iv (d : Int)) S = some ((), S') ∧ FS S S' ∧ Rs (l ++ R P p c m) S') : ∀ (j p c m t fuel : Nat) (l : List (Nat × Nat)) (S : St), pN P - p ≤ j → j + 1 < fuel → t ≤ p → dl P p < nn → En P p c m → d ≤ cnt (pK P) 0 p → RC P S → SvR l S → l.length ≤ 20000 → ∃ S', lp_X3_follow_12 fb (iv (d : Int)) fuel (iv (p : Int)) (iv (hx c)) (jv m) (iv (t : Int)) S = some ((), S') ∧ FS S S' ∧ Rs (l ++ R P p c m) S' := by
  have q1 := hw.1
  have tail : ∀ (c m : Nat) (l : List (Nat × Nat)) (S : St), c < 1000000 → 0 < m → m ≤ 122444006400000000 → SvR l S → l.length ≤ 20000 → ∃ S', (nxt (sI S 303 ((gI S 303) + (1 : Int32))) fun S1 => (if (lg_cmp (jv m) (0 : Int64)) ≤ 0 then (some ((), S1)) else (bnd (f_X3_addAtEnd (iv (hx c)) (jv m) S1) fun r2 S3 => (some ((), S3))))) = some ((), S') ∧ FS S S' ∧ Rs (l ++ [(c, m)]) S' := by
    intro c m l S hc hm hm2 hs hl
    have hlg := lg_le (m : Int) (by omega) (by omega)
    obtain ⟨S', y1, y2, y3, y4, y5⟩ := e_add (S := sI S 303 (gI S 303 + 1)) (m := m) hc hs.2.1 hs.2.2
    refine ⟨S', ?_, ?_, ?_⟩
    · rw [nxt_e, if_neg (fun z => by have := hlg.mp z; omega), y1, bnd_s]
    · have : FS S (sI S 303 (gI S 303 + 1)) := ⟨fun k a _ => gI_n a, fun _ _ => rfl, fun _ => rfl, fun _ _ => rfl⟩
      exact this.tr y5
    · have h303 : gI S' 303 = iv ((l ++ [(c, m)]).length : Int) := by
        rw [y2, gI_e, hs.1, i_1, iv_add, List.length_append]; rfl
      by_cases hn : (l ++ [(c, m)]).length ≤ 20000
      · exact Or.inl ⟨hn, h303, y3, y4⟩
      · refine Or.inr ⟨by omega, ?_⟩
        rw [List.length_append] at hn h303
        have hn : ¬ l.length + 1 ≤ 20000 := hn
        have h303 : gI S' 303 = iv ((l.length + 1 : Nat) : Int) := h303
        rw [h303, show l.length + 1 = 20001 by omega]
        rfl
  intro j
  induction j with
  | zero =>
    intro p c m t fuel l S h1 h2 h3 hnn hE hd hR hs hl
    obtain ⟨f, rfl⟩ : ∃ k, fuel = k + 1 := ⟨fuel - 1, by omega⟩
    have hm := En_m hE
    obtain ⟨e1, e2, e3, e4, e5⟩ := hE
    have es := e_stepf (p := p) hw hR (by omega) (by omega)
    rw [R_end (by omega), lp_X3_follow_12, es, bnd_s, if_pos (show iv 0 = 0 from rfl)]
    have := tail c m l S e2 e3 hm hs hl
    split
    · exact this
    · exact this
  | succ j ih =>
    intro p c m t fuel l S h1 h2 h3 hnn hE hd hR hs hl
    obtain ⟨f, rfl⟩ : ∃ k, fuel = k + 1 := ⟨fuel - 1, by omega⟩
    by_cases hp : p < pN P
    · have hE' := hE
      have hm := En_m hE
      obtain ⟨e1, e2, e3, e4, e5⟩ := hE
      have es := e_step_t (z := (p : Int)) hw hR (by omega) (by omega)
      have ed := e_isD hw hR hp
      have hlg := lg_le (m : Int) (by omega) (by omega)
      have hlgm : ¬ lg_cmp (jv (m : Int)) 0 ≤ 0 := fun z => by have := hlg.mp z; omega
      rw [lp_X3_follow_12, if_neg (by rw [i_30, iv_le (by omega) (by omega) (by omega) (by omega)]; omega), es, bnd_s, if_neg (show ¬ iv 1 = 0 by decide), if_neg hlgm, ed, bnd_s]
      by_cases k0 : pK P p = 0
      · rw [if_pos k0, if_neg (show ¬ iv 1 = 0 by decide)]
        obtain ⟨S', y1, y2, y3⟩ := hfb p c m l S hp k0 hnn hE' hd hR hs hl
        rw [y1, bnd_s]
        exact ⟨S', rfl, y2, y3⟩
      · rw [if_neg k0, if_pos (show iv 0 = 0 by decide)]
        have epl := e_plb hw hR hp e2
        have emb := e_mb (v := 0) (m := m) hw hR hp e2 (by omega) (by omega)
        have ehb := e_hb (v := 0) hw hR hp e2 (by omega)
        have mbl := mb_le (v := 0) (c := c) (m := m) (p := p) hw
        have hq := npl_le (c := c) hp
        rw [i0n] at emb ehb
        rw [i_0, epl, bnd_s, emb, bnd_s, ehb, bnd_s, i_1, iv_add, R_in hw hp]
        have ho := outs_n1 (c := c) (p := p) e3 k0
        by_cases h0 : mb P p 0 c m = 0
        · rw [if_pos h0] at ho
          rw [if_pos ho, h0]
          obtain ⟨f, rfl⟩ : ∃ k, f = k + 1 := ⟨f - 1, by omega⟩
          have hz : lg_cmp (jv ((0 : Nat) : Int)) 0 ≤ 0 := (lg_le ((0 : Nat) : Int) (by omega) (by omega)).mpr rfl
          refine ⟨sI S 303 (gI S 303 + 1), ?_, ⟨fun k a _ => gI_n a, fun _ _ => rfl, fun _ => rfl, fun _ _ => rfl⟩, ?_⟩
          · rw [lp_X3_follow_12]
            have hn30 : npl P p c ≤ 30 := by omega
            simp only [nxt_e, if_pos hz]
            split
            · rfl
            · by_cases hpq : npl P p c < pN P
              · rw [e_step_t (z := (npl P p c : Int)) hw hR (by omega) (by omega), bnd_s, if_neg (show ¬ iv 1 = 0 by decide)]
              · rw [e_stepf hw hR hpq hn30, bnd_s, if_pos (show iv 0 = 0 from rfl)]
          · have hen : ∀ x v, endM x v (l ++ [(1000000, m)]) = endM x v l := by
              intro x v
              rw [endM_app]
              show _ + ((if 1000000 < 1000000 ∧ _ then m else 0) + 0) = _
              rw [if_neg (fun z => absurd z.1 (by omega))]
              rfl
            have h303 : gI (sI S 303 (gI S 303 + 1)) 303 = iv ((l ++ [(1000000, m)]).length : Int) := by
              rw [gI_e, hs.1, i_1, iv_add, List.length_append]; rfl
            by_cases hn : (l ++ [(1000000, m)]).length ≤ 20000
            · refine Or.inl ⟨hn, h303, ?_, fun x v hx hv => ?_⟩
              · rw [hen]; exact hs.2.1
              · rw [hen]; exact hs.2.2 x v hx hv
            · refine Or.inr ⟨by omega, ?_⟩
              rw [List.length_append] at hn h303
              have hn : ¬ l.length + 1 ≤ 20000 := hn
              have h303 : gI (sI S 303 (gI S 303 + 1)) 303 = iv ((l.length + 1 : Nat) : Int) := h303
              rw [h303, show l.length + 1 = 20001 by omega]
              rfl
        · rw [if_neg h0] at ho
          have hE2 := En_outs hw he hp hE' (hb P p 0 c) (mb P p 0 c m) (by rw [ho]; exact List.mem_cons_self)
          rw [if_neg (by rw [ho]; exact List.cons_ne_nil _ _), ho, List.flatMap_singleton]
          exact ih (npl P p c) (hb P p 0 c) (mb P p 0 c m) (t + 1) f l S (by omega) (by omega) (by omega) (by have := dl_le (P := P) (show p ≤ npl P p c by omega); omega) hE2 (by have := cnt_le (K := pK P) (j := 0) (show p ≤ npl P p c by omega); omega) hR hs hl
    · have hm := En_m hE
      obtain ⟨e1, e2, e3, e4, e5⟩ := hE
      have es := e_stepf (p := p) hw hR (by omega) (by omega)
      rw [R_end (by omega), lp_X3_follow_12, es, bnd_s, if_pos (show iv 0 = 0 from rfl)]
      have := tail c m l S e2 e3 hm hs hl
      split
      · exact this
      · exact this
theorem fol_ok {P : Pr} (hw : Wf P) (he : EV P) : ∀ n, FolOk P (fol n) n
  | 0 => fun p c m d l S _ _ h => absurd h (by omega)
  | n + 1 => by
    intro p c m d l S hE hd hn hR hs hl
    have q1 := hw.1
    have ih := fol_ok hw he n
    have hgo := fo_loop (fb := fun a b c e S => g_X3_branch (fol n) a b c e S) (d := d) (nn := n + 1) hw he (fun p c m l S hp k0 hnn hE hd hR hs hl => by
      have hcp := cnt_lt (K := pK P) hp k0
      have hc8 := hw.2.2.2.2.2.1
      obtain ⟨S', y1, y2, y3⟩ := br_loop hw he ih hp k0 hE hd hnn 10 0 FU l S (by omega) (by rw [FU_v]; omega) hR hs hl
      refine ⟨S', ?_, y2, ?_⟩
      · show g_X3_branch (fol n) (iv (p : Int)) (iv (hx c)) (jv m) (iv (d : Int)) S = _
        unfold g_X3_branch
        rw [if_pos (by rw [i_8, iv_lt (by omega) (by omega) (by omega) (by omega)]; omega), i_0, ← i0n]
        exact y1
      · obtain ⟨e1, e2, e3, e4, e5⟩ := hE
        have h60 := div60 hw hp k0 e4
        have hnp : npl P p c = p + 1 := by unfold npl; rw [if_neg (by omega)]
        have hoc := outC_eq (P := P) (p := p) (c := c) e3 (fun _ => h60)
        rw [show wys P p = 10 by unfold wys; rw [if_pos k0]] at hoc
        rw [rst_0, hoc] at y3
        rw [R_in hw hp, if_neg (outs_D he hp k0 e3 h60), hnp]
        exact y3) (pN P - p) p c m 0 FU l S (Nat.le_refl _) (by rw [FU_v]; omega) (Nat.zero_le _) hn hE hd hR hs hl
    rw [i0n] at hgo
    exact hgo
