/-! ===== one work: reference ===== -/
def stW (L : Ld) (w : Nat) : Ld := (L.1, L.2.1, L.2.2.1, L.2.2.2.1, w)
theorem cmF_stW (q w : Nat) : ∀ (o : List (Nat × Nat)) (L : Ld), cmF q o (stW L w) = stW (cmF q o L) w
  | [], L => rfl
  | a :: t, L => cmF_stW q w t (cmL L q a.1 a.2)
theorem insF_app : ∀ (a b l : List (Nat × Nat)), insF (a ++ b) l = insF b (insF a l)
  | [], b, l => rfl
  | x :: a, b, l => insF_app a b (ins x.1 x.2 l)
theorem room_at {o a b : List (Nat × Nat)} {c m : Nat} {l0 : List (Nat × Nat)} (hs0 : srt l0) (hrm : l0.length + frn (cdA o) l0 o.length ≤ 200) (ho : o = a ++ (c, m) :: b) : (insF a l0).length ≤ 200 ∧ (hs c (insF a l0) = 1 ∨ (insF a l0).length < 200) ∧ srt (insF a l0) := by
  have hcs : ∀ i x, o[i]? = some x → cdA o i = x.1 := by
    intro i x h
    unfold cdA
    rw [h]
  have hol : o.length = a.length + 1 + b.length := by
    rw [ho, List.length_append]
    show a.length + (b.length + 1) = _
    omega
  have t1 := insF_take hs0 (cdA o) hcs a.length (by omega)
  have t2 := insF_take hs0 (cdA o) hcs (a.length + 1) (by omega)
  have e1 : o.take a.length = a := by rw [ho]; simp
  have e2 : o.take (a.length + 1) = a ++ [(c, m)] := by
    rw [ho, show a ++ (c, m) :: b = (a ++ [(c, m)]) ++ b by simp]
    exact List.take_left' (by simp)
  have f1 := frn_mono (cdA o) l0 b.length (a.length + 1)
  have f2 := frn_mono (cdA o) l0 1 a.length
  rw [← hol] at f1
  rw [e1] at t1
  rw [e2, insF_app, show insF [(c, m)] (insF a l0) = ins c m (insF a l0) from rfl, ins_len] at t2
  have hsl := hs_le c (insF a l0)
  refine ⟨by omega, ?_, t1.2⟩
  by_cases h : hs c (insF a l0) = 1
  · exact Or.inl h
  · right; omega
theorem Fl.tr {S S1 S2 : St} (h : Fl S S1) (g : Fl S1 S2) : Fl S S2 := ⟨fun k => (g.1 k).trans (h.1 k), fun k => (g.2.1 k).trans (h.2.1 k), fun k a b c d => (g.2.2.1 k a b c d).trans (h.2.2.1 k a b c d), fun k a => (g.2.2.2 k a).trans (h.2.2.2 k a)⟩
theorem Fl.MR {S S' : St} {o : List (Nat × Nat)} (h : Fl S S') (hm : MR o S) : MR o S' := by
  refine ⟨by rw [h.1]; exact hm.1, fun i c m hi => ?_⟩
  rw [h.2.2.1 14 (by decide) (by decide) (by decide) (by decide), h.2.2.2 15 (by decide)]
  exact hm.2 i c m hi
theorem shift_loop {p n0 : Nat} {x1 x2 : Int32} {k35 : Int32 → Int32 → St → Option (Int32 × St)} (hp : p ≤ 30) (hn : n0 ≤ 199) : ∀ (j k fuel : Nat) (S : St), k + j = n0 → j < fuel → gA S 8 p = iv (n0 : Int) → ∃ S', lp_X5_list_67 x1 x2 (iv (p : Int)) k35 fuel (iv (k : Int)) S = lp_X5_list_156 x1 x2 k35 FU (iv 0) S' ∧ (∀ k, gI S' k = gI S k) ∧ gL S' 13 = gL S 13 + gL S 22 ∧ (∀ k, k ≠ 13 → gL S' k = gL S k) ∧ (∀ k, k ≠ 11 → gA S' k = gA S k) ∧ (∀ k, k ≠ 12 → gB S' k = gB S k) ∧ (∀ x, gA S' 11 x = if 200 * p + k ≤ x ∧ x < 200 * p + n0 then gA S 11 (x + 1) else gA S 11 x) ∧ (∀ x, gB S' 12 x = if 200 * p + k ≤ x ∧ x < 200 * p + n0 then gB S 12 (x + 1) else gB S 12 x) := by
  intro j
  induction j with
  | zero =>
    intro k fuel S h1 h2 h3
    obtain ⟨n, rfl⟩ : ∃ k, fuel = k + 1 := ⟨fuel - 1, by omega⟩
    rw [lp_X5_list_67]
    simp (disch := omega) only [nxt_e, bnd_s, chk_T, chk_nF, ↓reduceIte, i_0, i_1, i_2, i_3, i_4, i_5, i_6, i_8, i_9, i_10, i_15, i_19, i_20, i_30, i_31, i_40, i_60, i_100, i_200, i_1000, i_20000, iv_neg, iv_add, iv_sub, iv_mul, iv_lt, iv_le, iv_eq, iv_cl, iv_in, ltT, ltF, leT, leF, eqT, eqF, Int.toNat_natCast, h3]
    refine ⟨_, rfl, fun _ => rfl, gL_e _ _ _, fun k hk => gL_n hk, fun _ _ => rfl, fun _ _ => rfl, fun x => ?_, fun x => ?_⟩
    · rw [if_neg (by omega)]; rfl
    · rw [if_neg (by omega)]; rfl
  | succ j ih =>
    intro k fuel S h1 h2 h3
    obtain ⟨n, rfl⟩ : ∃ k, fuel = k + 1 := ⟨fuel - 1, by omega⟩
    rw [lp_X5_list_67]
    simp (disch := omega) only [nxt_e, bnd_s, chk_T, chk_nF, ↓reduceIte, i_0, i_1, i_2, i_3, i_4, i_5, i_6, i_8, i_9, i_10, i_15, i_19, i_20, i_30, i_31, i_40, i_60, i_100, i_200, i_1000, i_20000, iv_neg, iv_add, iv_sub, iv_mul, iv_lt, iv_le, iv_eq, iv_cl, iv_in, ltT, ltF, leT, leF, eqT, eqF, gI_e, gI_n, gI_sA, gI_sL, gI_sB, gL_e, gL_n, gL_sI, gL_sA, gL_sB, gA_e, gA_n, gA_sI, gA_sL, gA_sB, gB_e, gB_n, gB_sI, gB_sL, gB_sA, up_e, up_n, uL_e, uL_n, Int.toNat_natCast, h3, show ((200 : Int) * (p : Int) + (k : Int)).toNat = 200 * p + k by omega, show ((200 : Int) * (p : Int) + (k : Int) + 1).toNat = 200 * p + k + 1 by omega]
    obtain ⟨S', y1, y2, y3, y4, y5, y6, y7, y8⟩ := ih (k + 1) n (sB (sA S 11 (upd (gA S 11) (200 * p + k) (gA S 11 (200 * p + k + 1)))) 12 (vp_updL (gB S 12) (200 * p + k) (gB S 12 (200 * p + k + 1)))) (by omega) (by omega) h3
    refine ⟨S', y1, y2, y3, y4, fun k hk => ?_, fun k hk => ?_, fun x => ?_, fun x => ?_⟩
    · rw [y5 k hk]; exact gA_n hk
    · rw [y6 k hk]; exact gB_n hk
    · rw [y7]
      simp (disch := omega) only [gI_e, gI_n, gI_sA, gI_sL, gI_sB, gL_e, gL_n, gL_sI, gL_sA, gL_sB, gA_e, gA_n, gA_sI, gA_sL, gA_sB, gB_e, gB_n, gB_sI, gB_sL, gB_sA, up_e, up_n, uL_e, uL_n]
      by_cases e : x = 200 * p + k
      · rw [if_neg (by omega), if_pos (by omega), up_e e, e]
      · by_cases d : 200 * p + k ≤ x ∧ x < 200 * p + n0
        · rw [if_pos (by omega), if_pos d]
        · rw [if_neg (by omega), if_neg d, up_n e]
    · rw [y8]
      simp (disch := omega) only [gI_e, gI_n, gI_sA, gI_sL, gI_sB, gL_e, gL_n, gL_sI, gL_sA, gL_sB, gA_e, gA_n, gA_sI, gA_sL, gA_sB, gB_e, gB_n, gB_sI, gB_sL, gB_sA, up_e, up_n, uL_e, uL_n]
      by_cases e : x = 200 * p + k
      · rw [if_neg (by omega), if_pos (by omega), uL_e e, e]
      · by_cases d : 200 * p + k ≤ x ∧ x < 200 * p + n0
        · rw [if_pos (by omega), if_pos d]
        · rw [if_neg (by omega), if_neg d, uL_n e]
theorem comes_loop {P : Pr} {L1 : Ld} {q : Nat} {o : List (Nat × Nat)} {x1 x2 : Int32} {k35 : Int32 → Int32 → St → Option (Int32 × St)} (hq : q ≤ 30) (hsr : srt (lLs L1 q)) (hlen : ∀ r, (lLs L1 r).length ≤ 200) (hcd : ∀ r c m, (c, m) ∈ lLs L1 r → c < 1000000 ∧ 0 < m) (ho : ∀ c m, (c, m) ∈ o → c < 1000000 ∧ 0 < m) (ho10 : o.length ≤ 10) (hrm : (lLs L1 q).length + frn (cdA o) (lLs L1 q) o.length ≤ 200) : ∀ (b a : List (Nat × Nat)) (fuel : Nat) (S : St), o = a ++ b → b.length < fuel → RML P (cmF q a L1) S → MR o S → gI S 21 = iv (q : Int) → ∃ S', lp_X5_list_156 x1 x2 k35 fuel (iv (a.length : Int)) S = bnd (f_X5_least S') (fun r13 S14 => k35 (x2 + 1) r13 S14) ∧ RML P (cmF q o L1) S' ∧ Fl S S' := by
  intro b
  induction b with
  | nil =>
    intro a fuel S h1 h2 h3 h4 h5
    obtain ⟨n, rfl⟩ : ∃ k, fuel = k + 1 := ⟨fuel - 1, by have : 0 < fuel := h2; omega⟩
    rw [List.append_nil] at h1
    subst h1
    rw [lp_X5_list_156, h4.1, if_pos ((iv_le (by omega) (by omega) (by omega) (by omega)).mpr (Int.le_refl _))]
    exact ⟨S, rfl, h3, ⟨fun _ => rfl, fun _ => rfl, fun _ _ _ _ _ => rfl, fun _ _ => rfl⟩⟩
  | cons x b ih =>
    intro a fuel S h1 h2 h3 h4 h5
    obtain ⟨c, m⟩ := x
    have h2 : b.length + 1 < fuel := h2
    obtain ⟨n, rfl⟩ : ∃ k, fuel = k + 1 := ⟨fuel - 1, by omega⟩
    have hol : o.length = a.length + 1 + b.length := by
      rw [h1, List.length_append]
      show a.length + (b.length + 1) = _
      omega
    have hg : o[a.length]? = some (c, m) := by rw [h1]; simp
    obtain ⟨g1, g2⟩ := h4.2 _ c m hg
    obtain ⟨r1, r2, r3⟩ := room_at hsr hrm h1
    have hcm := ho c m (List.mem_of_getElem? hg)
    have hLq : ∀ r, lLs (cmF q a L1) r = if r = q then insF a (lLs L1 q) else lLs L1 r := fun r => cmF_Ls q a L1 r
    obtain ⟨S', z1, z2, z3⟩ := e_comeM (m := m) h3 hq hcm.1 (fun r => by
        rw [hLq]
        split
        · exact r1
        · exact hlen r) (fun r c' m' hm' => by
        rw [hLq] at hm'
        split at hm'
        · exact (insF_all (Q := fun _ => True) (fun _ _ _ _ => trivial) a (lLs L1 q) (fun c2 m2 h => by
            have := ho c2 m2 (by rw [h1]; exact List.mem_append_left _ h)
            exact ⟨this.1, this.2, trivial⟩) (fun c2 m2 h => ⟨(hcd q c2 m2 h).1, (hcd q c2 m2 h).2, trivial⟩) c' m' hm').1
        · exact (hcd r c' m' hm').1) (by rw [hLq, if_pos rfl]; exact r2)
    rw [lp_X5_list_156, h4.1, if_neg (by rw [iv_le (by omega) (by omega) (by omega) (by omega)]; omega), iv_in (by omega) (by omega) (by omega), chk_T, chk_T, iv_cl (by omega) (by omega), Int.toNat_natCast, g1, g2, h5, z1, bnd_s]
    obtain ⟨S2, y1, y2, y3⟩ := ih (a ++ [(c, m)]) n S' (by rw [h1]; simp) (by omega) (by rw [cmF_app]; exact z2) (z3.MR h4) (by rw [z3.1]; exact h5)
    refine ⟨S2, ?_, y2, z3.tr y3⟩
    rw [← y1, i_1, iv_add, List.length_append]
    rfl
theorem RML_Fm {P : Pr} {L : Ld} {S S' : St} (h : Fm S S') (hR : RML P L S) : RML P L S' := by
  obtain ⟨h1, h2, h3, h4, h5, h6, h7⟩ := hR
  obtain ⟨a, b, c, d⟩ := h
  refine ⟨?_, ?_, ?_, ?_, ?_, ?_, ?_⟩
  · rw [c 8 (by decide)]; exact h1
  · rw [c 11 (by decide), d 12 (by decide)]; exact h2
  · rw [c 9 (by decide)]; exact h3
  · rw [c 10 (by decide)]; exact h4
  · rw [b 13 (by decide)]; exact h5
  · rw [a 12 (by decide) (by decide)]; exact h6
  · rw [c 13 (by decide)]; exact h7
theorem RM_Fm {P : Pr} {S S' : St} (h : Fm S S') (hR : RM P S) : RM P S' := by
  obtain ⟨m1, m2, m3, m4, m5, m6, m7, m8, m9, m10⟩ := hR
  obtain ⟨a, b, c, d⟩ := h
  refine ⟨?_, ?_, ?_, ?_, ?_, ?_, ?_, ?_, ?_, ?_⟩
  · rw [a 1 (by decide) (by decide)]; exact m1
  · rw [a 2 (by decide) (by decide)]; exact m2
  · rw [a 3 (by decide) (by decide)]; exact m3
  · rw [c 1 (by decide)]; exact m4
  · rw [c 2 (by decide)]; exact m5
  · rw [c 3 (by decide)]; exact m6
  · rw [c 4 (by decide)]; exact m7
  · rw [c 5 (by decide)]; exact m8
  · rw [c 6 (by decide)]; exact m9
  · rw [c 7 (by decide)]; exact m10
theorem e_mvM {P : Pr} {L : Ld} {S : St} {p c m : Nat} {t : List (Nat × Nat)} {x1 x2 : Int32} {k35 : Int32 → Int32 → St → Option (Int32 × St)} (hw : Wf P) (hR : RM P S) (hL : RML P L S) (hW : WfL P L) (hp : p < pN P) (hl : lLs L p = (c, m) :: t) (hr : rmS P L p c m = 1) (hMR : MR (co P (npl P p c) (outs P p c m)) S) (h21 : gI S 21 = iv (npl P p c)) (h22 : gL S 22 = jv (lst P p c m)) : ∃ S', lp_X5_list_67 x1 x2 (iv (p : Int)) k35 FU (iv 0) (sA S 8 (upd (gA S 8) p (iv (t.length : Int)))) = bnd (f_X5_least S') (fun r S'' => k35 (x2 + 1) r S'') ∧ RM P S' ∧ RML P (stW (mvL P L p c m) (lWk L)) S' ∧ gI S' 11 = gI S 11 := by
  have q1 := hw.1
  have hq := npl_le (c := c) hp
  have ht : t.length ≤ 199 := by
    have := hW.2.1 p
    rw [hl] at this
    have this : t.length + 1 ≤ 200 := this
    omega
  have hcm := hW.2.2.2.1 p c m (by rw [hl]; exact List.mem_cons_self)
  have ok := outs_ok hw hp hcm.1 hcm.2.1 hcm.2.2
  obtain ⟨S1, y1, y2, y3, y4, y5, y6, y7, y8⟩ := shift_loop (x1 := x1) (x2 := x2) (k35 := k35) (p := p) (n0 := t.length) (by omega) ht t.length 0 FU (sA S 8 (upd (gA S 8) p (iv (t.length : Int)))) (by omega) (by rw [FU_v]; omega) (by rw [gA_e, up_e rfl])
  rw [i0n] at y1
  rw [y1]
  have hne : npl P p c ≠ p := by omega
  have hLs : ∀ r, lLs (stW (rmv L p (lst P p c m)) (lWk L)) r = va_up (lLs L) p t r := by
    intro r
    show va_up (lLs L) p (lLs L p).tail r = _
    rw [hl]; rfl
  have hF1 : RM P S1 := by
    obtain ⟨m1, m2, m3, m4, m5, m6, m7, m8, m9, m10⟩ := hR
    refine ⟨?_, ?_, ?_, ?_, ?_, ?_, ?_, ?_, ?_, ?_⟩
    · rw [y2]; exact m1
    · rw [y2]; exact m2
    · rw [y2]; exact m3
    all_goals (rw [y5 _ (by decide), gA_n (by decide)]; assumption)
  have hR1 : RML P (stW (rmv L p (lst P p c m)) (lWk L)) S1 := by
    obtain ⟨h1, h2, h3, h4, h5, h6, h7⟩ := hL
    refine ⟨fun r hr' => ?_, fun r i c' m' hr' hi => ?_, ?_, ?_, ?_, ?_, ?_⟩
    · rw [hLs, y5 8 (by decide), gA_e]
      by_cases e : r = p
      · rw [vup_e e, up_e e]
      · rw [vup_n e, up_n e]; exact h1 r hr'
    · rw [hLs] at hi
      rw [y7, y8]
      by_cases e : r = p
      · subst e
        rw [vup_e rfl] at hi
        have hil := (List.getElem?_eq_some_iff.mp hi).1
        rw [if_pos (by omega), if_pos (by omega)]
        exact h2 r (i + 1) c' m' hr' (by rw [hl]; exact hi)
      · rw [vup_n e] at hi
        have hil := (List.getElem?_eq_some_iff.mp hi).1
        have := hW.2.1 r
        rw [if_neg (by omega), if_neg (by omega)]
        exact h2 r i c' m' hr' hi
    · rw [y5 9 (by decide), gA_n (by decide)]; exact h3
    · rw [y5 10 (by decide), gA_n (by decide)]; exact h4
    · rw [y3]
      show gL S 13 + gL S 22 = jv ((lLo L + lst P p c m : Nat) : Int)
      rw [h5, h22, jv_add, Int.natCast_add]
    · rw [y2]; exact h6
    · rw [y5 13 (by decide), gA_n (by decide)]; exact h7
  have hlq : lLs (stW (rmv L p (lst P p c m)) (lWk L)) (npl P p c) = lLs L (npl P p c) := by rw [hLs, vup_n hne]
  obtain ⟨S2, z1, z2, z3⟩ := comes_loop (P := P) (L1 := stW (rmv L p (lst P p c m)) (lWk L)) (q := npl P p c) (o := co P (npl P p c) (outs P p c m)) (x1 := x1) (x2 := x2) (k35 := k35) (by omega) (by rw [hlq]; exact hW.2.2.1 _) (fun r => by
      rw [hLs]
      by_cases e : r = p
      · rw [vup_e e]; omega
      · rw [vup_n e]; exact hW.2.1 r) (fun r c' m' hm' => by
      rw [hLs] at hm'
      by_cases e : r = p
      · rw [vup_e e] at hm'
        have := hW.2.2.2.1 p c' m' (by rw [hl]; exact List.mem_cons_of_mem _ hm')
        exact ⟨this.1, this.2.1⟩
      · rw [vup_n e] at hm'
        have := hW.2.2.2.1 r c' m' hm'
        exact ⟨this.1, this.2.1⟩) (fun c' m' hm' => by
      obtain ⟨c3, w1, w2⟩ := co_mem hm'
      have := ok c3 m' w1
      exact ⟨by rw [w2]; exact ct_lt this.1, this.2.1⟩) (by rw [co_len]; exact outs_len) (by rw [hlq, co_len]; exact rm_len hr) (co P (npl P p c) (outs P p c m)) [] FU S1 rfl (by rw [FU_v, co_len]; have := outs_len (P := P) (p := p) (c := c) (m := m); omega) hR1 (by
      refine ⟨by rw [y2]; exact hMR.1, fun i c' m' hi => ?_⟩
      rw [y5 14 (by decide), gA_n (by decide), y6 15 (by decide)]
      exact hMR.2 i c' m' hi) (by rw [y2]; exact h21)
  refine ⟨S2, ?_, z3.RM hF1, ?_, ?_⟩
  · rw [← z1]; rfl
  · unfold mvL
    rw [← cmF_stW]
    exact z2
  · rw [z3.1, y2]; rfl
