/-! ===== one work: class ===== -/
def adL (L : Ld) (x : Nat) : Ld := (L.1, L.2.1, L.2.2.1, L.2.2.2.1 + x, L.2.2.2.2)
theorem cmF_adL (q x : Nat) : ∀ (o : List (Nat × Nat)) (L : Ld), cmF q o (adL L x) = adL (cmF q o L) x
  | [], L => rfl
  | a :: t, L => cmF_adL q x t (cmL L q a.1 a.2)
theorem outC_app {P : Pr} {p c m : Nat} (v : Nat) : ∀ d, ∃ b, outC P p c m (v + d) = outC P p c m v ++ b
  | 0 => ⟨[], by rw [List.append_nil]; rfl⟩
  | d + 1 => by
    obtain ⟨b, hb1⟩ := outC_app (P := P) (p := p) (c := c) (m := m) v d
    refine ⟨b ++ (if mb P p (v + d) c m = 0 then [] else [(hb P p (v + d) c, mb P p (v + d) c m)]), ?_⟩
    rw [← List.append_assoc, ← hb1]
    rfl
theorem lst_mb {P : Pr} {p c m : Nat} (hm : 0 < m) (k0 : pK P p ≠ 0) : lst P p c m = if mb P p 0 c m = 0 then m else 0 := by
  unfold lst mb
  rw [if_neg k0]
  split
  · split
    · rfl
    · rw [if_neg (by omega)]
  · split
    · split
      · rename_i h; rw [h, Nat.mul_zero, if_pos rfl]
      · rename_i h
        rw [if_neg (fun z => h ((Nat.mul_eq_zero.mp z).resolve_left (by omega)))]
    · rw [if_neg (by omega)]
theorem lst_D {P : Pr} {p c m : Nat} (k0 : pK P p = 0) : lst P p c m = 0 := by
  unfold lst
  rw [if_neg (by omega), if_neg (by omega)]
theorem RCF_sL {P : Pr} {L : Ld} {S : St} {fs : Nat → Nat} {x : Nat} (h : RCF fs P L S) : RCF fs P (adL L x) (sL S 109 (gL S 109 + jv x)) := by
  obtain ⟨h1, h2, h3, h4, h5, h6⟩ := h
  refine ⟨h1, h2, h3, h4, ?_, h6⟩
  rw [gL_e, h5, jv_add]
  show _ = jv ((lLo L + x : Nat) : Int)
  rw [Int.natCast_add]
theorem adL0 (L : Ld) : adL L 0 = L := rfl
def QC (P : Pr) (S : St) : Prop := RC P S ∧ RCK P S ∧ gI S 108 = iv 1
theorem mv_loop {P : Pr} {L1 : Ld} {fs : Nat → Nat} {p q c m : Nat} (hw : Wf P) (hp : p < pN P) (hq : q ≤ pN P) (hc : c < 1000000) (hm : 0 < m) (hm2 : m * 60 < 9223372036854775808) (hd : pK P p = 0 → 60 ∣ m) (hfq : fs q = 0) (hsr : srt (lLs L1 q)) (hcd : ∀ r c m, (c, m) ∈ lLs L1 r → c < 1000000 ∧ 0 < m) (hoc : ∀ c' m', (c', m') ∈ outs P p c m → c' < 1000000 ∧ 0 < m') (hrm : (lLs L1 q).length + frn (cdA (co P q (outs P p c m))) (lLs L1 q) (outs P p c m).length ≤ 200) : ∀ (j v fuel : Nat) (S : St), j + v = wys P p → j < fuel → QC P S → RCF fs P (cmF q (co P q (outC P p c m v)) (adL L1 (if 0 < v then lst P p c m else 0))) S → ∃ S', lp_X1_moveLeast_58 (iv (p : Int)) (iv (hx c)) (jv m) (iv (q : Int)) (iv (wys P p)) fuel (iv (v : Int)) S = some ((), S') ∧ RCF fs P (cmF q (co P q (outs P p c m)) (adL L1 (lst P p c m))) S' ∧ QC P S' := by
  have q1 := hw.1
  have hwy : wys P p ≤ 10 := by unfold wys; split <;> omega
  have hwy0 : 0 < wys P p := by unfold wys; split <;> omega
  intro j
  induction j with
  | zero =>
    intro v fuel S h1 h2 h3 h4
    obtain ⟨n, rfl⟩ : ∃ k, fuel = k + 1 := ⟨fuel - 1, by omega⟩
    rw [lp_X1_moveLeast_58, if_pos ((iv_le (by omega) (by omega) (by omega) (by omega)).mpr (by omega))]
    refine ⟨S, rfl, ?_, h3⟩
    rw [show v = wys P p by omega, outC_eq hm hd, if_pos hwy0] at h4
    exact h4
  | succ j ih =>
    intro v fuel S h1 h2 h3 h4
    obtain ⟨n, rfl⟩ : ∃ k, fuel = k + 1 := ⟨fuel - 1, by omega⟩
    have emb := e_mb (v := v) (m := m) hw h3.1 hp hc (by omega) hm2
    have ehb := e_hb (v := v) hw h3.1 hp hc (by omega)
    have eid := e_isD hw h3.1 hp
    have mbl := mb_le (v := v) (c := c) (m := m) (p := p) hw
    have hlg := lg_le (mb P p v c m : Int) (by omega) (by omega)
    rw [lp_X1_moveLeast_58, if_neg (by rw [iv_le (by omega) (by omega) (by omega) (by omega)]; omega), emb, bnd_s]
    by_cases h0 : mb P p v c m = 0
    · rw [if_pos (hlg.mpr (by omega)), eid, bnd_s]
      have e1 : outC P p c m (v + 1) = outC P p c m v := by
        show outC P p c m v ++ (if mb P p v c m = 0 then [] else [(hb P p v c, mb P p v c m)]) = _
        rw [if_pos h0, List.append_nil]
      by_cases k0 : pK P p = 0
      · rw [if_pos k0, if_neg (show ¬ iv 1 = 0 by decide), i_1, iv_add]
        refine ih (v + 1) n S (by omega) (by omega) h3 ?_
        rw [e1]
        rw [lst_D k0] at h4 ⊢
        rw [ite_self] at h4 ⊢
        exact h4
      · rw [if_neg k0, if_pos (show iv 0 = 0 by decide), nxt_e, i_1, iv_add]
        have hv0 : v = 0 := by
          have : wys P p = 1 := by unfold wys; rw [if_neg k0]
          omega
        subst hv0
        refine ih (0 + 1) n _ (by omega) (by omega) ⟨RC_sL h3.1, RCK_sL (by decide) h3.2.1, h3.2.2⟩ ?_
        rw [e1]
        rw [if_neg (by omega)] at h4
        rw [if_pos (by omega), lst_mb hm k0, if_pos h0, cmF_adL]
        rw [cmF_adL, adL0] at h4
        exact RCF_sL h4
    · have e1 : outC P p c m (v + 1) = outC P p c m v ++ [(hb P p v c, mb P p v c m)] := by
        show outC P p c m v ++ (if mb P p v c m = 0 then [] else [(hb P p v c, mb P p v c m)]) = _
        rw [if_neg h0]
      rw [if_neg (fun z => h0 (by have := hlg.mp z; omega)), ehb, bnd_s]
      obtain ⟨b, hb'⟩ := outC_app (P := P) (p := p) (c := c) (m := m) (v + 1) j
      rw [show v + 1 + j = wys P p by omega, outC_eq hm hd, e1] at hb'
      have ho : co P q (outs P p c m) = co P q (outC P p c m v) ++ (ct (hb P p v c) (LV P q), mb P p v c m) :: co P q b := by
        rw [hb']
        unfold co
        simp
      obtain ⟨r1, r2, r3⟩ := room_at hsr (by rw [co_len]; exact hrm) ho
      have hLq : ∀ x r, lLs (cmF q (co P q (outC P p c m v)) (adL L1 x)) r = if r = q then insF (co P q (outC P p c m v)) (lLs L1 q) else lLs L1 r := fun x r => cmF_Ls q _ (adL L1 x) r
      have hin : ∀ c' m', (c', m') ∈ co P q (outC P p c m v) → c' < 1000000 ∧ 0 < m' := by
        intro c' m' h
        obtain ⟨c3, w1, w2⟩ := co_mem h
        have := hoc c3 m' (by rw [hb']; exact List.mem_append_left _ (List.mem_append_left _ w1))
        exact ⟨by rw [w2]; exact ct_lt this.1, this.2⟩
      obtain ⟨S1, z1, z2, z3⟩ := e_comeC (c0 := hb P p v c) (m := mb P p v c m) h4 (show q ≤ 30 by omega) hq (hb_lt hw hc (by omega)) (by rw [hLq, if_pos rfl]; exact r3) (fun r c' m' hm' => by
        rw [hLq] at hm'
        split at hm'
        · exact (insF_all (Q := fun _ => True) (fun _ _ _ _ => trivial) _ _ (fun c2 m2 h => ⟨(hin c2 m2 h).1, (hin c2 m2 h).2, trivial⟩) (fun c2 m2 h => ⟨(hcd q c2 m2 h).1, (hcd q c2 m2 h).2, trivial⟩) c' m' hm').1
        · exact (hcd r c' m' hm').1) (by rw [hLq, if_pos rfl, hfq, Nat.zero_add]; exact r2)
      rw [z1, bnd_s, i_1, iv_add]
      refine ih (v + 1) n S1 (by omega) (by omega) ⟨z3.RC h3.1, RCK_Fl (by omega) z3 h3.2.1, by rw [z3.1]; exact h3.2.2⟩ ?_
      have e2 : co P q (outC P p c m (v + 1)) = co P q (outC P p c m v) ++ [(ct (hb P p v c) (LV P q), mb P p v c m)] := by
        rw [e1]; unfold co; simp
      have e3 : (if 0 < v then lst P p c m else 0) = (if 0 < v + 1 then lst P p c m else 0) := by
        rw [if_pos (show 0 < v + 1 by omega)]
        split
        · rfl
        · by_cases k0 : pK P p = 0
          · rw [lst_D k0]
          · have hv0 : v = 0 := by
              have : wys P p = 1 := by unfold wys; rw [if_neg k0]
              omega
            rw [hv0] at h0
            rw [lst_mb hm k0, if_neg h0]
      rw [e2, ← e3, cmF_app]
      exact z2
theorem e_mvC {P : Pr} {L : Ld} {S : St} {p c m : Nat} {t : List (Nat × Nat)} (hw : Wf P) (hQ : QC P S) (hL : RCL P L S) (hW : WfL P L) (hp : p < pN P) (hl : lLs L p = (c, m) :: t) (hem : ∀ q, q < p → lLs L q = []) (hr : rmS P L p c m = 1) : ∃ S', f_X1_moveLeast (iv (p : Int)) S = some ((), S') ∧ QC P S' ∧ RCL P (mvL P L p c m) S' := by
  have q1 := hw.1
  have hq := npl_le (c := c) hp
  have hne : npl P p c ≠ p := by omega
  have h0 : (lLs L p)[0]? = some (c, m) := by rw [hl]; rfl
  have hcm := hW.2.2.2.1 p c m (by rw [hl]; exact List.mem_cons_self)
  have ok := outs_ok hw hp hcm.1 hcm.2.1 hcm.2.2
  have hbd := mass_bd hw hW (show p ≤ pN P by omega) (show (c, m) ∈ lLs L p by rw [hl]; exact List.mem_cons_self)
  have ehd := e_held hL (show p ≤ 30 by omega) h0
  have ems := e_mass hL (show p ≤ 30 by omega) h0
  have epl := e_plb hw hQ.1 hp hcm.1
  have ew := e_wys hw hQ.1 hp
  rw [i0n] at ehd ems
  obtain ⟨fs, hF, hz⟩ := RCL_to hL
  have hfq : fs (npl P p c) = 0 := by
    rcases Nat.eq_zero_or_pos (fs (npl P p c)) with h | h
    · exact h
    · have := hz (npl P p c) p hq.1 (by omega)
      rw [hl] at this
      cases this
  obtain ⟨x1, x2, x3, x4, x5, x6⟩ := hF
  obtain ⟨y1, y2, y3⟩ := x1 p (by omega)
  have hlen : (lLs L p).length = t.length + 1 := by rw [hl]; rfl
  unfold f_X1_moveLeast
  rw [i_0, ehd, bnd_s, ems, bnd_s, epl, bnd_s, ew, bnd_s]
  simp (disch := omega) only [nxt_e, bnd_s, chk_T, chk_nF, ↓reduceIte, i_1, iv_in, iv_cl, Int.toNat_natCast, y1, iv_add]
  have hLs : ∀ r, lLs (rmv L p 0) r = va_up (lLs L) p t r := by
    intro r
    show va_up (lLs L) p (lLs L p).tail r = _
    rw [hl]; rfl
  have hlq : lLs (rmv L p 0) (npl P p c) = lLs L (npl P p c) := by rw [hLs, vup_n hne]
  have hF1 : RCF (va_up fs p (fs p + 1)) P (rmv L p 0) (sI (sA S 13 (upd (gA S 13) p (iv ((fs p : Int) + 1)))) 110 (gI S 110 + iv 1)) := by
    refine ⟨fun r hr' => ?_, fun r hr' => ?_, fun r i c' m' hr' hi => ?_, fun r hr' => ?_, x5, ?_⟩
    · obtain ⟨u1, u2, u3⟩ := x1 r hr'
      simp (disch := omega) only [gA_sI, gA_e, gA_n]
      rw [hLs]
      by_cases e : r = p
      · subst e
        rw [vup_e rfl, vup_e rfl, up_e rfl, u2, hlen]
        refine ⟨rfl, ?_, by omega⟩
        rw [show fs r + 1 + t.length = fs r + (t.length + 1) by omega]
      · rw [vup_n e, vup_n e, up_n e]
        exact ⟨u1, u2, u3⟩
    · simp (disch := omega) only [gA_sI, gA_n]
      exact x2 r hr'
    · rw [hLs] at hi
      simp (disch := omega) only [gA_sI, gB_sI, gB_sA, gA_n]
      by_cases e : r = p
      · subst e
        rw [vup_e rfl] at hi
        rw [vup_e rfl, show fs r + 1 + i = fs r + (i + 1) by omega]
        exact x3 r (i + 1) c' m' hr' (by rw [hl]; exact hi)
      · rw [vup_n e] at hi
        rw [vup_n e]
        exact x3 r i c' m' hr' hi
    · simp (disch := omega) only [gA_sI, gA_n]
      exact x4 r hr'
    · rw [gI_e, x6, iv_add]
      rfl
  obtain ⟨S', z1, z2, z3⟩ := mv_loop (L1 := rmv L p 0) (fs := va_up fs p (fs p + 1)) (q := npl P p c) hw hp hq.2 hcm.1 hcm.2.1 (by omega) (fun k0 => div60 hw hp k0 hcm.2.2) (by rw [vup_n hne]; exact hfq) (by rw [hlq]; exact hW.2.2.1 _) (fun r c' m' hm' => by
      rw [hLs] at hm'
      by_cases e : r = p
      · rw [vup_e e] at hm'
        have := hW.2.2.2.1 p c' m' (by rw [hl]; exact List.mem_cons_of_mem _ hm')
        exact ⟨this.1, this.2.1⟩
      · rw [vup_n e] at hm'
        have := hW.2.2.2.1 r c' m' hm'
        exact ⟨this.1, this.2.1⟩) (fun c' m' h => ⟨(ok c' m' h).1, (ok c' m' h).2.1⟩) (by rw [hlq]; exact rm_len hr) (wys P p) 0 FU _ (by omega) (by rw [FU_v]; unfold wys; split <;> omega) ⟨RC_sI (by decide) (RC_sA (by decide) (by decide) hQ.1), RCK_sI (by decide) (RCK_sA hQ.2.1), by rw [gI_n (by decide)]; exact hQ.2.2⟩ hF1
  rw [i0n] at z1
  refine ⟨S', z1, z3, RCL_of (fs := va_up fs p (fs p + 1)) ?_ ?_⟩
  · have e : adL (rmv L p 0) (lst P p c m) = rmv L p (lst P p c m) := by
      unfold adL rmv
      rw [Nat.add_zero]
    rw [e] at z2
    exact z2
  · intro p' q' h1 h2
    have hp' : p' ≤ p := by
      by_cases e : p' = p
      · omega
      · rw [vup_n e] at h2
        rcases Nat.lt_or_ge p p' with h | h
        · have := hz p' p h h2
          rw [hl] at this
          cases this
        · exact h
    unfold mvL
    rw [cmF_Ls, if_neg (by omega)]
    show va_up (lLs L) p (lLs L p).tail q' = []
    rw [vup_n (by omega)]
    exact hem q' (by omega)
