/-! ===== the law's rounds ===== -/
section LP
variable {p : Program} {l : Launch} {e : Env} {R : Room} {s : State} {m : MethodId} {args : Array Value} {below : List Frame} {meth : Method} {c : Code} {Q : State → Prop}
variable {D : va_G} {aC aM : Nat → Nat} {d2 : D2} {b L o sa : Nat} {xs : Nat → Int32}
set_option maxHeartbeats 1000000 in
theorem law_round {H : Heap} {locs : List Loc} {cells slots i : Nat} {ls : Array Slot} (hO : LwO p l R s m args c D d2 b L sa xs) (hi : i + 5 ≤ L) (hs : LwS s D aC aM d2 b o i H locs ls) (hc : cells + 1 ≤ R.cells ∧ slots + 6 ≤ R.slots)
    (kk : ∀ (H1 : Heap) (locs1 : List Loc) (ls1 : Array Slot), LwS s D aC aM d2 b o i H1 locs1 ls1 → W p l e R s m args below meth c H1 locs1 (cells + 1) (slots + 6) Q (F0 m 866 ls1 [])) : W p l e R s m args below meth c H locs cells slots Q (F0 m 32 ls []) := by
  have hO1 := hO
  have hs1 := hs
  obtain ⟨hx, hb, hml, hown, hts, hN, hK, hX, hbl, hT, hlt, hRf, hRl, hL⟩ := hO1
  obtain ⟨Z, SC, SM, f, hI, hP, hD, hS, hl⟩ := hs1
  have kk' : ∀ (H1 : Heap) (locs1 : List Loc) (ls1 : Array Slot), LwS s D aC aM d2 b o i H1 locs1 ls1 → W p l e R s m args below meth c H1 locs1 cells slots Q (F0 m 866 ls1 []) := fun H1 locs1 ls1 h => W.widen (k := cells + 1) (n := slots + 6) (Nat.le_succ _) (Nat.le_add_right _ _) (kk H1 locs1 ls1 h)
  have hc' : cells ≤ R.cells ∧ slots ≤ R.slots := ⟨by omega, by omega⟩
  refine lv_aload_n hx hb dL_law_32 rfl (lv_at hl 1 rfl) ?_
  refine lv_iload hx hb dL_law_33 (lv_at hl 0 rfl) ?_
  refine va_sld (A := fun q => s.heap.size ≤ q) hx hb hX hbl (Nat.not_le.mpr hbl) hS (inB_in (iv_in (by omega) (by omega) (by omega))) dL_law_35 ?_
  refine lv_bipush (v := 31) hx hb dL_law_36 (by decide) ?_
  refine lv_iand hx hb dL_law_38 ?_
  generalize (_ : Int32) &&& (31 : Int32) = x
  by_cases hq : x.toInt < 0 ∨ 20 < x.toInt
  · exact lv_tableOut (tgt := 866) hx hb dL_law_39 hq (by decide) (kk' H locs ls hs)
  · have h1 : ¬ x.toInt < 0 := fun h => hq (Or.inl h)
    have h2 : ¬ 20 < x.toInt := fun h => hq (Or.inr h)
    have hz : x.toInt = 0 ∨ x.toInt = 1 ∨ x.toInt = 2 ∨ x.toInt = 3 ∨ x.toInt = 4 ∨ x.toInt = 5 ∨ x.toInt = 6 ∨ x.toInt = 7 ∨ x.toInt = 8 ∨ x.toInt = 9 ∨ x.toInt = 10 ∨ x.toInt = 11 ∨ x.toInt = 12 ∨ x.toInt = 13 ∨ x.toInt = 14 ∨ x.toInt = 15 ∨ x.toInt = 16 ∨ x.toInt = 17 ∨ x.toInt = 18 ∨ x.toInt = 19 ∨ x.toInt = 20 := by omega
    rcases hz with hz | hz | hz | hz | hz | hz | hz | hz | hz | hz | hz | hz | hz | hz | hz | hz | hz | hz | hz | hz | hz
    · exact lv_tableIn (tgt := 136) hx hb dL_law_39 h1 h2 (by rw [hz]; rfl) (by decide) (law_weight hO hi hs hc' kk')
    · exact lv_tableIn (tgt := 185) hx hb dL_law_39 h1 h2 (by rw [hz]; rfl) (by decide) (law_draw hO hi hs hc' kk')
    · exact lv_tableIn (tgt := 222) hx hb dL_law_39 h1 h2 (by rw [hz]; rfl) (by decide) (law_set hO hi hs hc' kk')
    · exact lv_tableIn (tgt := 283) hx hb dL_law_39 h1 h2 (by rw [hz]; rfl) (by decide) (law_observe hO hi hs hc' kk')
    · exact lv_tableIn (tgt := 332) hx hb dL_law_39 h1 h2 (by rw [hz]; rfl) (by decide) (law_weigh hO hi hs hc' kk')
    · exact lv_tableIn (tgt := 357) hx hb dL_law_39 h1 h2 (by rw [hz]; rfl) (by decide) (law_skip hO hi hs hc' kk')
    · exact lv_tableIn (tgt := 394) hx hb dL_law_39 h1 h2 (by rw [hz]; rfl) (by decide) (law_drop hO hi hs hc' kk')
    · exact lv_tableIn (tgt := 407) hx hb dL_law_39 h1 h2 (by rw [hz]; rfl) (by decide) (law_ask hO hi hs hc' kk')
    · exact lv_tableIn (tgt := 460) hx hb dL_law_39 h1 h2 (by rw [hz]; rfl) (by decide) (law_live hO hi hs hc' kk')
    · exact lv_tableIn (tgt := 485) hx hb dL_law_39 h1 h2 (by rw [hz]; rfl) (by decide) (law_begin hO hi hs hc' kk')
    · exact lv_tableIn (tgt := 498) hx hb dL_law_39 h1 h2 (by rw [hz]; rfl) (by decide) (law_list hO hi hs hc' kk')
    · exact lv_tableIn (tgt := 523) hx hb dL_law_39 h1 h2 (by rw [hz]; rfl) (by decide) (law_done hO hi hs hc' kk')
    · exact lv_tableIn (tgt := 536) hx hb dL_law_39 h1 h2 (by rw [hz]; rfl) (by decide) (law_states hO hi hs hc' kk')
    · exact lv_tableIn (tgt := 573) hx hb dL_law_39 h1 h2 (by rw [hz]; rfl) (by decide) (law_code hO hi hs hc' kk')
    · exact lv_tableIn (tgt := 610) hx hb dL_law_39 h1 h2 (by rw [hz]; rfl) (by decide) (law_mass hO hi hs hc' kk')
    · exact lv_tableIn (tgt := 648) hx hb dL_law_39 h1 h2 (by rw [hz]; rfl) (by decide) (law_sum hO hi hs hc' kk')
    · exact lv_tableIn (tgt := 698) hx hb dL_law_39 h1 h2 (by rw [hz]; rfl) (by decide) (law_odds hO hi hs hc kk)
    · exact lv_tableIn (tgt := 777) hx hb dL_law_39 h1 h2 (by rw [hz]; rfl) (by decide) (law_runs hO hi hs hc' kk')
    · exact lv_tableIn (tgt := 790) hx hb dL_law_39 h1 h2 (by rw [hz]; rfl) (by decide) (law_plain hO hi hs hc' kk')
    · exact lv_tableIn (tgt := 828) hx hb dL_law_39 h1 h2 (by rw [hz]; rfl) (by decide) (law_count hO hi hs hc' kk')
    · exact lv_tableIn (tgt := 853) hx hb dL_law_39 h1 h2 (by rw [hz]; rfl) (by decide) (law_clear hO hi hs hc' kk')
set_option maxHeartbeats 1000000 in
theorem law_loop {cB sB : Nat} (hO : LwO p l R s m args c D d2 b L sa xs) (hcB : cB ≤ R.cells ∧ sB ≤ R.slots)
    (kk : ∀ (H1 : Heap) (locs1 : List Loc) (ls1 : Array Slot), va_S (fun q => s.heap.size ≤ q) s.heap H1 locs1 → W p l e R s m args below meth c H1 locs1 cB sB Q (F0 m 872 ls1 [])) : ∀ (n i : Nat) (H : Heap) (locs : List Loc) (ls : Array Slot) (cells slots : Nat), L < i + 5 * n + 5 → i ≤ L → cells + n ≤ cB → slots + 6 * n ≤ sB → LwS s D aC aM d2 b o i H locs ls → W p l e R s m args below meth c H locs cells slots Q (F0 m 23 ls [])
  | n, i, H, locs, ls, cells, slots, hn, hiL, h1, h2, hs => by
    have hO1 := hO
    have hs1 := hs
    obtain ⟨hx, hb, hml, hown, hts, hN, hK, hX, hbl, hT, hlt, hRf, hRl, hL⟩ := hO1
    obtain ⟨Z, SC, SM, f, hI, hP, hD, hS, hl⟩ := hs1
    refine lv_iload hx hb dL_law_23 (lv_at hl 0 rfl) ?_
    refine lv_aload_n hx hb dL_law_25 rfl (lv_at hl 1 rfl) ?_
    refine va_slen (A := fun q => s.heap.size ≤ q) hx hb hX hbl (Nat.not_le.mpr hbl) hS dL_law_26 ?_
    refine lv_iconst (v := iv 5) hx hb dL_law_27 (by decide) ?_
    refine lv_isub hx hb dL_law_28 ?_
    rw [show Int32.ofNat L = iv L from iv_nI L, iv_sub]
    refine lv_icmp_gt (tgt := 872) hx hb dL_law_29 (by decide) (fun _ => W.widen (k := cB) (n := sB) (by omega) (by omega) (kk H locs ls hS)) (fun h => ?_)
    rw [iv_lt (by omega) (by omega) (by omega) (by omega)] at h
    match n, hn, h1, h2 with
    | 0, hn, h1, h2 => omega
    | n + 1, hn, h1, h2 =>
      refine law_round (i := i) hO (by omega) hs ⟨by omega, by omega⟩ (fun H1 locs1 ls1 hs => ?_)
      obtain ⟨Z, SC, SM, f, hI, hP, hD, hS, hl⟩ := hs
      refine lv_iinc (k := 0) (lv' := lwL aC aM b o (i + 5)) hx hb dL_law_866 hl rfl rfl (by decide) ?_ (fun ls2 hl => ?_)
      · show _ = lwL aC aM b o (i + 5)
        unfold lwL
        rw [show (iv i + Int32.ofInt 5 : Int32) = iv ((i + 5 : Nat) : Int) from (iv_add i 5)]
        rfl
      refine lv_goto (tgt := 23) hx hb dL_law_869 (by decide) ?_
      exact law_loop hO hcB kk n (i + 5) H1 locs1 ls2 (cells + 1) (slots + 6) (by omega) (by omega) (by omega) (by omega) ⟨Z, SC, SM, f, hI, hP, hD, hS, hl⟩
end LP
