/-! ===== what both sides compute ===== -/
/-- the digit of variable x in a code -/
def dg (c x : Nat) : Nat := c / 10 ^ (5 - x) % 10
/-- the code with v for x -/
def wt (c x v : Nat) : Nat := c - dg c x * 10 ^ (5 - x) + v * 10 ^ (5 - x)
/-- a term's value -/
def tv (c t : Nat) : Nat := if t < 6 then dg c t else t - 10
def cmb (op a b was : Nat) : Nat := if op = 0 then (a + b) % 10 else if op = 1 then (a + 10 - b) % 10 else if op = 2 then a * b % 10 else if op = 3 then (if b ≤ a then b else a) else if op = 4 then (if a ≤ b then b else a) else if op = 5 then (if a = b then 1 else 0) else if b = 0 then a else was
def seen (cmp a b : Nat) : Nat := if cmp = 0 then (if a = b then 1 else 0) else if cmp = 1 then (if a = b then 0 else 1) else if cmp = 2 then (if b ≤ a then 0 else 1) else (if a ≤ b then 0 else 1)
/-- where a skip leads -/
def psd (P : Pr) (k : Nat) : Nat := if k + 1 + pE P k ≤ pN P then k + 1 + pE P k else pN P
/-- what is asked, as bits -/
def qb (Q : Nat → Nat) : Nat := Q 0 + 2 * Q 1 + 4 * Q 2 + 8 * Q 3 + 16 * Q 4 + 32 * Q 5
/-- a term's bit -/
def tb (t : Nat) : Nat := if t < 6 then 2 ^ t else 0
/-- the live set of a step, from those behind it -/
def lvs (P : Pr) (f : Nat → Nat) (k : Nat) : Nat :=
  if pK P k = 0 then f (k + 1) &&& (63 ^^^ 2 ^ pG P k)
  else if pK P k = 1 then ((if pE P k = 6 then f (k + 1) ||| 2 ^ pG P k else f (k + 1) &&& (63 ^^^ 2 ^ pG P k)) ||| tb (pA P k)) ||| tb (pB P k)
  else if pK P k = 4 then (f (k + 1) ||| f (psd P k)) ||| tb (pA P k)
  else (f (k + 1) ||| tb (pA P k)) ||| tb (pB P k)
/-- the live sets, the last j steps done -/
def LVF (P : Pr) : Nat → Nat → Nat
  | 0 => fun _ => qb (pQ P)
  | j + 1 => fun k => if k = pN P - 1 - j then lvs P (LVF P j) k else LVF P j k
def LV (P : Pr) : Nat → Nat := LVF P (pN P)
/-- a code with the variables of L alone -/
def ctn (L c : Nat) : Nat → Nat
  | 0 => c
  | k + 1 => if L / 2 ^ k % 2 = 1 then ctn L c k else wt (ctn L c k) k 0
def ct (c L : Nat) : Nat := ctn L c 6
/-- a code, four bits a digit -/
def hx (c : Nat) : Nat := ((((dg c 0 * 16 + dg c 1) * 16 + dg c 2) * 16 + dg c 3) * 16 + dg c 4) * 16 + dg c 5
/-- a set of variables, four bits each -/
def mk (L : Nat) : Nat := ((((L % 2 * 16 + L / 2 % 2) * 16 + L / 4 % 2) * 16 + L / 8 % 2) * 16 + L / 16 % 2) * 16 * 15 + L / 32 % 2 * 15
/-- the rows by which is drawn have 60 -/
def rw10 (P : Pr) (r : Nat) : Nat → Nat
  | 0 => 0
  | v + 1 => rw10 P r v + pW P r v
def EV (P : Pr) : Prop := ∀ k, k < pN P → pK P k = 0 → rw10 P (pE P k) 10 = 60
/-! ===== a listing ===== -/
abbrev Ld : Type := (Nat → List (Nat × Nat)) × (Nat → Nat) × (Nat → Nat) × Nat × Nat
def lLs (L : Ld) : Nat → List (Nat × Nat) := L.1
def lCm (L : Ld) : Nat → Nat := L.2.1
def lJn (L : Ld) : Nat → Nat := L.2.2.1
def lLo (L : Ld) : Nat := L.2.2.2.1
def lWk (L : Ld) : Nat := L.2.2.2.2
def srt (l : List (Nat × Nat)) : Prop := (l.map Prod.fst).Pairwise (· < ·)
def msum : List (Nat × Nat) → Nat
  | [] => 0
  | a :: t => a.2 + msum t
/-- masses, each by what weighs may still make of it -/
def pot (P : Pr) (Ls : Nat → List (Nat × Nat)) : Nat → Nat
  | 0 => 0
  | p + 1 => pot P Ls p + 9 ^ (cnt (pK P) 3 (pN P) - cnt (pK P) 3 p) * msum (Ls p)
def WfL (P : Pr) (L : Ld) : Prop := EV P ∧ (∀ p, (lLs L p).length ≤ 200) ∧ (∀ p, srt (lLs L p)) ∧ (∀ p c m, (c, m) ∈ lLs L p → c < 1000000 ∧ 0 < m ∧ 60 ^ (8 - cnt (pK P) 0 p) ∣ m) ∧ (∀ p, pN P < p → lLs L p = []) ∧ pot P (lLs L) (pN P + 1) ≤ 167961600000000 * 9 ^ cnt (pK P) 3 (pN P)
def RML (P : Pr) (L : Ld) (S : St) : Prop := (∀ p : Nat, p ≤ 30 → gA S 8 p = iv (lLs L p).length) ∧ (∀ p i c m : Nat, p ≤ 30 → (lLs L p)[i]? = some (c, m) → gA S 11 (200 * p + i) = iv c ∧ gB S 12 (200 * p + i) = jv m) ∧ (∀ p : Nat, p ≤ 30 → gA S 9 p = iv (lCm L p)) ∧ (∀ p : Nat, p ≤ 30 → gA S 10 p = iv (lJn L p)) ∧ gL S 13 = jv (lLo L) ∧ gI S 12 = iv (lWk L) ∧ ∀ p : Nat, p ≤ pN P → gA S 13 p = iv (LV P p)
/-- the class's store holds the program -/
def RC (P : Pr) (S : St) : Prop := gI S 208 = iv (pN P) ∧ gI S 209 = iv (cnt (pK P) 0 (pN P)) ∧ gI S 210 = iv (cnt (pK P) 3 (pN P)) ∧ (∀ k, gA S 4 k = iv (pK P k)) ∧ (∀ k, gA S 5 k = iv (pG P k)) ∧ (∀ k, gA S 6 k = iv (pE P k)) ∧ (∀ k, gA S 7 k = iv (pA P k)) ∧ (∀ k, gA S 8 k = iv (pB P k)) ∧ (∀ r v, r < 4 → v < 10 → gA S (19 + r) v = iv (pW P r v)) ∧ gI S 207 = iv (qb (pQ P))
def RCL (P : Pr) (L : Ld) (S : St) : Prop := ∃ fs : Nat → Nat, (∀ p : Nat, p ≤ 30 → gA S 13 p = iv (fs p) ∧ gA S 14 p = iv ((fs p + (lLs L p).length : Nat) : Int) ∧ fs p + (lLs L p).length ≤ 200) ∧ (∀ p : Nat, p ≤ 30 → gA S 15 p = iv (lCm L p) ∧ gA S 16 p = iv (lJn L p)) ∧ (∀ p i c m : Nat, p ≤ 30 → (lLs L p)[i]? = some (c, m) → gA S (23 + p) (fs p + i) = iv (hx c) ∧ gB S (54 + p) (fs p + i) = jv m) ∧ (∀ p : Nat, p ≤ pN P → gA S 17 p = iv (mk (LV P p))) ∧ gL S 109 = jv (lLo L) ∧ gI S 110 = iv (lWk L) ∧ ∀ p q : Nat, q < p → fs p ≠ 0 → lLs L q = []
/-! ===== every run ===== -/
/-- what a step makes of a run -/
def outD (P : Pr) (p c m : Nat) : Nat → List (Nat × Nat)
  | 0 => []
  | v + 1 => outD P p c m v ++ if pW P (pE P p) v = 0 then [] else [(wt c (pG P p) v, m / 60 * pW P (pE P p) v)]
def outs (P : Pr) (p c m : Nat) : List (Nat × Nat) :=
  if pK P p = 0 then outD P p c m 10
  else if pK P p = 1 then [(wt c (pG P p) (cmb (pE P p) (tv c (pA P p)) (tv c (pB P p)) (dg c (pG P p))), m)]
  else if pK P p = 2 then (if seen (pE P p) (tv c (pA P p)) (tv c (pB P p)) = 0 then [] else [(c, m)])
  else if pK P p = 3 then (if tv c (pA P p) = 0 then [] else [(c, m * tv c (pA P p))])
  else [(c, m)]
def npl (P : Pr) (p c : Nat) : Nat := if pK P p = 4 then (if tv c (pA P p) = 0 then psd P p else p + 1) else p + 1
def lst (P : Pr) (p c m : Nat) : Nat :=
  if pK P p = 2 then (if seen (pE P p) (tv c (pA P p)) (tv c (pB P p)) = 0 then m else 0)
  else if pK P p = 3 then (if tv c (pA P p) = 0 then m else 0) else 0
/-- all runs from a place on: the code at the end (or 1000000: lost) and the mass; by the number of steps that are left at most -/
def rns (P : Pr) : Nat → Nat → Nat → Nat → List (Nat × Nat)
  | 0, _, c, m => [(c, m)]
  | n + 1, p, c, m => if p < pN P then (if outs P p c m = [] then [(1000000, m)] else (outs P p c m).flatMap (fun q => rns P n (npl P p c) q.1 q.2)) else [(c, m)]
def allR (P : Pr) : List (Nat × Nat) := rns P 31 0 0 167961600000000
/-- the mass of those that end with v for x (x = 6: of all that end) -/
def endM (x v : Nat) : List (Nat × Nat) → Nat
  | [] => 0
  | a :: t => (if a.1 < 1000000 ∧ (x = 6 ∨ dg a.1 x = v) then a.2 else 0) + endM x v t
/-- what the class keeps of them -/
def RCK (P : Pr) (S : St) : Prop := gI S 304 = iv 0 ∨ (gI S 304 = iv 1 ∧ ((gI S 303 = iv (allR P).length ∧ (allR P).length ≤ 20000 ∧ gL S 302 = jv (endM 6 0 (allR P)) ∧ ∀ x v, x < 6 → v < 10 → gB S (85 + x) v = jv (endM x v (allR P))) ∨ (∃ k : Nat, gI S 303 = iv k ∧ 20000 < k ∧ k < 2000000 ∧ 20000 < (allR P).length)))
/-! ===== both sides together ===== -/
abbrev Zt : Type := Pr × Nat × Ld
def Inv (Z : Zt) (SC SM : St) : Prop := Wf Z.1 ∧ RC Z.1 SC ∧ RM Z.1 SM ∧ RCK Z.1 SC ∧ ((Z.2.1 = 0 ∧ gI SC 108 = iv 0 ∧ gI SM 11 = iv 0) ∨ (Z.2.1 = 1 ∧ gI SC 108 = iv 1 ∧ gI SM 11 = iv 1 ∧ WfL Z.1 Z.2.2 ∧ RCL Z.1 Z.2.2 SC ∧ RML Z.1 Z.2.2 SM))
/-- the same answer, and both go on together -/
def Sm {ρ : Type} (f g : St → Option (ρ × St)) : Prop := ∀ (Z : Zt) (SC SM : St), Inv Z SC SM → ∃ (r : ρ) (SC' SM' : St) (Z' : Zt), f SC = some (r, SC') ∧ g SM = some (r, SM') ∧ Inv Z' SC' SM'
section FR
variable {P : Pr} {L : Ld} {S : St} {k : Nat}
theorem RM_sI {v : Int32} (hk : k ≠ 1 ∧ k ≠ 2 ∧ k ≠ 3) (h : RM P S) : RM P (sI S k v) := by
  obtain ⟨h1, h2, h3, h4⟩ := h
  exact ⟨by rw [gI_n (Ne.symm hk.1)]; exact h1, by rw [gI_n (Ne.symm hk.2.1)]; exact h2, by rw [gI_n (Ne.symm hk.2.2)]; exact h3, h4⟩
theorem RM_sL {v : Int64} (h : RM P S) : RM P (sL S k v) := h
theorem RM_sB {v : Nat → Int64} (h : RM P S) : RM P (sB S k v) := h
theorem RM_sA {f : Nat → Int32} (hk : 8 ≤ k) (h : RM P S) : RM P (sA S k f) := by
  obtain ⟨h1, h2, h3, h4, h5, h6, h7, h8, h9, h10⟩ := h
  refine ⟨h1, h2, h3, ?_, ?_, ?_, ?_, ?_, ?_, ?_⟩
  all_goals (rw [gA_n (by omega)]; assumption)
theorem RML_sI {v : Int32} (hk : k ≠ 12) (h : RML P L S) : RML P L (sI S k v) := by
  obtain ⟨h1, h2, h3, h4, h5, h6, h7⟩ := h
  exact ⟨h1, h2, h3, h4, h5, by rw [gI_n (Ne.symm hk)]; exact h6, h7⟩
theorem RML_sL {v : Int64} (hk : k ≠ 13) (h : RML P L S) : RML P L (sL S k v) := by
  obtain ⟨h1, h2, h3, h4, h5, h6, h7⟩ := h
  exact ⟨h1, h2, h3, h4, by rw [gL_n (Ne.symm hk)]; exact h5, h6, h7⟩
theorem RML_sA {f : Nat → Int32} (hk : 14 ≤ k) (h : RML P L S) : RML P L (sA S k f) := by
  obtain ⟨h1, h2, h3, h4, h5, h6, h7⟩ := h
  refine ⟨?_, ?_, ?_, ?_, h5, h6, ?_⟩
  · rw [gA_n (by omega)]; exact h1
  · intro p i c m hp hi
    rw [gA_n (by omega)]
    exact h2 p i c m hp hi
  all_goals (rw [gA_n (by omega)]; assumption)
theorem RML_sB {f : Nat → Int64} (hk : 13 ≤ k) (h : RML P L S) : RML P L (sB S k f) := by
  obtain ⟨h1, h2, h3, h4, h5, h6, h7⟩ := h
  refine ⟨h1, ?_, h3, h4, h5, h6, h7⟩
  intro p i c m hp hi
  rw [gB_n (by omega)]
  exact h2 p i c m hp hi
theorem RC_sI {v : Int32} (hk : k ≠ 207 ∧ k ≠ 208 ∧ k ≠ 209 ∧ k ≠ 210) (h : RC P S) : RC P (sI S k v) := by
  obtain ⟨h1, h2, h3, h4, h5, h6, h7, h8, h9, h10⟩ := h
  exact ⟨by rw [gI_n (Ne.symm hk.2.1)]; exact h1, by rw [gI_n (Ne.symm hk.2.2.1)]; exact h2, by rw [gI_n (Ne.symm hk.2.2.2)]; exact h3, h4, h5, h6, h7, h8, h9, by rw [gI_n (Ne.symm hk.1)]; exact h10⟩
theorem RC_sL {v : Int64} (h : RC P S) : RC P (sL S k v) := h
theorem RC_sB {v : Nat → Int64} (h : RC P S) : RC P (sB S k v) := h
theorem RC_sA {f : Nat → Int32} (hk : 9 ≤ k) (hk2 : k < 19 ∨ 23 ≤ k) (h : RC P S) : RC P (sA S k f) := by
  obtain ⟨h1, h2, h3, h4, h5, h6, h7, h8, h9, h10⟩ := h
  refine ⟨h1, h2, h3, ?_, ?_, ?_, ?_, ?_, ?_, h10⟩
  · rw [gA_n (by omega)]; exact h4
  · rw [gA_n (by omega)]; exact h5
  · rw [gA_n (by omega)]; exact h6
  · rw [gA_n (by omega)]; exact h7
  · rw [gA_n (by omega)]; exact h8
  · intro r v hr hv
    rw [gA_n (by omega)]
    exact h9 r v hr hv
theorem RCK_sI {v : Int32} (hk : k ≠ 303 ∧ k ≠ 304) (h : RCK P S) : RCK P (sI S k v) := by
  unfold RCK at h ⊢
  rw [gI_n (Ne.symm hk.2), gI_n (Ne.symm hk.1)]
  exact h
theorem RCK_sA {f : Nat → Int32} (h : RCK P S) : RCK P (sA S k f) := h
theorem RCK_sL {v : Int64} (hk : k ≠ 302) (h : RCK P S) : RCK P (sL S k v) := by
  unfold RCK at h ⊢
  rw [gL_n (Ne.symm hk)]
  exact h
theorem RCK_sB {f : Nat → Int64} (hk : k < 85) (h : RCK P S) : RCK P (sB S k f) := by
  rcases h with h | ⟨h, h2⟩
  · exact Or.inl h
  · refine Or.inr ⟨h, ?_⟩
    rcases h2 with ⟨a, b, c, d⟩ | h2
    · exact Or.inl ⟨a, b, c, fun x v hx hv => by rw [gB_n (by omega)]; exact d x v hx hv⟩
    · exact Or.inr h2
theorem RCL_sI {v : Int32} (hk : k ≠ 110) (h : RCL P L S) : RCL P L (sI S k v) := by
  obtain ⟨fs, h1, h2, h3, h4, h5, h6, h7⟩ := h
  exact ⟨fs, h1, h2, h3, h4, h5, by rw [gI_n (Ne.symm hk)]; exact h6, h7⟩
theorem RCL_sL {v : Int64} (hk : k ≠ 109) (h : RCL P L S) : RCL P L (sL S k v) := by
  obtain ⟨fs, h1, h2, h3, h4, h5, h6, h7⟩ := h
  exact ⟨fs, h1, h2, h3, h4, by rw [gL_n (Ne.symm hk)]; exact h5, h6, h7⟩
theorem RCL_sB {f : Nat → Int64} (hk : 85 ≤ k) (h : RCL P L S) : RCL P L (sB S k f) := by
  obtain ⟨fs, h1, h2, h3, h4, h5, h6, h7⟩ := h
  refine ⟨fs, h1, h2, ?_, h4, h5, h6, h7⟩
  intro p i c m hp hi
  rw [gB_n (by omega)]
  exact h3 p i c m hp hi
theorem RCL_sA {f : Nat → Int32} (hk : k < 13) (h : RCL P L S) : RCL P L (sA S k f) := by
  obtain ⟨fs, h1, h2, h3, h4, h5, h6, h7⟩ := h
  refine ⟨fs, ?_, ?_, ?_, ?_, h5, h6, h7⟩
  · intro p hp
    rw [gA_n (by omega), gA_n (by omega)]
    exact h1 p hp
  · intro p hp
    rw [gA_n (by omega), gA_n (by omega)]
    exact h2 p hp
  · intro p i c m hp hi
    rw [gA_n (by omega)]
    exact h3 p i c m hp hi
  · rw [gA_n (by omega)]; exact h4
end FR
theorem Inv_thr {Z : Zt} {SC SM : St} (v : Int32) (h : Inv Z SC SM) : Inv Z SC (sI SM 0 v) := by
  obtain ⟨h1, h2, h3, h4, h5⟩ := h
  refine ⟨h1, h2, RM_sI (by decide) h3, h4, ?_⟩
  rcases h5 with ⟨a, b, c⟩ | ⟨a, b, c, d, e, f⟩
  · exact Or.inl ⟨a, b, by rw [gI_n (by decide)]; exact c⟩
  · exact Or.inr ⟨a, b, by rw [gI_n (by decide)]; exact c, d, e, RML_sI (by decide) f⟩
