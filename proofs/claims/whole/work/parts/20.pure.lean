/-! ===== numbers: ints as iv z, longs as lv z ===== -/
def iv (z : Int) : Int32 := Int32.ofInt z
theorem iv_nI (n : Nat) : nI n = iv n := by
  unfold nI iv
  apply Int32.toBitVec_inj.mp
  simp [Int32.ofNat, Int32.ofInt]
theorem iv_toInt {z : Int} (h : -2147483648 ≤ z) (h2 : z < 2147483648) : (iv z).toInt = z := Int32.toInt_ofInt_of_le h h2
theorem iv_add (a b : Int) : iv a + iv b = iv (a + b) := (Int32.ofInt_add a b).symm
theorem iv_sub (a b : Int) : iv a - iv b = iv (a - b) := (Int32.ofInt_sub a b).symm
theorem iv_mul (a b : Int) : iv a * iv b = iv (a * b) := (Int32.ofInt_mul a b).symm
theorem iv_neg (a : Int) : -iv a = iv (-a) := (Int32.ofInt_neg a).symm
theorem iv_lt {a b : Int} (h1 : -2147483648 ≤ a) (h2 : a < 2147483648) (h3 : -2147483648 ≤ b) (h4 : b < 2147483648) : iv a < iv b ↔ a < b := by
  rw [Int32.lt_iff_toInt_lt, iv_toInt h1 h2, iv_toInt h3 h4]
theorem iv_le {a b : Int} (h1 : -2147483648 ≤ a) (h2 : a < 2147483648) (h3 : -2147483648 ≤ b) (h4 : b < 2147483648) : iv a ≤ iv b ↔ a ≤ b := by
  rw [Int32.le_iff_toInt_le, iv_toInt h1 h2, iv_toInt h3 h4]
theorem iv_eq {a b : Int} (h1 : -2147483648 ≤ a) (h2 : a < 2147483648) (h3 : -2147483648 ≤ b) (h4 : b < 2147483648) : iv a = iv b ↔ a = b := by
  rw [← Int32.toInt_inj, iv_toInt h1 h2, iv_toInt h3 h4]
theorem iv_cl {a : Int} (h1 : 0 ≤ a) (h2 : a < 2147483648) : (iv a).toNatClampNeg = a.toNat := by
  unfold Int32.toNatClampNeg
  rw [iv_toInt (by omega) h2]
theorem iv_in {a : Int} {n : Nat} (h1 : 0 ≤ a) (h2 : a < n) (h3 : n ≤ 2147483647) : inB (iv a) n = true := by
  unfold inB
  rw [iv_cl h1 (by omega), show (0 : Int32) = iv 0 from rfl]
  simp only [Bool.and_eq_true, decide_eq_true_eq]
  exact ⟨(iv_le (by omega) (by omega) (by omega) (by omega)).mpr h1, by omega⟩
theorem iv_div {a b : Int} (h1 : 0 ≤ a) (h2 : a < 2147483648) (h3 : 0 < b) (h4 : b < 2147483648) : iv a / iv b = iv (a / b) := by
  obtain ⟨m, rfl⟩ := Int.eq_ofNat_of_zero_le h1
  obtain ⟨k, rfl⟩ := Int.eq_ofNat_of_zero_le (show 0 ≤ b by omega)
  rw [show iv (m : Int) = nI m from (iv_nI m).symm, show iv (k : Int) = nI k from (iv_nI k).symm, pk_div (by omega) (by omega) (by omega), iv_nI]
  rfl
theorem iv_of (x : Int32) : x = iv x.toInt := by
  unfold iv
  rw [Int32.ofInt_toInt]
theorem iv_rng (x : Int32) : -2147483648 ≤ x.toInt ∧ x.toInt < 2147483648 := ⟨Int32.le_toInt x, Int32.toInt_lt x⟩
theorem ltT {a b : Int} (h : a < b) : (a < b) = True := eq_true h
theorem ltF {a b : Int} (h : b ≤ a) : (a < b) = False := eq_false (by omega)
theorem leT {a b : Int} (h : a ≤ b) : (a ≤ b) = True := eq_true h
theorem leF {a b : Int} (h : b < a) : (a ≤ b) = False := eq_false (by omega)
theorem eqT {a b : Int} (h : a = b) : (a = b) = True := eq_true h
theorem eqF {a b : Int} (h : a ≠ b) : (a = b) = False := eq_false h
/-- constants of the code -/
theorem i_0 : (0 : Int32) = iv 0 := by decide
theorem i_1 : (1 : Int32) = iv 1 := by decide
theorem i_2 : (2 : Int32) = iv 2 := by decide
theorem i_3 : (3 : Int32) = iv 3 := by decide
theorem i_4 : (4 : Int32) = iv 4 := by decide
theorem i_5 : (5 : Int32) = iv 5 := by decide
theorem i_6 : (6 : Int32) = iv 6 := by decide
theorem i_8 : (8 : Int32) = iv 8 := by decide
theorem i_9 : (9 : Int32) = iv 9 := by decide
theorem i_10 : (10 : Int32) = iv 10 := by decide
theorem i_15 : (15 : Int32) = iv 15 := by decide
theorem i_19 : (19 : Int32) = iv 19 := by decide
theorem i_20 : (20 : Int32) = iv 20 := by decide
theorem i_30 : (30 : Int32) = iv 30 := by decide
theorem i_31 : (31 : Int32) = iv 31 := by decide
theorem i_40 : (40 : Int32) = iv 40 := by decide
theorem i_60 : (60 : Int32) = iv 60 := by decide
theorem i_100 : (100 : Int32) = iv 100 := by decide
theorem i_200 : (200 : Int32) = iv 200 := by decide
theorem i_1000 : (1000 : Int32) = iv 1000 := by decide
theorem i_20000 : (20000 : Int32) = iv 20000 := by decide
theorem i_m1 : (-1 : Int32) = iv (-1) := by decide
theorem i_m2 : (-2 : Int32) = iv (-2) := by decide
theorem i_m3 : (-3 : Int32) = iv (-3) := by decide
theorem i_m4 : (-4 : Int32) = iv (-4) := by decide
theorem i_m5 : (-5 : Int32) = iv (-5) := by decide
theorem gI_e (S : St) (k : Nat) (v : Int32) : gI (sI S k v) k = v := by rw [gI_sI, if_pos rfl]
theorem gI_n {S : St} {k j : Nat} {v : Int32} (h : j ≠ k) : gI (sI S k v) j = gI S j := by rw [gI_sI, if_neg h]
theorem gL_e (S : St) (k : Nat) (v : Int64) : gL (sL S k v) k = v := by rw [gL_sL, if_pos rfl]
theorem gL_n {S : St} {k j : Nat} {v : Int64} (h : j ≠ k) : gL (sL S k v) j = gL S j := by rw [gL_sL, if_neg h]
theorem gA_e (S : St) (k : Nat) (v : Nat → Int32) : gA (sA S k v) k = v := by rw [gA_sA, if_pos rfl]
theorem gA_n {S : St} {k j : Nat} {v : Nat → Int32} (h : j ≠ k) : gA (sA S k v) j = gA S j := by rw [gA_sA, if_neg h]
theorem gB_e (S : St) (k : Nat) (v : Nat → Int64) : gB (sB S k v) k = v := by rw [gB_sB, if_pos rfl]
theorem gB_n {S : St} {k j : Nat} {v : Nat → Int64} (h : j ≠ k) : gB (sB S k v) j = gB S j := by rw [gB_sB, if_neg h]
theorem up_e {f : Nat → Int32} {k j : Nat} {x : Int32} (h : j = k) : upd f k x j = x := if_pos h
theorem up_n {f : Nat → Int32} {k j : Nat} {x : Int32} (h : j ≠ k) : upd f k x j = f j := if_neg h
theorem uL_e {f : Nat → Int64} {k j : Nat} {x : Int64} (h : j = k) : vp_updL f k x j = x := if_pos h
theorem uL_n {f : Nat → Int64} {k j : Nat} {x : Int64} (h : j ≠ k) : vp_updL f k x j = f j := if_neg h
theorem bz0 : vp_nar .boolean (iv 0) = iv 0 := by decide
theorem bz1 : vp_nar .boolean (iv 1) = iv 1 := by decide
/-! ===== the program ===== -/
/-- steps; kind, variable, row or op or cmp or n, first and second term of each; weights; asked -/
abbrev Pr : Type := Nat × (Nat → Nat) × (Nat → Nat) × (Nat → Nat) × (Nat → Nat) × (Nat → Nat) × (Nat → Nat → Nat) × (Nat → Nat)
def pN (P : Pr) : Nat := P.1
def pK (P : Pr) : Nat → Nat := P.2.1
def pG (P : Pr) : Nat → Nat := P.2.2.1
def pE (P : Pr) : Nat → Nat := P.2.2.2.1
def pA (P : Pr) : Nat → Nat := P.2.2.2.2.1
def pB (P : Pr) : Nat → Nat := P.2.2.2.2.2.1
def pW (P : Pr) : Nat → Nat → Nat := P.2.2.2.2.2.2.1
/-- 1: asked -/
def pQ (P : Pr) : Nat → Nat := P.2.2.2.2.2.2.2
/-- how many of the first p steps are of kind j -/
def cnt (K : Nat → Nat) (j : Nat) : Nat → Nat
  | 0 => 0
  | p + 1 => cnt K j p + if K p = j then 1 else 0
def isTm (t : Nat) : Prop := t ≤ 5 ∨ (10 ≤ t ∧ t ≤ 19)
def Wf (P : Pr) : Prop := pN P ≤ 30 ∧ (∀ k, pK P k ≤ 4 ∧ pG P k ≤ 5 ∧ isTm (pA P k) ∧ isTm (pB P k) ∧ (k < pN P → (pK P k = 0 → pA P k = 10 ∧ pB P k = 10) ∧ (pK P k = 4 → pB P k = 10))) ∧ (∀ k, pK P k = 0 → pE P k ≤ 3) ∧ (∀ k, pE P k ≤ 9) ∧ (∀ r v, pW P r v ≤ 60) ∧ cnt (pK P) 0 (pN P) ≤ 8 ∧ cnt (pK P) 3 (pN P) ≤ 3 ∧ ∀ x, pQ P x ≤ 1
/-- the reference's store holds the program -/
def RM (P : Pr) (S : St) : Prop := gI S 1 = iv (pN P) ∧ gI S 2 = iv (cnt (pK P) 0 (pN P)) ∧ gI S 3 = iv (cnt (pK P) 3 (pN P)) ∧ (∀ k, gA S 1 k = iv (pK P k)) ∧ (∀ k, gA S 2 k = iv (pG P k)) ∧ (∀ k, gA S 3 k = iv (pE P k)) ∧ (∀ k, gA S 4 k = iv (pA P k)) ∧ (∀ k, gA S 5 k = iv (pB P k)) ∧ (∀ r v, r < 4 → v < 10 → gA S 6 (10 * r + v) = iv (pW P r v)) ∧ ∀ x, x < 6 → gA S 7 x = iv (pQ P x)
theorem e_isIn (v lo hi : Int32) (S : St) : f_X5_isIn v lo hi S = some (if lo ≤ v ∧ v ≤ hi then iv 1 else iv 0, S) := by
  unfold f_X5_isIn
  by_cases h1 : v < lo
  · rw [if_pos h1, if_neg (fun q => absurd q.1 (Int32.not_le.mpr h1))]
    rfl
  · rw [if_neg h1]
    by_cases h2 : hi < v
    · rw [if_pos h2, if_neg (fun q => absurd q.2 (Int32.not_le.mpr h2))]
      rfl
    · rw [if_neg h2, if_pos ⟨Int32.not_lt.mp h1, Int32.not_lt.mp h2⟩]
      rfl
/-- an int in its range is a small number -/
theorem isIn_t {z : Int} {lo hi : Int} {S : St} (h1 : lo ≤ z) (h2 : z ≤ hi) (h3 : -2147483648 ≤ lo) (h4 : hi < 2147483648) : f_X5_isIn (iv z) (iv lo) (iv hi) S = some (iv 1, S) := by
  rw [e_isIn, if_pos ⟨(iv_le (by omega) (by omega) (by omega) (by omega)).mpr h1, (iv_le (by omega) (by omega) (by omega) (by omega)).mpr h2⟩]
theorem isIn_f {z : Int} {lo hi : Int} {S : St} (h : z < lo ∨ hi < z) (h3 : -2147483648 ≤ lo) (h4 : hi < 2147483648) (h5 : -2147483648 ≤ z) (h6 : z < 2147483648) (h7 : lo < 2147483648) (h8 : -2147483648 ≤ hi) : f_X5_isIn (iv z) (iv lo) (iv hi) S = some (iv 0, S) := by
  rw [e_isIn, if_neg]
  rintro ⟨q1, q2⟩
  rw [iv_le (by omega) (by omega) (by omega) (by omega)] at q1 q2
  omega
theorem nxt_e {α β : Type} (v : α) (k : α → β) : nxt v k = k v := rfl
theorem chk_T {α : Type} (e : Option α) : chk true e = e := rfl
theorem iv_ex (x : Int32) : ∃ z : Int, x = iv z ∧ -2147483648 ≤ z ∧ z < 2147483648 := ⟨x.toInt, iv_of x, (iv_rng x).1, (iv_rng x).2⟩
def jv (z : Int) : Int64 := Int64.ofInt z
theorem jv_toInt {z : Int} (h : -9223372036854775808 ≤ z) (h2 : z < 9223372036854775808) : (jv z).toInt = z := Int64.toInt_ofInt_of_le h h2
theorem jv_add (a b : Int) : jv a + jv b = jv (a + b) := (Int64.ofInt_add a b).symm
theorem jv_sub (a b : Int) : jv a - jv b = jv (a - b) := (Int64.ofInt_sub a b).symm
theorem jv_mul (a b : Int) : jv a * jv b = jv (a * b) := (Int64.ofInt_mul a b).symm
theorem jv_neg (a : Int) : -jv a = jv (-a) := (Int64.ofInt_neg a).symm
theorem jv_lt {a b : Int} (h1 : -9223372036854775808 ≤ a) (h2 : a < 9223372036854775808) (h3 : -9223372036854775808 ≤ b) (h4 : b < 9223372036854775808) : jv a < jv b ↔ a < b := by
  rw [Int64.lt_iff_toInt_lt, jv_toInt h1 h2, jv_toInt h3 h4]
theorem jv_le {a b : Int} (h1 : -9223372036854775808 ≤ a) (h2 : a < 9223372036854775808) (h3 : -9223372036854775808 ≤ b) (h4 : b < 9223372036854775808) : jv a ≤ jv b ↔ a ≤ b := by
  rw [Int64.le_iff_toInt_le, jv_toInt h1 h2, jv_toInt h3 h4]
theorem jv_eq {a b : Int} (h1 : -9223372036854775808 ≤ a) (h2 : a < 9223372036854775808) (h3 : -9223372036854775808 ≤ b) (h4 : b < 9223372036854775808) : jv a = jv b ↔ a = b := by
  rw [← Int64.toInt_inj, jv_toInt h1 h2, jv_toInt h3 h4]
theorem jv_lN (n : Nat) : lN n = jv n := by
  unfold lN jv
  apply Int64.toBitVec_inj.mp
  simp [Int64.ofNat, Int64.ofInt]
theorem jv_div {a b : Int} (h1 : 0 ≤ a) (h2 : a < 9223372036854775808) (h3 : 0 < b) (h4 : b < 9223372036854775808) : jv a / jv b = jv (a / b) := by
  obtain ⟨m, rfl⟩ := Int.eq_ofNat_of_zero_le h1
  obtain ⟨k, rfl⟩ := Int.eq_ofNat_of_zero_le (show 0 ≤ b by omega)
  rw [show jv (m : Int) = lN m from (jv_lN m).symm, show jv (k : Int) = lN k from (jv_lN k).symm, pk_lDiv (by omega) (by omega) (by omega), jv_lN]
  rfl
theorem iv_jv {z : Int} (h : -2147483648 ≤ z) (h2 : z < 2147483648) : (iv z).toInt64 = jv z := by
  rw [← Int64.toInt_inj, Int32.toInt_toInt64, iv_toInt h h2, jv_toInt (by omega) (by omega)]
theorem j_0 : (0 : Int64) = jv 0 := by decide
theorem j_60 : (60 : Int64) = jv 60 := by decide
theorem j_w : (167961600000000 : Int64) = jv 167961600000000 := by decide
theorem j_m1 : (-1 : Int64) = jv (-1) := by decide
theorem j_m2 : (-2 : Int64) = jv (-2) := by decide
theorem j_m3 : (-3 : Int64) = jv (-3) := by decide
theorem j_m4 : (-4 : Int64) = jv (-4) := by decide
theorem chk_nF {α : Type} {i : Decidable (¬ False)} (e : Option α) : chk (@decide (¬ False) i) e = e := chk_t (decide_eq_true (fun h => h))
