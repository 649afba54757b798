/-! ===== codes and their digits ===== -/
theorem cdig {c : Nat} (h : c < 1000000) : ∃ d0 d1 d2 d3 d4 d5 : Nat, d0 ≤ 9 ∧ d1 ≤ 9 ∧ d2 ≤ 9 ∧ d3 ≤ 9 ∧ d4 ≤ 9 ∧ d5 ≤ 9 ∧ c = d0 * 100000 + d1 * 10000 + d2 * 1000 + d3 * 100 + d4 * 10 + d5 :=
  ⟨c / 100000, c / 10000 % 10, c / 1000 % 10, c / 100 % 10, c / 10 % 10, c % 10, by omega, by omega, by omega, by omega, by omega, by omega, by omega⟩
theorem dg_le (c x : Nat) : dg c x ≤ 9 := by
  unfold dg
  omega
section D6
variable {d0 d1 d2 d3 d4 d5 : Nat}
def de (d0 d1 d2 d3 d4 d5 : Nat) : Nat := d0 * 100000 + d1 * 10000 + d2 * 1000 + d3 * 100 + d4 * 10 + d5
theorem dg0 (h0 : d0 ≤ 9) (h1 : d1 ≤ 9) (h2 : d2 ≤ 9) (h3 : d3 ≤ 9) (h4 : d4 ≤ 9) (h5 : d5 ≤ 9) : dg (de d0 d1 d2 d3 d4 d5) 0 = d0 := by
  show (de d0 d1 d2 d3 d4 d5) / 100000 % 10 = d0
  unfold de; omega
theorem dg1 (h0 : d0 ≤ 9) (h1 : d1 ≤ 9) (h2 : d2 ≤ 9) (h3 : d3 ≤ 9) (h4 : d4 ≤ 9) (h5 : d5 ≤ 9) : dg (de d0 d1 d2 d3 d4 d5) 1 = d1 := by
  show (de d0 d1 d2 d3 d4 d5) / 10000 % 10 = d1
  unfold de; omega
theorem dg2 (h0 : d0 ≤ 9) (h1 : d1 ≤ 9) (h2 : d2 ≤ 9) (h3 : d3 ≤ 9) (h4 : d4 ≤ 9) (h5 : d5 ≤ 9) : dg (de d0 d1 d2 d3 d4 d5) 2 = d2 := by
  show (de d0 d1 d2 d3 d4 d5) / 1000 % 10 = d2
  unfold de; omega
theorem dg3 (h0 : d0 ≤ 9) (h1 : d1 ≤ 9) (h2 : d2 ≤ 9) (h3 : d3 ≤ 9) (h4 : d4 ≤ 9) (h5 : d5 ≤ 9) : dg (de d0 d1 d2 d3 d4 d5) 3 = d3 := by
  show (de d0 d1 d2 d3 d4 d5) / 100 % 10 = d3
  unfold de; omega
theorem dg4 (h0 : d0 ≤ 9) (h1 : d1 ≤ 9) (h2 : d2 ≤ 9) (h3 : d3 ≤ 9) (h4 : d4 ≤ 9) (h5 : d5 ≤ 9) : dg (de d0 d1 d2 d3 d4 d5) 4 = d4 := by
  show (de d0 d1 d2 d3 d4 d5) / 10 % 10 = d4
  unfold de; omega
theorem dg5 (h0 : d0 ≤ 9) (h1 : d1 ≤ 9) (h2 : d2 ≤ 9) (h3 : d3 ≤ 9) (h4 : d4 ≤ 9) (h5 : d5 ≤ 9) : dg (de d0 d1 d2 d3 d4 d5) 5 = d5 := by
  show (de d0 d1 d2 d3 d4 d5) / 1 % 10 = d5
  unfold de; omega
theorem hx_de (h0 : d0 ≤ 9) (h1 : d1 ≤ 9) (h2 : d2 ≤ 9) (h3 : d3 ≤ 9) (h4 : d4 ≤ 9) (h5 : d5 ≤ 9) : hx (de d0 d1 d2 d3 d4 d5) = ((((d0 * 16 + d1) * 16 + d2) * 16 + d3) * 16 + d4) * 16 + d5 := by
  unfold hx
  rw [dg0 h0 h1 h2 h3 h4 h5, dg1 h0 h1 h2 h3 h4 h5, dg2 h0 h1 h2 h3 h4 h5, dg3 h0 h1 h2 h3 h4 h5, dg4 h0 h1 h2 h3 h4 h5, dg5 h0 h1 h2 h3 h4 h5]
theorem wt0 (v : Nat) (h0 : d0 ≤ 9) (h1 : d1 ≤ 9) (h2 : d2 ≤ 9) (h3 : d3 ≤ 9) (h4 : d4 ≤ 9) (h5 : d5 ≤ 9) : wt (de d0 d1 d2 d3 d4 d5) 0 v = de v d1 d2 d3 d4 d5 := by
  unfold wt; rw [dg0 h0 h1 h2 h3 h4 h5]
  show de d0 d1 d2 d3 d4 d5 - d0 * 100000 + v * 100000 = _
  unfold de; omega
theorem wt1 (v : Nat) (h0 : d0 ≤ 9) (h1 : d1 ≤ 9) (h2 : d2 ≤ 9) (h3 : d3 ≤ 9) (h4 : d4 ≤ 9) (h5 : d5 ≤ 9) : wt (de d0 d1 d2 d3 d4 d5) 1 v = de d0 v d2 d3 d4 d5 := by
  unfold wt; rw [dg1 h0 h1 h2 h3 h4 h5]
  show de d0 d1 d2 d3 d4 d5 - d1 * 10000 + v * 10000 = _
  unfold de; omega
theorem wt2 (v : Nat) (h0 : d0 ≤ 9) (h1 : d1 ≤ 9) (h2 : d2 ≤ 9) (h3 : d3 ≤ 9) (h4 : d4 ≤ 9) (h5 : d5 ≤ 9) : wt (de d0 d1 d2 d3 d4 d5) 2 v = de d0 d1 v d3 d4 d5 := by
  unfold wt; rw [dg2 h0 h1 h2 h3 h4 h5]
  show de d0 d1 d2 d3 d4 d5 - d2 * 1000 + v * 1000 = _
  unfold de; omega
theorem wt3 (v : Nat) (h0 : d0 ≤ 9) (h1 : d1 ≤ 9) (h2 : d2 ≤ 9) (h3 : d3 ≤ 9) (h4 : d4 ≤ 9) (h5 : d5 ≤ 9) : wt (de d0 d1 d2 d3 d4 d5) 3 v = de d0 d1 d2 v d4 d5 := by
  unfold wt; rw [dg3 h0 h1 h2 h3 h4 h5]
  show de d0 d1 d2 d3 d4 d5 - d3 * 100 + v * 100 = _
  unfold de; omega
theorem wt4 (v : Nat) (h0 : d0 ≤ 9) (h1 : d1 ≤ 9) (h2 : d2 ≤ 9) (h3 : d3 ≤ 9) (h4 : d4 ≤ 9) (h5 : d5 ≤ 9) : wt (de d0 d1 d2 d3 d4 d5) 4 v = de d0 d1 d2 d3 v d5 := by
  unfold wt; rw [dg4 h0 h1 h2 h3 h4 h5]
  show de d0 d1 d2 d3 d4 d5 - d4 * 10 + v * 10 = _
  unfold de; omega
theorem wt5 (v : Nat) (h0 : d0 ≤ 9) (h1 : d1 ≤ 9) (h2 : d2 ≤ 9) (h3 : d3 ≤ 9) (h4 : d4 ≤ 9) (h5 : d5 ≤ 9) : wt (de d0 d1 d2 d3 d4 d5) 5 v = de d0 d1 d2 d3 d4 v := by
  unfold wt; rw [dg5 h0 h1 h2 h3 h4 h5]
  show de d0 d1 d2 d3 d4 d5 - d5 * 1 + v * 1 = _
  unfold de; omega
end D6
theorem wt_lt {c x v : Nat} (h : c < 1000000) (hx : x < 6) (hv : v ≤ 9) : wt c x v < 1000000 := by
  obtain ⟨d0, d1, d2, d3, d4, d5, h0, h1, h2, h3, h4, h5, e⟩ := cdig h
  have e : c = de d0 d1 d2 d3 d4 d5 := e
  subst e
  match x, hx with
  | 0, _ => rw [wt0 v h0 h1 h2 h3 h4 h5]; unfold de; omega
  | 1, _ => rw [wt1 v h0 h1 h2 h3 h4 h5]; unfold de; omega
  | 2, _ => rw [wt2 v h0 h1 h2 h3 h4 h5]; unfold de; omega
  | 3, _ => rw [wt3 v h0 h1 h2 h3 h4 h5]; unfold de; omega
  | 4, _ => rw [wt4 v h0 h1 h2 h3 h4 h5]; unfold de; omega
  | 5, _ => rw [wt5 v h0 h1 h2 h3 h4 h5]; unfold de; omega
theorem dg_wt {c x y v : Nat} (h : c < 1000000) (hx : x < 6) (hy : y < 6) (hv : v ≤ 9) : dg (wt c x v) y = if y = x then v else dg c y := by
  obtain ⟨d0, d1, d2, d3, d4, d5, h0, h1, h2, h3, h4, h5, e⟩ := cdig h
  have e : c = de d0 d1 d2 d3 d4 d5 := e
  subst e
  match x, hx with
  | 0, _ =>
    rw [wt0 v h0 h1 h2 h3 h4 h5]
    match y, hy with
    | 0, _ => rw [dg0 hv h1 h2 h3 h4 h5, if_pos rfl]
    | 1, _ => rw [dg1 hv h1 h2 h3 h4 h5, dg1 h0 h1 h2 h3 h4 h5, if_neg (by decide)]
    | 2, _ => rw [dg2 hv h1 h2 h3 h4 h5, dg2 h0 h1 h2 h3 h4 h5, if_neg (by decide)]
    | 3, _ => rw [dg3 hv h1 h2 h3 h4 h5, dg3 h0 h1 h2 h3 h4 h5, if_neg (by decide)]
    | 4, _ => rw [dg4 hv h1 h2 h3 h4 h5, dg4 h0 h1 h2 h3 h4 h5, if_neg (by decide)]
    | 5, _ => rw [dg5 hv h1 h2 h3 h4 h5, dg5 h0 h1 h2 h3 h4 h5, if_neg (by decide)]
  | 1, _ =>
    rw [wt1 v h0 h1 h2 h3 h4 h5]
    match y, hy with
    | 0, _ => rw [dg0 h0 hv h2 h3 h4 h5, dg0 h0 h1 h2 h3 h4 h5, if_neg (by decide)]
    | 1, _ => rw [dg1 h0 hv h2 h3 h4 h5, if_pos rfl]
    | 2, _ => rw [dg2 h0 hv h2 h3 h4 h5, dg2 h0 h1 h2 h3 h4 h5, if_neg (by decide)]
    | 3, _ => rw [dg3 h0 hv h2 h3 h4 h5, dg3 h0 h1 h2 h3 h4 h5, if_neg (by decide)]
    | 4, _ => rw [dg4 h0 hv h2 h3 h4 h5, dg4 h0 h1 h2 h3 h4 h5, if_neg (by decide)]
    | 5, _ => rw [dg5 h0 hv h2 h3 h4 h5, dg5 h0 h1 h2 h3 h4 h5, if_neg (by decide)]
  | 2, _ =>
    rw [wt2 v h0 h1 h2 h3 h4 h5]
    match y, hy with
    | 0, _ => rw [dg0 h0 h1 hv h3 h4 h5, dg0 h0 h1 h2 h3 h4 h5, if_neg (by decide)]
    | 1, _ => rw [dg1 h0 h1 hv h3 h4 h5, dg1 h0 h1 h2 h3 h4 h5, if_neg (by decide)]
    | 2, _ => rw [dg2 h0 h1 hv h3 h4 h5, if_pos rfl]
    | 3, _ => rw [dg3 h0 h1 hv h3 h4 h5, dg3 h0 h1 h2 h3 h4 h5, if_neg (by decide)]
    | 4, _ => rw [dg4 h0 h1 hv h3 h4 h5, dg4 h0 h1 h2 h3 h4 h5, if_neg (by decide)]
    | 5, _ => rw [dg5 h0 h1 hv h3 h4 h5, dg5 h0 h1 h2 h3 h4 h5, if_neg (by decide)]
  | 3, _ =>
    rw [wt3 v h0 h1 h2 h3 h4 h5]
    match y, hy with
    | 0, _ => rw [dg0 h0 h1 h2 hv h4 h5, dg0 h0 h1 h2 h3 h4 h5, if_neg (by decide)]
    | 1, _ => rw [dg1 h0 h1 h2 hv h4 h5, dg1 h0 h1 h2 h3 h4 h5, if_neg (by decide)]
    | 2, _ => rw [dg2 h0 h1 h2 hv h4 h5, dg2 h0 h1 h2 h3 h4 h5, if_neg (by decide)]
    | 3, _ => rw [dg3 h0 h1 h2 hv h4 h5, if_pos rfl]
    | 4, _ => rw [dg4 h0 h1 h2 hv h4 h5, dg4 h0 h1 h2 h3 h4 h5, if_neg (by decide)]
    | 5, _ => rw [dg5 h0 h1 h2 hv h4 h5, dg5 h0 h1 h2 h3 h4 h5, if_neg (by decide)]
  | 4, _ =>
    rw [wt4 v h0 h1 h2 h3 h4 h5]
    match y, hy with
    | 0, _ => rw [dg0 h0 h1 h2 h3 hv h5, dg0 h0 h1 h2 h3 h4 h5, if_neg (by decide)]
    | 1, _ => rw [dg1 h0 h1 h2 h3 hv h5, dg1 h0 h1 h2 h3 h4 h5, if_neg (by decide)]
    | 2, _ => rw [dg2 h0 h1 h2 h3 hv h5, dg2 h0 h1 h2 h3 h4 h5, if_neg (by decide)]
    | 3, _ => rw [dg3 h0 h1 h2 h3 hv h5, dg3 h0 h1 h2 h3 h4 h5, if_neg (by decide)]
    | 4, _ => rw [dg4 h0 h1 h2 h3 hv h5, if_pos rfl]
    | 5, _ => rw [dg5 h0 h1 h2 h3 hv h5, dg5 h0 h1 h2 h3 h4 h5, if_neg (by decide)]
  | 5, _ =>
    rw [wt5 v h0 h1 h2 h3 h4 h5]
    match y, hy with
    | 0, _ => rw [dg0 h0 h1 h2 h3 h4 hv, dg0 h0 h1 h2 h3 h4 h5, if_neg (by decide)]
    | 1, _ => rw [dg1 h0 h1 h2 h3 h4 hv, dg1 h0 h1 h2 h3 h4 h5, if_neg (by decide)]
    | 2, _ => rw [dg2 h0 h1 h2 h3 h4 hv, dg2 h0 h1 h2 h3 h4 h5, if_neg (by decide)]
    | 3, _ => rw [dg3 h0 h1 h2 h3 h4 hv, dg3 h0 h1 h2 h3 h4 h5, if_neg (by decide)]
    | 4, _ => rw [dg4 h0 h1 h2 h3 h4 hv, dg4 h0 h1 h2 h3 h4 h5, if_neg (by decide)]
    | 5, _ => rw [dg5 h0 h1 h2 h3 h4 hv, if_pos rfl]
theorem nA (a b : Nat) : iv (a : Int) &&& iv (b : Int) = iv ((a &&& b : Nat) : Int) := by
  rw [← iv_nI, ← iv_nI, ← iv_nI]
  unfold nI
  apply Int32.toBitVec_inj.mp
  rw [Int32.toBitVec_and]
  show BitVec.ofNat 32 a &&& BitVec.ofNat 32 b = BitVec.ofNat 32 (a &&& b)
  rw [BitVec.ofNat_and]
theorem nO (a b : Nat) : iv (a : Int) ||| iv (b : Int) = iv ((a ||| b : Nat) : Int) := by
  rw [← iv_nI, ← iv_nI, ← iv_nI]
  unfold nI
  apply Int32.toBitVec_inj.mp
  rw [Int32.toBitVec_or]
  show BitVec.ofNat 32 a ||| BitVec.ofNat 32 b = BitVec.ofNat 32 (a ||| b)
  rw [BitVec.ofNat_or]
theorem and16 {a b e f : Nat} (he : e < 16) (hf : f < 16) : (a * 16 + e) &&& (b * 16 + f) = (a &&& b) * 16 + (e &&& f) := by
  apply Nat.eq_of_testBit_eq
  intro j
  have h1 : e &&& f < 2 ^ 4 := Nat.and_lt_two_pow _ hf
  rw [Nat.testBit_and, Nat.mul_comm a, Nat.mul_comm b, Nat.mul_comm (a &&& b), show (16 : Nat) = 2 ^ 4 from rfl, Nat.testBit_two_pow_mul_add _ he, Nat.testBit_two_pow_mul_add _ hf, Nat.testBit_two_pow_mul_add _ h1]
  split
  · rw [Nat.testBit_and]
  · rw [Nat.testBit_and]
theorem or16 {a b e f : Nat} (he : e < 16) (hf : f < 16) : (a * 16 + e) ||| (b * 16 + f) = (a ||| b) * 16 + (e ||| f) := by
  apply Nat.eq_of_testBit_eq
  intro j
  have h1 : e ||| f < 2 ^ 4 := Nat.or_lt_two_pow he hf
  rw [Nat.testBit_or, Nat.mul_comm a, Nat.mul_comm b, Nat.mul_comm (a ||| b), show (16 : Nat) = 2 ^ 4 from rfl, Nat.testBit_two_pow_mul_add _ he, Nat.testBit_two_pow_mul_add _ hf, Nat.testBit_two_pow_mul_add _ h1]
  split
  · rw [Nat.testBit_or]
  · rw [Nat.testBit_or]
theorem a15 {d : Nat} (h : d < 16) : d &&& 15 = d := by
  rw [show (15 : Nat) = 2 ^ 4 - 1 from rfl, Nat.and_two_pow_sub_one_eq_mod]
  omega
theorem hx_lt {c : Nat} : hx c < 16777216 := by
  unfold hx
  have := dg_le c 0; have := dg_le c 1; have := dg_le c 2; have := dg_le c 3; have := dg_le c 4; have := dg_le c 5
  omega
theorem e_shr {n : Nat} (hn : n < 2147483648) : ∀ x : Nat, x < 6 → iv (n : Int) >>> ((iv 20 - iv 4 * iv (x : Int)) &&& iv 31) = iv ((n / 16 ^ (5 - x) : Nat) : Int) := by
  intro x hx
  have h : ∀ x : Nat, x < 6 → (((iv 20 - iv 4 * iv (x : Int)) &&& iv 31).toBitVec.smod 32).toNat = 4 * (5 - x) := by decide +kernel
  rw [← iv_nI, pk_shrN hn _ _ (h x hx), iv_nI, Nat.pow_mul]
theorem vbit0 {d0 d1 d2 d3 d4 d5 : Nat} (h0 : d0 ≤ 9) (h1 : d1 ≤ 9) (h2 : d2 ≤ 9) (h3 : d3 ≤ 9) (h4 : d4 ≤ 9) (h5 : d5 ≤ 9) : (((((d0 * 16 + d1) * 16 + d2) * 16 + d3) * 16 + d4) * 16 + d5) / 16 ^ (5 - 0) % 2 ^ 4 = d0 := by
  show (((((d0 * 16 + d1) * 16 + d2) * 16 + d3) * 16 + d4) * 16 + d5) / 1048576 % 16 = d0
  rw [show (((((d0 * 16 + d1) * 16 + d2) * 16 + d3) * 16 + d4) * 16 + d5) / 1048576 = d0 by omega]
  omega
theorem vbit1 {d0 d1 d2 d3 d4 d5 : Nat} (h0 : d0 ≤ 9) (h1 : d1 ≤ 9) (h2 : d2 ≤ 9) (h3 : d3 ≤ 9) (h4 : d4 ≤ 9) (h5 : d5 ≤ 9) : (((((d0 * 16 + d1) * 16 + d2) * 16 + d3) * 16 + d4) * 16 + d5) / 16 ^ (5 - 1) % 2 ^ 4 = d1 := by
  show (((((d0 * 16 + d1) * 16 + d2) * 16 + d3) * 16 + d4) * 16 + d5) / 65536 % 16 = d1
  rw [show (((((d0 * 16 + d1) * 16 + d2) * 16 + d3) * 16 + d4) * 16 + d5) / 65536 = d0 * 16 + d1 by omega]
  omega
theorem vbit2 {d0 d1 d2 d3 d4 d5 : Nat} (h0 : d0 ≤ 9) (h1 : d1 ≤ 9) (h2 : d2 ≤ 9) (h3 : d3 ≤ 9) (h4 : d4 ≤ 9) (h5 : d5 ≤ 9) : (((((d0 * 16 + d1) * 16 + d2) * 16 + d3) * 16 + d4) * 16 + d5) / 16 ^ (5 - 2) % 2 ^ 4 = d2 := by
  show (((((d0 * 16 + d1) * 16 + d2) * 16 + d3) * 16 + d4) * 16 + d5) / 4096 % 16 = d2
  rw [show (((((d0 * 16 + d1) * 16 + d2) * 16 + d3) * 16 + d4) * 16 + d5) / 4096 = (d0 * 16 + d1) * 16 + d2 by omega]
  omega
theorem vbit3 {d0 d1 d2 d3 d4 d5 : Nat} (h0 : d0 ≤ 9) (h1 : d1 ≤ 9) (h2 : d2 ≤ 9) (h3 : d3 ≤ 9) (h4 : d4 ≤ 9) (h5 : d5 ≤ 9) : (((((d0 * 16 + d1) * 16 + d2) * 16 + d3) * 16 + d4) * 16 + d5) / 16 ^ (5 - 3) % 2 ^ 4 = d3 := by
  show (((((d0 * 16 + d1) * 16 + d2) * 16 + d3) * 16 + d4) * 16 + d5) / 256 % 16 = d3
  rw [show (((((d0 * 16 + d1) * 16 + d2) * 16 + d3) * 16 + d4) * 16 + d5) / 256 = ((d0 * 16 + d1) * 16 + d2) * 16 + d3 by omega]
  omega
theorem vbit4 {d0 d1 d2 d3 d4 d5 : Nat} (h0 : d0 ≤ 9) (h1 : d1 ≤ 9) (h2 : d2 ≤ 9) (h3 : d3 ≤ 9) (h4 : d4 ≤ 9) (h5 : d5 ≤ 9) : (((((d0 * 16 + d1) * 16 + d2) * 16 + d3) * 16 + d4) * 16 + d5) / 16 ^ (5 - 4) % 2 ^ 4 = d4 := by
  show (((((d0 * 16 + d1) * 16 + d2) * 16 + d3) * 16 + d4) * 16 + d5) / 16 % 16 = d4
  rw [show (((((d0 * 16 + d1) * 16 + d2) * 16 + d3) * 16 + d4) * 16 + d5) / 16 = (((d0 * 16 + d1) * 16 + d2) * 16 + d3) * 16 + d4 by omega]
  omega
theorem vbit5 {d0 d1 d2 d3 d4 d5 : Nat} (h0 : d0 ≤ 9) (h1 : d1 ≤ 9) (h2 : d2 ≤ 9) (h3 : d3 ≤ 9) (h4 : d4 ≤ 9) (h5 : d5 ≤ 9) : (((((d0 * 16 + d1) * 16 + d2) * 16 + d3) * 16 + d4) * 16 + d5) / 16 ^ (5 - 5) % 2 ^ 4 = d5 := by
  show (((((d0 * 16 + d1) * 16 + d2) * 16 + d3) * 16 + d4) * 16 + d5) / 1 % 16 = d5
  rw [show (((((d0 * 16 + d1) * 16 + d2) * 16 + d3) * 16 + d4) * 16 + d5) / 1 = ((((d0 * 16 + d1) * 16 + d2) * 16 + d3) * 16 + d4) * 16 + d5 by omega]
  omega
theorem e_val {c x : Nat} {S : St} (hc : c < 1000000) (h6 : x < 6) : f_X0_valueOf (iv (hx c)) (iv (x : Int)) S = some (iv (dg c x), S) := by
  unfold f_X0_valueOf
  have hl := @hx_lt c
  rw [i_20, i_4, i_31, i_15, e_shr (by omega) x h6, show iv 15 = iv ((15 : Nat) : Int) from rfl, nA, show (15 : Nat) = 2 ^ 4 - 1 from rfl, Nat.and_two_pow_sub_one_eq_mod]
  obtain ⟨d0, d1, d2, d3, d4, d5, h0, h1, h2, h3, h4, h5, e⟩ := cdig hc
  have e : c = de d0 d1 d2 d3 d4 d5 := e
  subst e
  rw [hx_de h0 h1 h2 h3 h4 h5]
  match x, h6 with
  | 0, _ => rw [dg0 h0 h1 h2 h3 h4 h5, vbit0 h0 h1 h2 h3 h4 h5]
  | 1, _ => rw [dg1 h0 h1 h2 h3 h4 h5, vbit1 h0 h1 h2 h3 h4 h5]
  | 2, _ => rw [dg2 h0 h1 h2 h3 h4 h5, vbit2 h0 h1 h2 h3 h4 h5]
  | 3, _ => rw [dg3 h0 h1 h2 h3 h4 h5, vbit3 h0 h1 h2 h3 h4 h5]
  | 4, _ => rw [dg4 h0 h1 h2 h3 h4 h5, vbit4 h0 h1 h2 h3 h4 h5]
  | 5, _ => rw [dg5 h0 h1 h2 h3 h4 h5, vbit5 h0 h1 h2 h3 h4 h5]
theorem e_wmask : ∀ x : Nat, x < 6 → (iv 15 <<< ((iv 20 - iv 4 * iv (x : Int)) &&& iv 31)) ^^^ iv (-1) = iv ((4294967295 - 15 * 16 ^ (5 - x) : Nat) : Int) := by decide +kernel
theorem e_wval : ∀ x : Nat, x < 6 → ∀ v : Nat, v < 10 → iv (v : Int) <<< ((iv 20 - iv 4 * iv (x : Int)) &&& iv 31) = iv ((v * 16 ^ (5 - x) : Nat) : Int) := by decide +kernel
theorem o_0 (d : Nat) : d ||| 0 = d := Nat.or_zero d
theorem z_o (d : Nat) : 0 ||| d = d := Nat.zero_or d
theorem z_a (d : Nat) : 0 &&& d = 0 := Nat.zero_and d
theorem a_0 (d : Nat) : d &&& 0 = 0 := Nat.and_zero d
theorem wbit0 {d0 d1 d2 d3 d4 d5 v : Nat} (h0 : d0 ≤ 9) (h1 : d1 ≤ 9) (h2 : d2 ≤ 9) (h3 : d3 ≤ 9) (h4 : d4 ≤ 9) (h5 : d5 ≤ 9) (hv : v ≤ 9) : (((((((d0 * 16 + d1) * 16 + d2) * 16 + d3) * 16 + d4) * 16 + d5) &&& (4294967295 - 15 * 16 ^ 5)) ||| (v * 16 ^ 5)) = (((((v * 16 + d1) * 16 + d2) * 16 + d3) * 16 + d4) * 16 + d5) := by
  rw [show (((((d0 * 16 + d1) * 16 + d2) * 16 + d3) * 16 + d4) * 16 + d5) = (((((((0 * 16 + 0) * 16 + d0) * 16 + d1) * 16 + d2) * 16 + d3) * 16 + d4) * 16 + d5) by omega, show (4294967295 - 15 * 16 ^ 5 : Nat) = (((((((15 * 16 + 15) * 16 + 0) * 16 + 15) * 16 + 15) * 16 + 15) * 16 + 15) * 16 + 15) from rfl, show v * 16 ^ 5 = (((((((0 * 16 + 0) * 16 + v) * 16 + 0) * 16 + 0) * 16 + 0) * 16 + 0) * 16 + 0) by show v * 1048576 = _; omega]
  rw [show (((((((0 * 16 + 0) * 16 + d0) * 16 + d1) * 16 + d2) * 16 + d3) * 16 + d4) * 16 + d5) &&& (((((((15 * 16 + 15) * 16 + 0) * 16 + 15) * 16 + 15) * 16 + 15) * 16 + 15) * 16 + 15) = (((((((0 * 16 + 0) * 16 + 0) * 16 + d1) * 16 + d2) * 16 + d3) * 16 + d4) * 16 + d5) by
    simp (disch := omega) only [and16, a15, z_a, a_0]]
  rw [show (((((((0 * 16 + 0) * 16 + 0) * 16 + d1) * 16 + d2) * 16 + d3) * 16 + d4) * 16 + d5) ||| (((((((0 * 16 + 0) * 16 + v) * 16 + 0) * 16 + 0) * 16 + 0) * 16 + 0) * 16 + 0) = (((((((0 * 16 + 0) * 16 + v) * 16 + d1) * 16 + d2) * 16 + d3) * 16 + d4) * 16 + d5) by
    simp (disch := omega) only [or16, o_0, z_o]]
  omega
theorem wbit1 {d0 d1 d2 d3 d4 d5 v : Nat} (h0 : d0 ≤ 9) (h1 : d1 ≤ 9) (h2 : d2 ≤ 9) (h3 : d3 ≤ 9) (h4 : d4 ≤ 9) (h5 : d5 ≤ 9) (hv : v ≤ 9) : (((((((d0 * 16 + d1) * 16 + d2) * 16 + d3) * 16 + d4) * 16 + d5) &&& (4294967295 - 15 * 16 ^ 4)) ||| (v * 16 ^ 4)) = (((((d0 * 16 + v) * 16 + d2) * 16 + d3) * 16 + d4) * 16 + d5) := by
  rw [show (((((d0 * 16 + d1) * 16 + d2) * 16 + d3) * 16 + d4) * 16 + d5) = (((((((0 * 16 + 0) * 16 + d0) * 16 + d1) * 16 + d2) * 16 + d3) * 16 + d4) * 16 + d5) by omega, show (4294967295 - 15 * 16 ^ 4 : Nat) = (((((((15 * 16 + 15) * 16 + 15) * 16 + 0) * 16 + 15) * 16 + 15) * 16 + 15) * 16 + 15) from rfl, show v * 16 ^ 4 = (((((((0 * 16 + 0) * 16 + 0) * 16 + v) * 16 + 0) * 16 + 0) * 16 + 0) * 16 + 0) by show v * 65536 = _; omega]
  rw [show (((((((0 * 16 + 0) * 16 + d0) * 16 + d1) * 16 + d2) * 16 + d3) * 16 + d4) * 16 + d5) &&& (((((((15 * 16 + 15) * 16 + 15) * 16 + 0) * 16 + 15) * 16 + 15) * 16 + 15) * 16 + 15) = (((((((0 * 16 + 0) * 16 + d0) * 16 + 0) * 16 + d2) * 16 + d3) * 16 + d4) * 16 + d5) by
    simp (disch := omega) only [and16, a15, z_a, a_0]]
  rw [show (((((((0 * 16 + 0) * 16 + d0) * 16 + 0) * 16 + d2) * 16 + d3) * 16 + d4) * 16 + d5) ||| (((((((0 * 16 + 0) * 16 + 0) * 16 + v) * 16 + 0) * 16 + 0) * 16 + 0) * 16 + 0) = (((((((0 * 16 + 0) * 16 + d0) * 16 + v) * 16 + d2) * 16 + d3) * 16 + d4) * 16 + d5) by
    simp (disch := omega) only [or16, o_0, z_o]]
  omega
theorem wbit2 {d0 d1 d2 d3 d4 d5 v : Nat} (h0 : d0 ≤ 9) (h1 : d1 ≤ 9) (h2 : d2 ≤ 9) (h3 : d3 ≤ 9) (h4 : d4 ≤ 9) (h5 : d5 ≤ 9) (hv : v ≤ 9) : (((((((d0 * 16 + d1) * 16 + d2) * 16 + d3) * 16 + d4) * 16 + d5) &&& (4294967295 - 15 * 16 ^ 3)) ||| (v * 16 ^ 3)) = (((((d0 * 16 + d1) * 16 + v) * 16 + d3) * 16 + d4) * 16 + d5) := by
  rw [show (((((d0 * 16 + d1) * 16 + d2) * 16 + d3) * 16 + d4) * 16 + d5) = (((((((0 * 16 + 0) * 16 + d0) * 16 + d1) * 16 + d2) * 16 + d3) * 16 + d4) * 16 + d5) by omega, show (4294967295 - 15 * 16 ^ 3 : Nat) = (((((((15 * 16 + 15) * 16 + 15) * 16 + 15) * 16 + 0) * 16 + 15) * 16 + 15) * 16 + 15) from rfl, show v * 16 ^ 3 = (((((((0 * 16 + 0) * 16 + 0) * 16 + 0) * 16 + v) * 16 + 0) * 16 + 0) * 16 + 0) by show v * 4096 = _; omega]
  rw [show (((((((0 * 16 + 0) * 16 + d0) * 16 + d1) * 16 + d2) * 16 + d3) * 16 + d4) * 16 + d5) &&& (((((((15 * 16 + 15) * 16 + 15) * 16 + 15) * 16 + 0) * 16 + 15) * 16 + 15) * 16 + 15) = (((((((0 * 16 + 0) * 16 + d0) * 16 + d1) * 16 + 0) * 16 + d3) * 16 + d4) * 16 + d5) by
    simp (disch := omega) only [and16, a15, z_a, a_0]]
  rw [show (((((((0 * 16 + 0) * 16 + d0) * 16 + d1) * 16 + 0) * 16 + d3) * 16 + d4) * 16 + d5) ||| (((((((0 * 16 + 0) * 16 + 0) * 16 + 0) * 16 + v) * 16 + 0) * 16 + 0) * 16 + 0) = (((((((0 * 16 + 0) * 16 + d0) * 16 + d1) * 16 + v) * 16 + d3) * 16 + d4) * 16 + d5) by
    simp (disch := omega) only [or16, o_0, z_o]]
  omega
theorem wbit3 {d0 d1 d2 d3 d4 d5 v : Nat} (h0 : d0 ≤ 9) (h1 : d1 ≤ 9) (h2 : d2 ≤ 9) (h3 : d3 ≤ 9) (h4 : d4 ≤ 9) (h5 : d5 ≤ 9) (hv : v ≤ 9) : (((((((d0 * 16 + d1) * 16 + d2) * 16 + d3) * 16 + d4) * 16 + d5) &&& (4294967295 - 15 * 16 ^ 2)) ||| (v * 16 ^ 2)) = (((((d0 * 16 + d1) * 16 + d2) * 16 + v) * 16 + d4) * 16 + d5) := by
  rw [show (((((d0 * 16 + d1) * 16 + d2) * 16 + d3) * 16 + d4) * 16 + d5) = (((((((0 * 16 + 0) * 16 + d0) * 16 + d1) * 16 + d2) * 16 + d3) * 16 + d4) * 16 + d5) by omega, show (4294967295 - 15 * 16 ^ 2 : Nat) = (((((((15 * 16 + 15) * 16 + 15) * 16 + 15) * 16 + 15) * 16 + 0) * 16 + 15) * 16 + 15) from rfl, show v * 16 ^ 2 = (((((((0 * 16 + 0) * 16 + 0) * 16 + 0) * 16 + 0) * 16 + v) * 16 + 0) * 16 + 0) by show v * 256 = _; omega]
  rw [show (((((((0 * 16 + 0) * 16 + d0) * 16 + d1) * 16 + d2) * 16 + d3) * 16 + d4) * 16 + d5) &&& (((((((15 * 16 + 15) * 16 + 15) * 16 + 15) * 16 + 15) * 16 + 0) * 16 + 15) * 16 + 15) = (((((((0 * 16 + 0) * 16 + d0) * 16 + d1) * 16 + d2) * 16 + 0) * 16 + d4) * 16 + d5) by
    simp (disch := omega) only [and16, a15, z_a, a_0]]
  rw [show (((((((0 * 16 + 0) * 16 + d0) * 16 + d1) * 16 + d2) * 16 + 0) * 16 + d4) * 16 + d5) ||| (((((((0 * 16 + 0) * 16 + 0) * 16 + 0) * 16 + 0) * 16 + v) * 16 + 0) * 16 + 0) = (((((((0 * 16 + 0) * 16 + d0) * 16 + d1) * 16 + d2) * 16 + v) * 16 + d4) * 16 + d5) by
    simp (disch := omega) only [or16, o_0, z_o]]
  omega
theorem wbit4 {d0 d1 d2 d3 d4 d5 v : Nat} (h0 : d0 ≤ 9) (h1 : d1 ≤ 9) (h2 : d2 ≤ 9) (h3 : d3 ≤ 9) (h4 : d4 ≤ 9) (h5 : d5 ≤ 9) (hv : v ≤ 9) : (((((((d0 * 16 + d1) * 16 + d2) * 16 + d3) * 16 + d4) * 16 + d5) &&& (4294967295 - 15 * 16 ^ 1)) ||| (v * 16 ^ 1)) = (((((d0 * 16 + d1) * 16 + d2) * 16 + d3) * 16 + v) * 16 + d5) := by
  rw [show (((((d0 * 16 + d1) * 16 + d2) * 16 + d3) * 16 + d4) * 16 + d5) = (((((((0 * 16 + 0) * 16 + d0) * 16 + d1) * 16 + d2) * 16 + d3) * 16 + d4) * 16 + d5) by omega, show (4294967295 - 15 * 16 ^ 1 : Nat) = (((((((15 * 16 + 15) * 16 + 15) * 16 + 15) * 16 + 15) * 16 + 15) * 16 + 0) * 16 + 15) from rfl, show v * 16 ^ 1 = (((((((0 * 16 + 0) * 16 + 0) * 16 + 0) * 16 + 0) * 16 + 0) * 16 + v) * 16 + 0) by show v * 16 = _; omega]
  rw [show (((((((0 * 16 + 0) * 16 + d0) * 16 + d1) * 16 + d2) * 16 + d3) * 16 + d4) * 16 + d5) &&& (((((((15 * 16 + 15) * 16 + 15) * 16 + 15) * 16 + 15) * 16 + 15) * 16 + 0) * 16 + 15) = (((((((0 * 16 + 0) * 16 + d0) * 16 + d1) * 16 + d2) * 16 + d3) * 16 + 0) * 16 + d5) by
    simp (disch := omega) only [and16, a15, z_a, a_0]]
  rw [show (((((((0 * 16 + 0) * 16 + d0) * 16 + d1) * 16 + d2) * 16 + d3) * 16 + 0) * 16 + d5) ||| (((((((0 * 16 + 0) * 16 + 0) * 16 + 0) * 16 + 0) * 16 + 0) * 16 + v) * 16 + 0) = (((((((0 * 16 + 0) * 16 + d0) * 16 + d1) * 16 + d2) * 16 + d3) * 16 + v) * 16 + d5) by
    simp (disch := omega) only [or16, o_0, z_o]]
  omega
theorem wbit5 {d0 d1 d2 d3 d4 d5 v : Nat} (h0 : d0 ≤ 9) (h1 : d1 ≤ 9) (h2 : d2 ≤ 9) (h3 : d3 ≤ 9) (h4 : d4 ≤ 9) (h5 : d5 ≤ 9) (hv : v ≤ 9) : (((((((d0 * 16 + d1) * 16 + d2) * 16 + d3) * 16 + d4) * 16 + d5) &&& (4294967295 - 15 * 16 ^ 0)) ||| (v * 16 ^ 0)) = (((((d0 * 16 + d1) * 16 + d2) * 16 + d3) * 16 + d4) * 16 + v) := by
  rw [show (((((d0 * 16 + d1) * 16 + d2) * 16 + d3) * 16 + d4) * 16 + d5) = (((((((0 * 16 + 0) * 16 + d0) * 16 + d1) * 16 + d2) * 16 + d3) * 16 + d4) * 16 + d5) by omega, show (4294967295 - 15 * 16 ^ 0 : Nat) = (((((((15 * 16 + 15) * 16 + 15) * 16 + 15) * 16 + 15) * 16 + 15) * 16 + 15) * 16 + 0) from rfl, show v * 16 ^ 0 = (((((((0 * 16 + 0) * 16 + 0) * 16 + 0) * 16 + 0) * 16 + 0) * 16 + 0) * 16 + v) by show v * 1 = _; omega]
  rw [show (((((((0 * 16 + 0) * 16 + d0) * 16 + d1) * 16 + d2) * 16 + d3) * 16 + d4) * 16 + d5) &&& (((((((15 * 16 + 15) * 16 + 15) * 16 + 15) * 16 + 15) * 16 + 15) * 16 + 15) * 16 + 0) = (((((((0 * 16 + 0) * 16 + d0) * 16 + d1) * 16 + d2) * 16 + d3) * 16 + d4) * 16 + 0) by
    simp (disch := omega) only [and16, a15, z_a, a_0]]
  rw [show (((((((0 * 16 + 0) * 16 + d0) * 16 + d1) * 16 + d2) * 16 + d3) * 16 + d4) * 16 + 0) ||| (((((((0 * 16 + 0) * 16 + 0) * 16 + 0) * 16 + 0) * 16 + 0) * 16 + 0) * 16 + v) = (((((((0 * 16 + 0) * 16 + d0) * 16 + d1) * 16 + d2) * 16 + d3) * 16 + d4) * 16 + v) by
    simp (disch := omega) only [or16, o_0, z_o]]
  omega
theorem e_wit {c x v : Nat} {S : St} (hc : c < 1000000) (h6 : x < 6) (hv : v ≤ 9) : f_X0_with (iv (hx c)) (iv (x : Int)) (iv (v : Int)) S = some (iv (hx (wt c x v)), S) := by
  unfold f_X0_with
  rw [nxt_e, i_20, i_4, i_31, i_15, i_m1, e_wmask x h6, e_wval x h6 v (by omega), nA, nO]
  obtain ⟨d0, d1, d2, d3, d4, d5, h0, h1, h2, h3, h4, h5, e⟩ := cdig hc
  have e : c = de d0 d1 d2 d3 d4 d5 := e
  subst e
  rw [hx_de h0 h1 h2 h3 h4 h5]
  match x, h6 with
  | 0, _ => rw [wt0 v h0 h1 h2 h3 h4 h5, hx_de hv h1 h2 h3 h4 h5, show (((((d0 * 16 + d1) * 16 + d2) * 16 + d3) * 16 + d4) * 16 + d5 &&& 4294967295 - 15 * 16 ^ (5 - 0) ||| v * 16 ^ (5 - 0)) = _ from wbit0 h0 h1 h2 h3 h4 h5 hv]
  | 1, _ => rw [wt1 v h0 h1 h2 h3 h4 h5, hx_de h0 hv h2 h3 h4 h5, show (((((d0 * 16 + d1) * 16 + d2) * 16 + d3) * 16 + d4) * 16 + d5 &&& 4294967295 - 15 * 16 ^ (5 - 1) ||| v * 16 ^ (5 - 1)) = _ from wbit1 h0 h1 h2 h3 h4 h5 hv]
  | 2, _ => rw [wt2 v h0 h1 h2 h3 h4 h5, hx_de h0 h1 hv h3 h4 h5, show (((((d0 * 16 + d1) * 16 + d2) * 16 + d3) * 16 + d4) * 16 + d5 &&& 4294967295 - 15 * 16 ^ (5 - 2) ||| v * 16 ^ (5 - 2)) = _ from wbit2 h0 h1 h2 h3 h4 h5 hv]
  | 3, _ => rw [wt3 v h0 h1 h2 h3 h4 h5, hx_de h0 h1 h2 hv h4 h5, show (((((d0 * 16 + d1) * 16 + d2) * 16 + d3) * 16 + d4) * 16 + d5 &&& 4294967295 - 15 * 16 ^ (5 - 3) ||| v * 16 ^ (5 - 3)) = _ from wbit3 h0 h1 h2 h3 h4 h5 hv]
  | 4, _ => rw [wt4 v h0 h1 h2 h3 h4 h5, hx_de h0 h1 h2 h3 hv h5, show (((((d0 * 16 + d1) * 16 + d2) * 16 + d3) * 16 + d4) * 16 + d5 &&& 4294967295 - 15 * 16 ^ (5 - 4) ||| v * 16 ^ (5 - 4)) = _ from wbit4 h0 h1 h2 h3 h4 h5 hv]
  | 5, _ => rw [wt5 v h0 h1 h2 h3 h4 h5, hx_de h0 h1 h2 h3 h4 hv, show (((((d0 * 16 + d1) * 16 + d2) * 16 + d3) * 16 + d4) * 16 + d5 &&& 4294967295 - 15 * 16 ^ (5 - 5) ||| v * 16 ^ (5 - 5)) = _ from wbit5 h0 h1 h2 h3 h4 h5 hv]
/-- the masks -/
theorem mk_step : ∀ L : Nat, L < 64 → ∀ x : Nat, x < 6 → ((iv (L : Int) &&& (iv 1 <<< (iv (x : Int) &&& iv 31)) = iv 0) ↔ L / 2 ^ x % 2 = 0) ∧ (L / 2 ^ x % 2 = 0 → mk (L % 2 ^ (x + 1)) = mk (L % 2 ^ x)) ∧ (¬ L / 2 ^ x % 2 = 0 → iv ((mk (L % 2 ^ x) : Nat) : Int) ||| (iv 15 <<< ((iv 20 - iv 4 * iv (x : Int)) &&& iv 31)) = iv ((mk (L % 2 ^ (x + 1)) : Nat) : Int)) := by decide +kernel
theorem e_mask {L : Nat} {S : St} (hL : L < 64) : f_X0_maskOf (iv (L : Int)) S = some (iv (mk L), S) := by
  have key : ∀ (j x n : Nat), j + x = 6 → j < n → lp_X0_maskOf_4 (iv (L : Int)) n (iv ((mk (L % 2 ^ x) : Nat) : Int)) (iv (x : Int)) S = some (iv (mk L), S) := by
    intro j
    induction j with
    | zero =>
      intro x n hx hn
      obtain ⟨n, rfl⟩ : ∃ k, n = k + 1 := ⟨n - 1, by omega⟩
      obtain rfl : x = 6 := by omega
      rw [lp_X0_maskOf_4, i_6, if_pos (by rw [iv_le (by omega) (by omega) (by omega) (by omega)]; omega), show L % 2 ^ 6 = L from Nat.mod_eq_of_lt hL]
    | succ j ih =>
      intro x n hx hn
      obtain ⟨n, rfl⟩ : ∃ k, n = k + 1 := ⟨n - 1, by omega⟩
      obtain ⟨s1, s2, s3⟩ := mk_step L hL x (by omega)
      rw [lp_X0_maskOf_4, i_6, if_neg (by rw [iv_le (by omega) (by omega) (by omega) (by omega)]; omega), i_0, i_1, i_31, i_15, i_20, i_4]
      by_cases hb : L / 2 ^ x % 2 = 0
      · rw [if_pos (s1.mpr hb), iv_add, ← s2 hb]
        exact ih (x + 1) n (by omega) (by omega)
      · rw [if_neg (fun q => hb (s1.mp q)), nxt_e, s3 hb, iv_add]
        exact ih (x + 1) n (by omega) (by omega)
  have := key 6 0 FU rfl (by rw [FU_v]; decide)
  rw [show mk (L % 2 ^ 0) = 0 by rw [Nat.pow_zero, Nat.mod_one]; rfl] at this
  exact this
theorem ct_dg {c L : Nat} (hc : c < 1000000) : ∀ k, k ≤ 6 → ctn L c k < 1000000 ∧ ∀ y, y < 6 → dg (ctn L c k) y = if y < k ∧ L / 2 ^ y % 2 ≠ 1 then 0 else dg c y
  | 0, _ => ⟨hc, fun y _ => by rw [if_neg (by omega)]; rfl⟩
  | k + 1, hk => by
    obtain ⟨h1, h2⟩ := ct_dg hc (L := L) k (by omega)
    unfold ctn
    by_cases hb : L / 2 ^ k % 2 = 1
    · rw [if_pos hb]
      refine ⟨h1, fun y hy => ?_⟩
      rw [h2 y hy]
      by_cases e : y = k
      · subst e
        rw [if_neg (by omega), if_neg (by omega)]
      · by_cases q : y < k ∧ L / 2 ^ y % 2 ≠ 1
        · rw [if_pos q, if_pos ⟨by omega, q.2⟩]
        · rw [if_neg q, if_neg (fun z => q ⟨by omega, z.2⟩)]
    · rw [if_neg hb]
      refine ⟨wt_lt h1 (by omega) (by omega), fun y hy => ?_⟩
      rw [dg_wt h1 (by omega) hy (by omega)]
      by_cases e : y = k
      · subst e
        rw [if_pos rfl, if_pos ⟨by omega, hb⟩]
      · rw [if_neg e, h2 y hy]
        by_cases q : y < k ∧ L / 2 ^ y % 2 ≠ 1
        · rw [if_pos q, if_pos ⟨by omega, q.2⟩]
        · rw [if_neg q, if_neg (fun z => q ⟨by omega, z.2⟩)]
theorem ct_lt {c L : Nat} (hc : c < 1000000) : ct c L < 1000000 := (ct_dg hc 6 (Nat.le_refl 6)).1
theorem ctd {c L y : Nat} (hc : c < 1000000) (hy : y < 6) : dg (ct c L) y = if L / 2 ^ y % 2 ≠ 1 then 0 else dg c y := by
  have := (ct_dg (L := L) hc 6 (Nat.le_refl 6)).2 y hy
  unfold ct
  rw [this]
  by_cases q : L / 2 ^ y % 2 ≠ 1
  · rw [if_pos ⟨hy, q⟩, if_pos q]
  · rw [if_neg (fun z => q z.2), if_neg q]
theorem dmask {d b : Nat} (h : d ≤ 9) : d &&& (15 * (b % 2)) = if b % 2 ≠ 1 then 0 else d := by
  by_cases q : b % 2 = 1
  · rw [q, if_neg (by omega), Nat.mul_one, a15 (by omega)]
  · rw [show b % 2 = 0 by omega, if_pos (by omega), Nat.mul_zero, Nat.and_zero]
theorem e_and {c L : Nat} (hc : c < 1000000) : iv (hx c) &&& iv (mk L) = iv (hx (ct c L)) := by
  rw [nA]
  congr 1
  congr 1
  rw [show mk L = ((((15 * (L % 2) * 16 + 15 * (L / 2 % 2)) * 16 + 15 * (L / 4 % 2)) * 16 + 15 * (L / 8 % 2)) * 16 + 15 * (L / 16 % 2)) * 16 + 15 * (L / 32 % 2) by unfold mk; omega]
  have h0 := dg_le c 0; have h1 := dg_le c 1; have h2 := dg_le c 2; have h3 := dg_le c 3; have h4 := dg_le c 4; have h5 := dg_le c 5
  unfold hx
  rw [ctd hc (by decide), ctd hc (by decide), ctd hc (by decide), ctd hc (by decide), ctd hc (by decide), ctd hc (by decide)]
  rw [and16 (by omega) (by omega), and16 (by omega) (by omega), and16 (by omega) (by omega), and16 (by omega) (by omega), and16 (by omega) (by omega), dmask h0, dmask h1, dmask h2, dmask h3, dmask h4, dmask h5]
  rw [show L / 2 ^ 0 = L by rw [Nat.pow_zero, Nat.div_one]]
