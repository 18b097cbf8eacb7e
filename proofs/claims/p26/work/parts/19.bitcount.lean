/-! Long.bitCount -/
def uN (x : Int64) : Nat := x.toUInt64.toNat
theorem uN_lt (x : Int64) : uN x < 18446744073709551616 := x.toUInt64.toNat_lt
theorem uN_inj {x y : Int64} (h : uN x = uN y) : x = y := congrArg UInt64.toInt64 (UInt64.toNat_inj.mp h)
theorem uN_add (x y : Int64) : uN (x + y) = (uN x + uN y) % 18446744073709551616 := by
  show (x.toUInt64 + y.toUInt64).toNat = _
  exact UInt64.toNat_add _ _
theorem uN_shr (x : Int64) (s : UInt64) : uN (x.toUInt64 >>> s).toInt64 = uN x / 2 ^ (s.toNat % 64) := by
  show (x.toUInt64 >>> s).toNat = _
  rw [UInt64.toNat_shiftRight, Nat.shiftRight_eq_div_pow]
  rfl
theorem uN_sk (x : Int64) {k : Nat} (hk : k < 64) : uN (x.toUInt64 >>> ((nI k).toInt64.toUInt64 &&& Int64.toUInt64 63)).toInt64 = uN x / 2 ^ k := by
  have h : ((nI k).toInt64.toUInt64 &&& Int64.toUInt64 63).toNat % 64 = k := by
    rw [nI_l (by omega), UInt64.toNat_and]
    have e : (lN k).toUInt64.toNat = k % 2 ^ 64 := rfl
    have e2 : (Int64.toUInt64 63).toNat = 2 ^ 6 - 1 := by decide
    rw [e, e2, Nat.and_two_pow_sub_one_eq_mod]
    omega
  rw [uN_shr, h]
theorem uN_and (x y : Int64) : uN (x &&& y) = uN x &&& uN y := by
  show (x.toUInt64 &&& y.toUInt64).toNat = _
  exact UInt64.toNat_and _ _
theorem uN_sub {x y : Int64} (h : uN y ≤ uN x) : uN (x - y) = uN x - uN y := by
  show (x.toUInt64 - y.toUInt64).toNat = _
  exact UInt64.toNat_sub_of_le _ _ (UInt64.le_iff_toNat_le.mpr h)
theorem uN_mkL (P : Nat → Prop) : uN (mkL P) = mkN P 64 := mkL_tn P
theorem mkN_add (P : Nat → Prop) (a : Nat) : ∀ b, mkN P (a + b) = mkN P a + 2 ^ a * mkN (fun i => P (a + i)) b
  | 0 => by simp [mkN]
  | b + 1 => by
    have := mkN_add P a b
    show mkN P (a + b) + bN (P (a + b)) * 2 ^ (a + b) = mkN P a + 2 ^ a * (mkN (fun i => P (a + i)) b + bN (P (a + b)) * 2 ^ b)
    rw [this, Nat.mul_add, Nat.pow_add, Nat.add_assoc]
    congr 2
    rw [Nat.mul_left_comm]
-- one byte at a time
theorem tb_lo {b m i : Nat} (hb : b < 256) (hi : i < 8) : (b + 256 * m).testBit i = b.testBit i := by
  rw [Nat.add_comm, show (256 : Nat) = 2 ^ 8 from rfl, Nat.testBit_two_pow_mul_add _ hb, if_pos hi]
theorem tb_hi {b m i : Nat} (hb : b < 256) : (b + 256 * m).testBit (i + 8) = m.testBit i := by
  rw [Nat.add_comm, show (256 : Nat) = 2 ^ 8 from rfl, Nat.testBit_two_pow_mul_add _ hb, if_neg (by omega), Nat.add_sub_cancel]
theorem and_byte {b m c n : Nat} (hb : b < 256) (hc : c < 256) : (b + 256 * m) &&& (c + 256 * n) = (b &&& c) + 256 * (m &&& n) := by
  have hbc : b &&& c < 256 := Nat.lt_of_le_of_lt Nat.and_le_left hb
  apply Nat.eq_of_testBit_eq
  intro i
  rw [Nat.testBit_and]
  by_cases h : i < 8
  · rw [tb_lo hb h, tb_lo hc h, tb_lo hbc h, Nat.testBit_and]
  · obtain ⟨k, rfl⟩ : ∃ k, i = k + 8 := ⟨i - 8, by omega⟩
    rw [tb_hi hb, tb_hi hc, tb_hi hbc, Nat.testBit_and]
theorem and85 : ∀ b : Fin 256, ∀ e : Fin 2, (b.val / 2 + 128 * e.val) &&& 85 = b.val / 2 &&& 85 ∧ (b.val / 2 &&& 85) ≤ b.val := by decide +kernel
theorem and51 : ∀ b : Fin 256, ∀ e : Fin 4, (b.val / 4 + 64 * e.val) &&& 51 = b.val / 4 &&& 51 ∧ (b.val &&& 51) + (b.val / 4 &&& 51) < 256 := by decide +kernel
theorem and15 : ∀ b : Fin 256, b.val &&& 15 = b.val % 16 := by decide +kernel
def g1 (n M : Nat) : Nat := n - (n / 2 &&& M)
def g2 (n M : Nat) : Nat := (n &&& M) + (n / 4 &&& M)
def g3 (n M : Nat) : Nat := (n + n / 16) &&& M
theorem g1_byte {b m M : Nat} (hb : b < 256) (hm : (m / 2 &&& M) ≤ m) : g1 (b + 256 * m) (85 + 256 * M) = g1 b 85 + 256 * g1 m M ∧ g1 b 85 < 256 ∧ ((b + 256 * m) / 2 &&& (85 + 256 * M)) ≤ b + 256 * m := by
  obtain ⟨h1, h2⟩ := and85 ⟨b, hb⟩ ⟨m % 2, by omega⟩
  have e : (b + 256 * m) / 2 = (b / 2 + 128 * (m % 2)) + 256 * (m / 2) := by omega
  have e2 : (b + 256 * m) / 2 &&& (85 + 256 * M) = (b / 2 &&& 85) + 256 * (m / 2 &&& M) := by
    rw [e, and_byte (by omega) (by omega)]
    rw [show (b / 2 + 128 * (m % 2)) &&& 85 = b / 2 &&& 85 from h1]
  have h2' : (b / 2 &&& 85) ≤ b := h2
  unfold g1
  rw [e2]
  omega
theorem g2_byte {b m M : Nat} (hb : b < 256) : g2 (b + 256 * m) (51 + 256 * M) = g2 b 51 + 256 * g2 m M ∧ g2 b 51 < 256 := by
  obtain ⟨h1, h2⟩ := and51 ⟨b, hb⟩ ⟨m % 4, by omega⟩
  have e : (b + 256 * m) / 4 = (b / 4 + 64 * (m % 4)) + 256 * (m / 4) := by omega
  have e2 : (b + 256 * m) / 4 &&& (51 + 256 * M) = (b / 4 &&& 51) + 256 * (m / 4 &&& M) := by
    rw [e, and_byte (by omega) (by omega)]
    rw [show (b / 4 + 64 * (m % 4)) &&& 51 = b / 4 &&& 51 from h1]
  have h2' : (b &&& 51) + (b / 4 &&& 51) < 256 := h2
  unfold g2
  rw [e2, and_byte hb (by omega)]
  omega
theorem g3_byte {b m M : Nat} (hb : b < 256) (h1 : b % 16 ≤ 4) (h2 : b / 16 ≤ 4) (h3 : m % 16 ≤ 4) : g3 (b + 256 * m) (15 + 256 * M) = (b % 16 + b / 16) + 256 * g3 m M := by
  have e : (b + 256 * m) + (b + 256 * m) / 16 = (b + b / 16 + 16 * (m % 16)) + 256 * (m + m / 16) := by omega
  unfold g3
  rw [e, and_byte (by omega) (by omega)]
  have h4 : (b + b / 16 + 16 * (m % 16)) &&& 15 = (b + b / 16 + 16 * (m % 16)) % 16 := and15 ⟨b + b / 16 + 16 * (m % 16), by omega⟩
  rw [h4]
  omega
theorem byte_pop : ∀ x0 x1 x2 x3 x4 x5 x6 x7 : Fin 2, (let b := x0.val + 2 * x1.val + 4 * x2.val + 8 * x3.val + 16 * x4.val + 32 * x5.val + 64 * x6.val + 128 * x7.val; let c := g2 (g1 b 85) 51; c % 16 ≤ 4 ∧ c / 16 ≤ 4 ∧ c % 16 + c / 16 = x0.val + x1.val + x2.val + x3.val + x4.val + x5.val + x6.val + x7.val) := by decide +kernel
/-- a byte of bits, and its count -/
theorem byte_of (P : Nat → Prop) : mkN P 8 < 256 ∧ g2 (g1 (mkN P 8) 85) 51 % 16 ≤ 4 ∧ g2 (g1 (mkN P 8) 85) 51 / 16 ≤ 4 ∧ g2 (g1 (mkN P 8) 85) 51 % 16 + g2 (g1 (mkN P 8) 85) 51 / 16 = cnt P 8 := by
  have hb := fun i => bN_le (P i)
  have h := byte_pop ⟨bN (P 0), by have := hb 0; omega⟩ ⟨bN (P 1), by have := hb 1; omega⟩ ⟨bN (P 2), by have := hb 2; omega⟩ ⟨bN (P 3), by have := hb 3; omega⟩ ⟨bN (P 4), by have := hb 4; omega⟩ ⟨bN (P 5), by have := hb 5; omega⟩ ⟨bN (P 6), by have := hb 6; omega⟩ ⟨bN (P 7), by have := hb 7; omega⟩
  have e : mkN P 8 = bN (P 0) + 2 * bN (P 1) + 4 * bN (P 2) + 8 * bN (P 3) + 16 * bN (P 4) + 32 * bN (P 5) + 64 * bN (P 6) + 128 * bN (P 7) := by
    simp only [mkN]; omega
  have e2 : cnt P 8 = bN (P 0) + bN (P 1) + bN (P 2) + bN (P 3) + bN (P 4) + bN (P 5) + bN (P 6) + bN (P 7) := by
    simp only [cnt]; omega
  rw [← e] at h
  exact ⟨mkN_lt P 8, h.1, h.2.1, h.2.2.trans e2.symm⟩
/-- the three stages on k bytes: the counts, byte by byte -/
def Mk (c : Nat) : Nat → Nat
  | 0 => 0
  | k + 1 => c + 256 * Mk c k
noncomputable def pk (P : Nat → Prop) : Nat → Nat
  | 0 => 0
  | k + 1 => cnt P 8 + 256 * pk (fun i => P (8 + i)) k
theorem stages : ∀ (k : Nat) (P : Nat → Prop), let n := mkN P (8 * k); (n / 2 &&& Mk 85 k) ≤ n ∧ g2 (g1 n (Mk 85 k)) (Mk 51 k) % 16 ≤ 4 ∧ g3 (g2 (g1 n (Mk 85 k)) (Mk 51 k)) (Mk 15 k) = pk P k
  | 0, P => by simp [mkN, g1, g2, g3, Mk, pk]
  | k + 1, P => by
    obtain ⟨h1, h2, h3⟩ := stages k (fun i => P (8 + i))
    obtain ⟨b1, b2, b3, b4⟩ := byte_of P
    have e : mkN P (8 * (k + 1)) = mkN P 8 + 256 * mkN (fun i => P (8 + i)) (8 * k) := by
      rw [show 8 * (k + 1) = 8 + 8 * k by omega, mkN_add]
    show _ ∧ _ ∧ _
    rw [e]
    obtain ⟨q1, q2, q3⟩ := g1_byte (M := Mk 85 k) b1 h1
    obtain ⟨r1, r2⟩ := g2_byte (m := g1 (mkN (fun i => P (8 + i)) (8 * k)) (Mk 85 k)) (M := Mk 51 k) q2
    have e2 : g2 (g1 (mkN P 8 + 256 * mkN (fun i => P (8 + i)) (8 * k)) (Mk 85 (k + 1))) (Mk 51 (k + 1)) = g2 (g1 (mkN P 8) 85) 51 + 256 * g2 (g1 (mkN (fun i => P (8 + i)) (8 * k)) (Mk 85 k)) (Mk 51 k) := by
      show g2 (g1 _ (85 + 256 * Mk 85 k)) (51 + 256 * Mk 51 k) = _
      rw [q1, r1]
    refine ⟨q3, ?_, ?_⟩
    · rw [e2]; omega
    · rw [e2]
      show g3 _ (15 + 256 * Mk 15 k) = _
      rw [g3_byte r2 b2 b3 h2, b4, h3]
      rfl
theorem pk_sum (P : Nat → Prop) : ∃ p0 p1 p2 p3 p4 p5 p6 p7 : Nat, p0 ≤ 8 ∧ p1 ≤ 8 ∧ p2 ≤ 8 ∧ p3 ≤ 8 ∧ p4 ≤ 8 ∧ p5 ≤ 8 ∧ p6 ≤ 8 ∧ p7 ≤ 8 ∧ pk P 8 = p0 + 256 * (p1 + 256 * (p2 + 256 * (p3 + 256 * (p4 + 256 * (p5 + 256 * (p6 + 256 * p7)))))) ∧ cnt P 64 = p0 + p1 + p2 + p3 + p4 + p5 + p6 + p7 := by
  refine ⟨cnt P 8, cnt (fun i => P (8 + i)) 8, cnt (fun i => P (8 + (8 + i))) 8, cnt (fun i => P (8 + (8 + (8 + i)))) 8, cnt (fun i => P (8 + (8 + (8 + (8 + i))))) 8, cnt (fun i => P (8 + (8 + (8 + (8 + (8 + i)))))) 8, cnt (fun i => P (8 + (8 + (8 + (8 + (8 + (8 + i))))))) 8, cnt (fun i => P (8 + (8 + (8 + (8 + (8 + (8 + (8 + i)))))))) 8, cnt_le _ 8, cnt_le _ 8, cnt_le _ 8, cnt_le _ 8, cnt_le _ 8, cnt_le _ 8, cnt_le _ 8, cnt_le _ 8, ?_, ?_⟩
  · simp only [pk, Nat.mul_zero, Nat.add_zero]
  · rw [show 64 = 8 + 56 from rfl, cnt_add, show 56 = 8 + 48 from rfl, cnt_add, show 48 = 8 + 40 from rfl, cnt_add, show 40 = 8 + 32 from rfl, cnt_add, show 32 = 8 + 24 from rfl, cnt_add, show 24 = 8 + 16 from rfl, cnt_add, show 16 = 8 + 8 from rfl, cnt_add]
    simp only [Nat.add_assoc]
theorem dv {a b k : Nat} (h : a < k) : (a + k * b) / k = b := by rw [Nat.add_mul_div_left _ _ (by omega), Nat.div_eq_of_lt h, Nat.zero_add]
theorem pop_b {p0 p1 p2 p3 p4 p5 p6 p7 q1 q2 q3 q4 q5 q6 n : Nat} (h0 : p0 ≤ 8) (h1 : p1 ≤ 8) (h2 : p2 ≤ 8) (h3 : p3 ≤ 8) (h4 : p4 ≤ 8) (h5 : p5 ≤ 8) (h6 : p6 ≤ 8) (h7 : p7 ≤ 8)
    (e0 : n = p0 + 256 * q1) (e1 : q1 = p1 + 256 * q2) (e2 : q2 = p2 + 256 * q3) (e3 : q3 = p3 + 256 * q4) (e4 : q4 = p4 + 256 * q5) (e5 : q5 = p5 + 256 * q6) (e6 : q6 = p6 + 256 * p7) : n ≤ 578721382704613384 := by
  have c6 : q6 ≤ 2056 := by omega
  have c5 : q5 ≤ 526344 := by clear e6; omega
  have c4 : q4 ≤ 134744072 := by clear e5 e6; omega
  have c3 : q3 ≤ 34494482440 := by clear e4 e5 e6; omega
  have c2 : q2 ≤ 8830587504648 := by clear e3 e4 e5 e6; omega
  have c1 : q1 ≤ 2260630401189896 := by clear e2 e3 e4 e5 e6; omega
  clear e1 e2 e3 e4 e5 e6
  omega
theorem pop_1 {p0 p1 p2 q1 q2 q3 n : Nat} (h0 : p0 ≤ 8) (h1 : p1 ≤ 8) (h2 : p2 ≤ 8) (e0 : n = p0 + 256 * q1) (e1 : q1 = p1 + 256 * q2) (e2 : q2 = p2 + 256 * q3) : n / 256 = q1 ∧ (n + n / 256) / 65536 = q2 + q3 ∧ n + n / 256 = (p0 + p1 + 256 * (p1 + p2)) + 65536 * (q2 + q3) := by
  have a : n / 256 = q1 := by rw [e0]; exact dv (by omega)
  have b : n + q1 = (p0 + p1 + 256 * (p1 + p2)) + 65536 * (q2 + q3) := by omega
  refine ⟨a, ?_, by rw [a, b]⟩
  rw [a, b]
  exact dv (by omega)
theorem pop_2 {p0 p1 p2 p3 p4 p5 p6 q2 q3 q4 q5 q6 q7 m : Nat} (h0 : p0 ≤ 8) (h1 : p1 ≤ 8) (h2 : p2 ≤ 8) (h3 : p3 ≤ 8) (h4 : p4 ≤ 8) (h5 : p5 ≤ 8) (h6 : p6 ≤ 8) (e2 : q2 = p2 + 256 * q3) (e3 : q3 = p3 + 256 * q4) (e4 : q4 = p4 + 256 * q5) (e5 : q5 = p5 + 256 * q6) (e6 : q6 = p6 + 256 * q7) (em : m = (p0 + p1 + 256 * (p1 + p2)) + 65536 * (q2 + q3)) :
    ∃ l, l < 4294967296 ∧ m + (q2 + q3) = l + 4294967296 * ((q4 + q5) + (q6 + q7)) ∧ l % 128 = p0 + p1 + p2 + p3 := by
  have f1 : q2 + q3 = (p2 + p3 + 256 * (p3 + p4)) + 65536 * (q4 + q5) := by omega
  have f2 : q4 + q5 = (p4 + p5 + 256 * (p5 + p6)) + 65536 * (q6 + q7) := by omega
  clear e2 e3 e4 e5 e6
  refine ⟨(p0 + p1 + p2 + p3) + 128 * (2 * (p1 + p2 + p3 + p4) + 512 * (p2 + p3 + p4 + p5) + 131072 * (p3 + p4 + p5 + p6)), by omega, ?_, ?_⟩
  · generalize q2 + q3 = u at f1 em ⊢
    generalize q4 + q5 = v at f1 f2 ⊢
    generalize q6 + q7 = w at f2 ⊢
    omega
  · rw [Nat.add_mul_mod_self_left]; exact Nat.mod_eq_of_lt (by omega)
theorem pop_end {p0 p1 p2 p3 p4 p5 p6 p7 n : Nat} (h0 : p0 ≤ 8) (h1 : p1 ≤ 8) (h2 : p2 ≤ 8) (h3 : p3 ≤ 8) (h4 : p4 ≤ 8) (h5 : p5 ≤ 8) (h6 : p6 ≤ 8) (h7 : p7 ≤ 8) (e : n = p0 + 256 * (p1 + 256 * (p2 + 256 * (p3 + 256 * (p4 + 256 * (p5 + 256 * (p6 + 256 * p7))))))) :
    n + n / 256 < 18446744073709551616 ∧ (n + n / 256) + (n + n / 256) / 65536 < 18446744073709551616 ∧ ((n + n / 256) + (n + n / 256) / 65536) + ((n + n / 256) + (n + n / 256) / 65536) / 4294967296 < 18446744073709551616 ∧ (((n + n / 256) + (n + n / 256) / 65536) + ((n + n / 256) + (n + n / 256) / 65536) / 4294967296) % 128 = p0 + p1 + p2 + p3 + p4 + p5 + p6 + p7 := by
  obtain ⟨q6, e6⟩ : ∃ q, q = p6 + 256 * p7 := ⟨_, rfl⟩
  rw [← e6] at e
  obtain ⟨q5, e5⟩ : ∃ q, q = p5 + 256 * q6 := ⟨_, rfl⟩
  rw [← e5] at e
  obtain ⟨q4, e4⟩ : ∃ q, q = p4 + 256 * q5 := ⟨_, rfl⟩
  rw [← e4] at e
  obtain ⟨q3, e3⟩ : ∃ q, q = p3 + 256 * q4 := ⟨_, rfl⟩
  rw [← e3] at e
  obtain ⟨q2, e2⟩ : ∃ q, q = p2 + 256 * q3 := ⟨_, rfl⟩
  rw [← e2] at e
  obtain ⟨q1, e1⟩ : ∃ q, q = p1 + 256 * q2 := ⟨_, rfl⟩
  rw [← e1] at e
  have hn := pop_b h0 h1 h2 h3 h4 h5 h6 h7 e e1 e2 e3 e4 e5 e6
  obtain ⟨a1, a2, a3⟩ := pop_1 h0 h1 h2 e e1 e2
  obtain ⟨l, b1, b2, b3⟩ := pop_2 h0 h1 h2 h3 h4 h5 h6 e2 e3 e4 e5 e6 a3
  have d1 := Nat.div_le_self n 256
  have d2 := Nat.div_le_self (n + n / 256) 65536
  have d3 := Nat.div_le_self ((n + n / 256) + (n + n / 256) / 65536) 4294967296
  have g : ((n + n / 256) + (n + n / 256) / 65536) / 4294967296 = (q4 + q5) + (q6 + p7) := by rw [a2, b2]; exact dv b1
  have g2 : (n + n / 256) + (n + n / 256) / 65536 = l + 4294967296 * ((q4 + q5) + (q6 + p7)) := by rw [a2, b2]
  generalize n / 256 = x1 at *
  generalize (n + x1) / 65536 = x2 at *
  generalize (n + x1 + x2) / 4294967296 = x3 at *
  clear a1 a2 a3 b2 e e1 e2 e3
  refine ⟨by omega, by omega, by omega, ?_⟩
  rw [g2, g]
  clear d1 d2 d3 g g2 hn
  have r4 : q4 % 128 = p4 := by omega
  have r5 : q5 % 128 = p5 := by clear e4 r4; omega
  have r6 : q6 % 128 = p6 := by clear e4 e5 r4 r5; omega
  clear e4 e5 e6
  generalize hv : (q4 + q5) + (q6 + p7) = v
  omega
theorem mk_c : Mk 85 8 = 6148914691236517205 ∧ Mk 51 8 = 3689348814741910323 ∧ Mk 15 8 = 1085102592571150095 := by decide +kernel
theorem toI32_n (x : Int64) : x.toInt32.toBitVec.toNat = uN x % 2 ^ 32 := by
  rw [Int64.toBitVec_toInt32, BitVec.signExtend_eq_setWidth_of_le _ (by decide), BitVec.toNat_setWidth]
  rfl
theorem sh_c {k : Nat} (hk : k < 64) (x : Int64) : uN (x.toUInt64 >>> ((nI k).toInt64.toUInt64 &&& Int64.toUInt64 63)).toInt64 = uN x / 2 ^ k := uN_sk x hk
theorem lt2 {a b : Nat} (h1 : a ≤ 3689348814741910323) (h2 : b ≤ 3689348814741910323) : a + b < 2 ^ 64 := by omega
theorem lt3 {a b : Nat} (h1 : a ≤ 7378697629483820646) (h2 : b ≤ a) : a + b < 2 ^ 64 := by omega
theorem q2 : 2 ^ 2 = 4 := rfl
theorem q4 : 2 ^ 4 = 16 := rfl
theorem q8 : 2 ^ 8 = 256 := rfl
theorem q16 : 2 ^ 16 = 65536 := rfl
theorem q32 : 2 ^ 32 = 4294967296 := rfl
theorem q64 : 2 ^ 64 = 18446744073709551616 := rfl
theorem c_1 : uN (6148914691236517205 : Int64) = 6148914691236517205 := by decide
theorem c_2 : uN (3689348814741910323 : Int64) = 3689348814741910323 := by decide
theorem c_3 : uN (1085102592571150095 : Int64) = 1085102592571150095 := by decide
theorem l_2 (n : Nat) : n &&& 3689348814741910323 ≤ 3689348814741910323 := Nat.and_le_right
theorem pop_u1 {N : Nat} {x0 : Int64} (s1 : (N / 2 &&& 6148914691236517205) ≤ N) (u0 : uN x0 = N) : uN (x0 - ((x0.toUInt64 >>> ((nI 1).toInt64.toUInt64 &&& Int64.toUInt64 63)).toInt64 &&& 6148914691236517205)) = g1 N 6148914691236517205 := by
  have e : uN ((x0.toUInt64 >>> ((nI 1).toInt64.toUInt64 &&& Int64.toUInt64 63)).toInt64 &&& 6148914691236517205) = N / 2 &&& 6148914691236517205 := by
    rw [uN_and, sh_c (k := 1) (by decide), u0, c_1, Nat.pow_one]
  rw [uN_sub (by rw [e, u0]; exact s1), e, u0, g1]
theorem pop_u2 {N : Nat} {x1 : Int64} (u1 : uN x1 = N) : uN ((x1 &&& 3689348814741910323) + ((x1.toUInt64 >>> ((nI 2).toInt64.toUInt64 &&& Int64.toUInt64 63)).toInt64 &&& 3689348814741910323)) = g2 N 3689348814741910323 := by
  rw [uN_add, uN_and, uN_and, sh_c (k := 2) (by decide), u1, c_2, g2, q2]
  exact Nat.mod_eq_of_lt (lt2 (l_2 _) (l_2 _))
theorem pop_u3 {N : Nat} {x2 : Int64} (u2 : uN x2 = g2 N 3689348814741910323) : uN ((x2 + (x2.toUInt64 >>> ((nI 4).toInt64.toUInt64 &&& Int64.toUInt64 63)).toInt64) &&& 1085102592571150095) = g3 (g2 N 3689348814741910323) 1085102592571150095 := by
  have a3 : g2 N 3689348814741910323 ≤ 7378697629483820646 := by rw [g2]; exact Nat.add_le_add (l_2 _) (l_2 _)
  rw [uN_and, uN_add, sh_c (k := 4) (by decide), u2, c_3]
  generalize g2 N 3689348814741910323 = z at a3 ⊢
  rw [g3, q4, Nat.mod_eq_of_lt (lt3 a3 (Nat.div_le_self z 16))]
theorem pop_u4 {N : Nat} {x : Int64} (u : uN x = N) (l : N + N / 256 < 18446744073709551616) : uN (x + (x.toUInt64 >>> ((nI 8).toInt64.toUInt64 &&& Int64.toUInt64 63)).toInt64) = N + N / 256 := by
  rw [uN_add, sh_c (k := 8) (by decide), u, q8]
  exact Nat.mod_eq_of_lt l
theorem pop_u5 {N : Nat} {x : Int64} (u : uN x = N) (l : N + N / 65536 < 18446744073709551616) : uN (x + (x.toUInt64 >>> ((nI 16).toInt64.toUInt64 &&& Int64.toUInt64 63)).toInt64) = N + N / 65536 := by
  rw [uN_add, sh_c (k := 16) (by decide), u, q16]
  exact Nat.mod_eq_of_lt l
theorem pop_u6 {N : Nat} {x : Int64} (u : uN x = N) (l : N + N / 4294967296 < 18446744073709551616) : uN (x + (x.toUInt64 >>> ((nI 32).toInt64.toUInt64 &&& Int64.toUInt64 63)).toInt64) = N + N / 4294967296 := by
  rw [uN_add, sh_c (k := 32) (by decide), u, q32]
  exact Nat.mod_eq_of_lt l
theorem pop_u7 {N : Nat} {x : Int64} (u : uN x = N) : x.toInt32 &&& nI 127 = nI (N % 128) := by
  rw [pk_and _ (m := nI 127) 7 (by decide), toI32_n, u]
  congr 1
  rw [Nat.mod_mod_of_dvd _ (show 2 ^ 7 ∣ 2 ^ 32 from ⟨2 ^ 25, rfl⟩)]
theorem pop_n (N : Nat) (x0 x1 x2 x3 x4 x5 x6 : Int64) (h0 : uN x0 = N) (s1 : (N / 2 &&& 6148914691236517205) ≤ N)
    (h1 : x1 = x0 - ((x0.toUInt64 >>> ((nI 1).toInt64.toUInt64 &&& Int64.toUInt64 63)).toInt64 &&& 6148914691236517205)) (h2 : x2 = (x1 &&& 3689348814741910323) + ((x1.toUInt64 >>> ((nI 2).toInt64.toUInt64 &&& Int64.toUInt64 63)).toInt64 &&& 3689348814741910323))
    (h3 : x3 = (x2 + (x2.toUInt64 >>> ((nI 4).toInt64.toUInt64 &&& Int64.toUInt64 63)).toInt64) &&& 1085102592571150095) (h4 : x4 = x3 + (x3.toUInt64 >>> ((nI 8).toInt64.toUInt64 &&& Int64.toUInt64 63)).toInt64)
    (h5 : x5 = x4 + (x4.toUInt64 >>> ((nI 16).toInt64.toUInt64 &&& Int64.toUInt64 63)).toInt64) (h6 : x6 = x5 + (x5.toUInt64 >>> ((nI 32).toInt64.toUInt64 &&& Int64.toUInt64 63)).toInt64)
    {p0 p1 p2 p3 p4 p5 p6 p7 : Nat} (b0 : p0 ≤ 8) (b1 : p1 ≤ 8) (b2 : p2 ≤ 8) (b3 : p3 ≤ 8) (b4 : p4 ≤ 8) (b5 : p5 ≤ 8) (b6 : p6 ≤ 8) (b7 : p7 ≤ 8) {m : Nat} (em : g3 (g2 (g1 N 6148914691236517205) 3689348814741910323) 1085102592571150095 = m)
    (e : m = p0 + 256 * (p1 + 256 * (p2 + 256 * (p3 + 256 * (p4 + 256 * (p5 + 256 * (p6 + 256 * p7))))))) : x6.toInt32 &&& nI 127 = nI (p0 + p1 + p2 + p3 + p4 + p5 + p6 + p7) := by
  obtain ⟨f1, f2, f3, f4⟩ := pop_end b0 b1 b2 b3 b4 b5 b6 b7 e
  have u1 := pop_u1 s1 h0
  rw [← h1] at u1
  have u2 := pop_u2 u1
  rw [← h2] at u2
  have u3 := pop_u3 u2
  rw [← h3, em] at u3
  have u4 := pop_u4 u3 f1
  rw [← h4] at u4
  have u5 := pop_u5 u4 f2
  rw [← h5] at u5
  have u6 := pop_u6 u5 f3
  rw [← h6] at u6
  rw [pop_u7 u6, f4]
theorem pop_eq (P : Nat → Prop) (x0 x1 x2 x3 x4 x5 x6 : Int64) (h0 : x0 = mkL P)
    (h1 : x1 = x0 - ((x0.toUInt64 >>> ((nI 1).toInt64.toUInt64 &&& Int64.toUInt64 63)).toInt64 &&& 6148914691236517205)) (h2 : x2 = (x1 &&& 3689348814741910323) + ((x1.toUInt64 >>> ((nI 2).toInt64.toUInt64 &&& Int64.toUInt64 63)).toInt64 &&& 3689348814741910323))
    (h3 : x3 = (x2 + (x2.toUInt64 >>> ((nI 4).toInt64.toUInt64 &&& Int64.toUInt64 63)).toInt64) &&& 1085102592571150095) (h4 : x4 = x3 + (x3.toUInt64 >>> ((nI 8).toInt64.toUInt64 &&& Int64.toUInt64 63)).toInt64)
    (h5 : x5 = x4 + (x4.toUInt64 >>> ((nI 16).toInt64.toUInt64 &&& Int64.toUInt64 63)).toInt64) (h6 : x6 = x5 + (x5.toUInt64 >>> ((nI 32).toInt64.toUInt64 &&& Int64.toUInt64 63)).toInt64) : x6.toInt32 &&& nI 127 = nI (cnt P 64) := by
  obtain ⟨s1, s2, s3⟩ := stages 8 P
  obtain ⟨p0, p1, p2, p3, p4, p5, p6, p7, b0, b1, b2, b3, b4, b5, b6, b7, e1, e2⟩ := pk_sum P
  rw [mk_c.1] at s1
  rw [mk_c.1, mk_c.2.1, mk_c.2.2] at s3
  rw [e2]
  exact pop_n (mkN P (8 * 8)) x0 x1 x2 x3 x4 x5 x6 (by rw [h0]; exact uN_mkL P) s1 h1 h2 h3 h4 h5 h6 b0 b1 b2 b3 b4 b5 b6 b7 s3 e1
set_option maxHeartbeats 4000000 in
set_option maxRecDepth 100000 in
theorem sp_bitCount {d : Nat} {P : Nat → Prop} {h : AH} : AC mJ13_bitCount_95d88 d 0 0 [.long (mkL P)] h (Qe (some (.int (nI (cnt P 64)))) h) := by
  refine AC.of (by decide) rfl (Nat.le_of_ble_eq_true rfl) (fun X => ?_)
  show AW X mJ13_bitCount_95d88 d 0 0 0 [(0, .long (mkL P))] [] h (Qe (some (.int (nI (cnt P 64)))) h)
  obtain ⟨x0, h0⟩ : ∃ x, x = mkL P := ⟨_, rfl⟩
  refine a_locs (ls' := [(0, .long x0)]) (by rw [h0]) ?_
  refine a_lload_n (pc := 0) (i := 0) dJ13_bitCount_95d88_0 rfl rfl ?_
  refine a_lload_n (pc := 1) (i := 0) dJ13_bitCount_95d88_1 rfl rfl ?_
  refine a_iconst (pc := 2) (v := nI 1) dJ13_bitCount_95d88_2 (by decide) ?_
  refine a_lushr (pc := 3) dJ13_bitCount_95d88_3 ?_
  refine a_ldc2 (pc := 4) (v := 6148914691236517205) dJ13_bitCount_95d88_4 (lj_RJ13_314 rfl) ?_
  refine a_land (pc := 7) dJ13_bitCount_95d88_7 ?_
  refine a_lsub (pc := 8) dJ13_bitCount_95d88_8 ?_
  obtain ⟨x1, h1⟩ : ∃ x, x = x0 - (((x0.toUInt64 >>> ((nI 1).toInt64.toUInt64 &&& Int64.toUInt64 63)).toInt64) &&& 6148914691236517205) := ⟨_, rfl⟩
  refine a_top (show (.long (x0 - (((x0.toUInt64 >>> ((nI 1).toInt64.toUInt64 &&& Int64.toUInt64 63)).toInt64) &&& 6148914691236517205)) : Value) = .long x1 from by rw [h1]) ?_
  refine a_lstore_n (pc := 9) (i := 0) (ls' := [(0, .long x1)]) dJ13_bitCount_95d88_9 rfl (by decide) rfl ?_
  refine a_lload_n (pc := 10) (i := 0) dJ13_bitCount_95d88_10 rfl rfl ?_
  refine a_ldc2 (pc := 11) (v := 3689348814741910323) dJ13_bitCount_95d88_11 (lj_RJ13_316 rfl) ?_
  refine a_land (pc := 14) dJ13_bitCount_95d88_14 ?_
  refine a_lload_n (pc := 15) (i := 0) dJ13_bitCount_95d88_15 rfl rfl ?_
  refine a_iconst (pc := 16) (v := nI 2) dJ13_bitCount_95d88_16 (by decide) ?_
  refine a_lushr (pc := 17) dJ13_bitCount_95d88_17 ?_
  refine a_ldc2 (pc := 18) (v := 3689348814741910323) dJ13_bitCount_95d88_18 (lj_RJ13_316 rfl) ?_
  refine a_land (pc := 21) dJ13_bitCount_95d88_21 ?_
  refine a_ladd (pc := 22) dJ13_bitCount_95d88_22 ?_
  obtain ⟨x2, h2⟩ : ∃ x, x = (x1 &&& 3689348814741910323) + (((x1.toUInt64 >>> ((nI 2).toInt64.toUInt64 &&& Int64.toUInt64 63)).toInt64) &&& 3689348814741910323) := ⟨_, rfl⟩
  refine a_top (show (.long ((x1 &&& 3689348814741910323) + (((x1.toUInt64 >>> ((nI 2).toInt64.toUInt64 &&& Int64.toUInt64 63)).toInt64) &&& 3689348814741910323)) : Value) = .long x2 from by rw [h2]) ?_
  refine a_lstore_n (pc := 23) (i := 0) (ls' := [(0, .long x2)]) dJ13_bitCount_95d88_23 rfl (by decide) rfl ?_
  refine a_lload_n (pc := 24) (i := 0) dJ13_bitCount_95d88_24 rfl rfl ?_
  refine a_lload_n (pc := 25) (i := 0) dJ13_bitCount_95d88_25 rfl rfl ?_
  refine a_iconst (pc := 26) (v := nI 4) dJ13_bitCount_95d88_26 (by decide) ?_
  refine a_lushr (pc := 27) dJ13_bitCount_95d88_27 ?_
  refine a_ladd (pc := 28) dJ13_bitCount_95d88_28 ?_
  refine a_ldc2 (pc := 29) (v := 1085102592571150095) dJ13_bitCount_95d88_29 (lj_RJ13_318 rfl) ?_
  refine a_land (pc := 32) dJ13_bitCount_95d88_32 ?_
  obtain ⟨x3, h3⟩ : ∃ x, x = (x2 + ((x2.toUInt64 >>> ((nI 4).toInt64.toUInt64 &&& Int64.toUInt64 63)).toInt64)) &&& 1085102592571150095 := ⟨_, rfl⟩
  refine a_top (show (.long ((x2 + ((x2.toUInt64 >>> ((nI 4).toInt64.toUInt64 &&& Int64.toUInt64 63)).toInt64)) &&& 1085102592571150095) : Value) = .long x3 from by rw [h3]) ?_
  refine a_lstore_n (pc := 33) (i := 0) (ls' := [(0, .long x3)]) dJ13_bitCount_95d88_33 rfl (by decide) rfl ?_
  refine a_lload_n (pc := 34) (i := 0) dJ13_bitCount_95d88_34 rfl rfl ?_
  refine a_lload_n (pc := 35) (i := 0) dJ13_bitCount_95d88_35 rfl rfl ?_
  refine a_bipush (pc := 36) (v := nI 8) dJ13_bitCount_95d88_36 (by decide) ?_
  refine a_lushr (pc := 38) dJ13_bitCount_95d88_38 ?_
  refine a_ladd (pc := 39) dJ13_bitCount_95d88_39 ?_
  obtain ⟨x4, h4⟩ : ∃ x, x = x3 + ((x3.toUInt64 >>> ((nI 8).toInt64.toUInt64 &&& Int64.toUInt64 63)).toInt64) := ⟨_, rfl⟩
  refine a_top (show (.long (x3 + ((x3.toUInt64 >>> ((nI 8).toInt64.toUInt64 &&& Int64.toUInt64 63)).toInt64)) : Value) = .long x4 from by rw [h4]) ?_
  refine a_lstore_n (pc := 40) (i := 0) (ls' := [(0, .long x4)]) dJ13_bitCount_95d88_40 rfl (by decide) rfl ?_
  refine a_lload_n (pc := 41) (i := 0) dJ13_bitCount_95d88_41 rfl rfl ?_
  refine a_lload_n (pc := 42) (i := 0) dJ13_bitCount_95d88_42 rfl rfl ?_
  refine a_bipush (pc := 43) (v := nI 16) dJ13_bitCount_95d88_43 (by decide) ?_
  refine a_lushr (pc := 45) dJ13_bitCount_95d88_45 ?_
  refine a_ladd (pc := 46) dJ13_bitCount_95d88_46 ?_
  obtain ⟨x5, h5⟩ : ∃ x, x = x4 + ((x4.toUInt64 >>> ((nI 16).toInt64.toUInt64 &&& Int64.toUInt64 63)).toInt64) := ⟨_, rfl⟩
  refine a_top (show (.long (x4 + ((x4.toUInt64 >>> ((nI 16).toInt64.toUInt64 &&& Int64.toUInt64 63)).toInt64)) : Value) = .long x5 from by rw [h5]) ?_
  refine a_lstore_n (pc := 47) (i := 0) (ls' := [(0, .long x5)]) dJ13_bitCount_95d88_47 rfl (by decide) rfl ?_
  refine a_lload_n (pc := 48) (i := 0) dJ13_bitCount_95d88_48 rfl rfl ?_
  refine a_lload_n (pc := 49) (i := 0) dJ13_bitCount_95d88_49 rfl rfl ?_
  refine a_bipush (pc := 50) (v := nI 32) dJ13_bitCount_95d88_50 (by decide) ?_
  refine a_lushr (pc := 52) dJ13_bitCount_95d88_52 ?_
  refine a_ladd (pc := 53) dJ13_bitCount_95d88_53 ?_
  obtain ⟨x6, h6⟩ : ∃ x, x = x5 + ((x5.toUInt64 >>> ((nI 32).toInt64.toUInt64 &&& Int64.toUInt64 63)).toInt64) := ⟨_, rfl⟩
  refine a_top (show (.long (x5 + ((x5.toUInt64 >>> ((nI 32).toInt64.toUInt64 &&& Int64.toUInt64 63)).toInt64)) : Value) = .long x6 from by rw [h6]) ?_
  refine a_lstore_n (pc := 54) (i := 0) (ls' := [(0, .long x6)]) dJ13_bitCount_95d88_54 rfl (by decide) rfl ?_
  refine a_lload_n (pc := 55) (i := 0) dJ13_bitCount_95d88_55 rfl rfl ?_
  refine a_l2i (pc := 56) dJ13_bitCount_95d88_56 ?_
  refine a_bipush (pc := 57) (v := nI 127) dJ13_bitCount_95d88_57 (by decide) ?_
  refine a_iand (pc := 59) dJ13_bitCount_95d88_59 ?_
  exact a_ireturn (pc := 60) dJ13_bitCount_95d88_60 rfl rfl (⟨by rw [pop_eq P x0 x1 x2 x3 x4 x5 x6 h0 h1 h2 h3 h4 h5 h6], rfl⟩)
