/-! sets of bits as longs; counting -/
noncomputable def bN (P : Prop) : Nat := @ite _ P (Classical.propDecidable P) 1 0
theorem bN_t {P : Prop} (h : P) : bN P = 1 := if_pos h
theorem bN_f {P : Prop} (h : ¬ P) : bN P = 0 := if_neg h
theorem bN_le (P : Prop) : bN P ≤ 1 := by rcases Classical.em P with h | h <;> simp [bN_t, bN_f, h]
theorem bN_c {P Q : Prop} (h : P ↔ Q) : bN P = bN Q := by rw [propext h]
theorem nI_bN (P : Prop) : nI (bN P) = bi P := by rcases Classical.em P with h | h <;> simp only [bN_t, bN_f, bi_t, bi_f, h, not_false_iff] <;> rfl
noncomputable def cnt (P : Nat → Prop) : Nat → Nat
  | 0 => 0
  | n + 1 => cnt P n + bN (P n)
theorem cnt_le (P : Nat → Prop) : ∀ n, cnt P n ≤ n
  | 0 => Nat.le_refl 0
  | n + 1 => by have := cnt_le P n; have := bN_le (P n); simp only [cnt]; omega
theorem cnt_congr {P Q : Nat → Prop} : ∀ n, (∀ i, i < n → (P i ↔ Q i)) → cnt P n = cnt Q n
  | 0, _ => rfl
  | n + 1, h => by simp only [cnt]; rw [cnt_congr n (fun i hi => h i (by omega)), bN_c (h n (by omega))]
theorem cnt_none {P : Nat → Prop} : ∀ n, (∀ i, i < n → ¬ P i) → cnt P n = 0
  | 0, _ => rfl
  | n + 1, h => by simp only [cnt]; rw [cnt_none n (fun i hi => h i (by omega)), bN_f (h n (by omega))]
theorem cnt_add (P : Nat → Prop) (a : Nat) : ∀ b, cnt P (a + b) = cnt P a + cnt (fun i => P (a + i)) b
  | 0 => rfl
  | b + 1 => by
    have := cnt_add P a b
    show cnt P (a + b) + bN (P (a + b)) = cnt P a + (cnt (fun i => P (a + i)) b + bN (P (a + b)))
    omega
theorem cnt_cut {P : Nat → Prop} {w W : Nat} (hw : w ≤ W) (h : ∀ i, w ≤ i → i < W → ¬ P i) : cnt P W = cnt P w := by
  obtain ⟨k, rfl⟩ : ∃ k, W = w + k := ⟨W - w, by omega⟩
  rw [cnt_add, cnt_none k (fun i hi => h (w + i) (by omega) (by omega))]
  rfl
/-- the sum of a function below n -/
def sumN (f : Nat → Nat) : Nat → Nat
  | 0 => 0
  | n + 1 => sumN f n + f n
theorem sumN_congr {f g : Nat → Nat} : ∀ n, (∀ i, i < n → f i = g i) → sumN f n = sumN g n
  | 0, _ => rfl
  | n + 1, h => by simp only [sumN]; rw [sumN_congr n (fun i hi => h i (by omega)), h n (by omega)]
theorem sumN_zero {f : Nat → Nat} : ∀ n, (∀ i, i < n → f i = 0) → sumN f n = 0
  | 0, _ => rfl
  | n + 1, h => by simp only [sumN]; rw [sumN_zero n (fun i hi => h i (by omega)), h n (by omega)]
theorem sumN_cut {f : Nat → Nat} {w : Nat} : ∀ W, w ≤ W → (∀ i, w ≤ i → i < W → f i = 0) → sumN f W = sumN f w
  | 0, h, _ => by rw [Nat.le_zero.mp h]
  | W + 1, h, hz => by
    rcases Nat.lt_or_ge W w with q | q
    · rw [show w = W + 1 by omega]
    · simp only [sumN]
      rw [sumN_cut W q (fun i h1 h2 => hz i h1 (by omega)), hz W q (by omega), Nat.add_zero]
/-- a grid, row by row -/
theorem cnt_grid (P : Nat → Prop) (b : Nat) : ∀ a, cnt P (a * b) = sumN (fun r => cnt (fun c => P (r * b + c)) b) a
  | 0 => by rw [Nat.zero_mul]; rfl
  | a + 1 => by rw [Nat.succ_mul, cnt_add, cnt_grid P b a]; rfl
/-- a grid of H rows of W, where only h rows of w count -/
theorem cnt_sub {P P' : Nat → Prop} {w W h H : Nat} (hw : w ≤ W) (hh : h ≤ H) (hin : ∀ r c, r < h → c < w → (P (r * W + c) ↔ P' (r * w + c))) (hout : ∀ r c, r < H → c < W → (h ≤ r ∨ w ≤ c) → ¬ P (r * W + c)) : cnt P (H * W) = cnt P' (h * w) := by
  rw [cnt_grid, cnt_grid, sumN_cut H hh (fun r h1 h2 => cnt_none W (fun c hc => hout r c h2 hc (Or.inl h1)))]
  refine sumN_congr h (fun r hr => ?_)
  rw [cnt_cut hw (fun c h1 h2 => hout r c (by omega) h2 (Or.inr h1))]
  exact cnt_congr w (fun c hc => hin r c hr hc)
theorem cnt_ex {P : Nat → Prop} : ∀ n, 0 < cnt P n ↔ ∃ i, i < n ∧ P i
  | 0 => ⟨fun h => absurd h (by simp [cnt]), fun ⟨i, h, _⟩ => absurd h (by omega)⟩
  | n + 1 => by
    simp only [cnt]
    have ih := cnt_ex (P := P) n
    rcases Classical.em (P n) with h | h
    · rw [bN_t h]
      exact ⟨fun _ => ⟨n, by omega, h⟩, fun _ => by omega⟩
    · rw [bN_f h, Nat.add_zero, ih]
      exact ⟨fun ⟨i, h1, h2⟩ => ⟨i, by omega, h2⟩, fun ⟨i, h1, h2⟩ => ⟨i, by
        rcases Nat.lt_or_ge i n with q | q
        · exact q
        · exact absurd (show P n from (show i = n by omega) ▸ h2) h, h2⟩⟩
-- bits
noncomputable def mkN (P : Nat → Prop) : Nat → Nat
  | 0 => 0
  | n + 1 => mkN P n + bN (P n) * 2 ^ n
theorem mkN_lt (P : Nat → Prop) : ∀ n, mkN P n < 2 ^ n
  | 0 => by simp [mkN]
  | n + 1 => by
    have h1 := mkN_lt P n
    have h2 := bN_le (P n)
    simp only [mkN, Nat.pow_succ]
    have h3 : bN (P n) * 2 ^ n ≤ 1 * 2 ^ n := Nat.mul_le_mul_right _ h2
    omega
theorem mkN_bit (P : Nat → Prop) : ∀ n i, (mkN P n).testBit i = true ↔ i < n ∧ P i
  | 0, i => by simp [mkN]
  | n + 1, i => by
    have h1 := mkN_lt P n
    have ih := mkN_bit P n i
    simp only [mkN]
    rw [Nat.add_comm, Nat.mul_comm]
    rw [Nat.testBit_two_pow_mul_add _ h1]
    by_cases hi : i < n
    · rw [if_pos hi, ih]
      exact ⟨fun h => ⟨by omega, h.2⟩, fun h => ⟨hi, h.2⟩⟩
    · rw [if_neg hi]
      rcases Classical.em (P n) with h | h
      · rw [bN_t h]
        by_cases e : i = n
        · subst e
          simp [h]
        · have : i - n ≠ 0 := by omega
          obtain ⟨k, hk⟩ : ∃ k, i - n = k + 1 := ⟨i - n - 1, by omega⟩
          rw [hk, Nat.testBit_succ]
          simp
          intro q; omega
      · rw [bN_f h]
        simp only [Nat.zero_testBit, Bool.false_eq_true, false_iff, not_and]
        intro q1 q2
        exact h ((show i = n by omega) ▸ q2)
theorem mkL_ex (P : Nat → Prop) : ∃ x : Int64, x.toBitVec.toNat = mkN P 64 := by
  refine ⟨Int64.ofNat (mkN P 64), ?_⟩
  have h := mkN_lt P 64
  rw [Int64.toBitVec_ofNat']
  simp only [BitVec.toNat_ofNat]
  exact Nat.mod_eq_of_lt h
noncomputable def mkL (P : Nat → Prop) : Int64 := Classical.choose (mkL_ex P)
theorem mkL_tn (P : Nat → Prop) : (mkL P).toBitVec.toNat = mkN P 64 := Classical.choose_spec (mkL_ex P)
theorem mkL_bit {P : Nat → Prop} {i : Nat} : (mkL P).toBitVec.getLsbD i = true ↔ i < 64 ∧ P i := by
  rw [BitVec.getLsbD, mkL_tn]
  exact mkN_bit P 64 i
theorem mkL_of {x : Int64} {P : Nat → Prop} (h : ∀ i, i < 64 → (x.toBitVec.getLsbD i = true ↔ P i)) : x = mkL P := by
  apply Int64.toBitVec_inj.mp
  apply BitVec.eq_of_getLsbD_eq
  intro i hi
  have h1 := h i hi
  have h2 := mkL_bit (P := P) (i := i)
  rcases e1 : x.toBitVec.getLsbD i with _ | _ <;> rcases e2 : (mkL P).toBitVec.getLsbD i with _ | _
  · rfl
  · rw [e1] at h1; rw [e2] at h2
    exact absurd (h1.mpr (h2.mp rfl).2) (by simp)
  · rw [e1] at h1; rw [e2] at h2
    exact absurd (h2.mpr ⟨hi, h1.mp rfl⟩) (by simp)
  · rfl
theorem mkL_c {P Q : Nat → Prop} (h : ∀ i, i < 64 → (P i ↔ Q i)) : mkL P = mkL Q := mkL_of fun i hi => by
  rw [mkL_bit]; exact ⟨fun q => (h i hi).mp q.2, fun q => ⟨hi, (h i hi).mpr q⟩⟩
theorem mkL_0 : mkL (fun _ => False) = 0 := (mkL_of fun i hi => by simp).symm
theorem mkL_and (P Q : Nat → Prop) : mkL P &&& mkL Q = mkL (fun i => P i ∧ Q i) := mkL_of fun i hi => by
  rw [Int64.toBitVec_and, BitVec.getLsbD_and, Bool.and_eq_true, mkL_bit, mkL_bit]
  exact ⟨fun h => ⟨h.1.2, h.2.2⟩, fun h => ⟨⟨hi, h.1⟩, ⟨hi, h.2⟩⟩⟩
theorem mkL_or (P Q : Nat → Prop) : mkL P ||| mkL Q = mkL (fun i => P i ∨ Q i) := mkL_of fun i hi => by
  rw [Int64.toBitVec_or, BitVec.getLsbD_or, Bool.or_eq_true, mkL_bit, mkL_bit]
  exact ⟨fun h => h.elim (fun q => Or.inl q.2) (fun q => Or.inr q.2), fun h => h.elim (fun q => Or.inl ⟨hi, q⟩) (fun q => Or.inr ⟨hi, q⟩)⟩
theorem mkL_not (P : Nat → Prop) : mkL P ^^^ (-1) = mkL (fun i => ¬ P i) := mkL_of fun i hi => by
  rw [Int64.toBitVec_xor, BitVec.getLsbD_xor]
  have h1 : (-1 : Int64).toBitVec.getLsbD i = true := by
    have : (-1 : Int64).toBitVec = BitVec.allOnes 64 := by decide
    rw [this, BitVec.getLsbD_allOnes]; simp [hi]
  rw [h1]
  have h2 := mkL_bit (P := P) (i := i)
  rcases e : (mkL P).toBitVec.getLsbD i with _ | _
  · rw [e] at h2
    exact ⟨fun _ q => absurd (h2.mpr ⟨hi, q⟩) (by simp), fun _ => rfl⟩
  · rw [e] at h2
    exact ⟨fun q => absurd q (by simp), fun q => absurd (h2.mp rfl).2 q⟩
theorem mkL_eq0 {P : Nat → Prop} : mkL P = 0 ↔ ∀ i, i < 64 → ¬ P i := by
  constructor
  · intro h i hi q
    have := (mkL_bit (P := P) (i := i)).mpr ⟨hi, q⟩
    rw [h] at this
    simp at this
  · intro h
    rw [← mkL_0]
    exact mkL_c fun i hi => ⟨fun q => h i hi q, fun q => q.elim⟩
theorem mkL_inj {P Q : Nat → Prop} (h : mkL P = mkL Q) : ∀ i, i < 64 → (P i ↔ Q i) := fun i hi => by
  have h1 := mkL_bit (P := P) (i := i)
  rw [h, mkL_bit] at h1
  exact ⟨fun q => (h1.mpr ⟨hi, q⟩).2, fun q => (h1.mp ⟨hi, q⟩).2⟩
theorem lsh_c : ∀ k : Fin 64, ((nI k.val).toInt64 &&& 63).toBitVec.smod 64 = BitVec.ofNat 64 k.val := by decide +kernel
theorem mkL_shl {k : Nat} (hk : k < 64) : (1 : Int64) <<< ((nI k).toInt64 &&& 63) = mkL (fun i => i = k) := mkL_of fun i hi => by
  rw [Int64.toBitVec_shiftLeft, lsh_c ⟨k, hk⟩]
  have h1 : (BitVec.ofNat 64 k).toNat = k := by simp; omega
  rw [BitVec.shiftLeft_eq', h1, BitVec.getLsbD_shiftLeft]
  have h2 : (1 : Int64).toBitVec = 1#64 := rfl
  rw [h2]
  simp only [hi, decide_true, Bool.true_and, Bool.and_eq_true, Bool.not_eq_true', decide_eq_false_iff_not, Nat.not_lt, BitVec.getLsbD_one]
  simp
  omega
