/-! characters in words -/
theorem i32_or_shr (x y k : Int32) : (x ||| y) >>> k = x >>> k ||| y >>> k := by
  apply Int32.toBitVec_inj.mp
  simp [Int32.toBitVec_shiftRight, BitVec.sshiftRight_or_distrib]
theorem i8_or (x y : Int32) : (x ||| y).toInt8 = x.toInt8 ||| y.toInt8 := by
  apply Int8.toBitVec_inj.mp
  simp
theorem i32_or (x y : Int8) : (x ||| y).toInt32 = x.toInt32 ||| y.toInt32 := by
  apply Int32.toBitVec_inj.mp
  simp [BitVec.signExtend_or]
theorem byt_or (x y : Int32) (i : Nat) : byt (x ||| y) i = byt x i ||| byt y i := by
  unfold byt
  rw [i32_or_shr, i8_or, i32_or]
theorem byt_c {c i j : Nat} (hc : c < 128) (hi : i < 4) (hj : j < 4) : byt (nI c <<< ((nI 24 - nI 8 * nI j) &&& 31)) i = if i = j then nI c else 0 := by
  have key : ∀ (c : Fin 128) (i j : Fin 4), byt (nI c.1 <<< ((nI 24 - nI 8 * nI j.1) &&& 31)) i.1 = if i.1 = j.1 then nI c.1 else 0 := by decide +kernel
  exact key ⟨c, hc⟩ ⟨i, hi⟩ ⟨j, hj⟩
theorem or_0 (x : Int32) : x ||| 0 = x ∧ 0 ||| x = x := by
  constructor <;> (apply Int32.toBitVec_inj.mp; simp)
theorem byt_0 (i : Nat) (hi : i < 4) : byt 0 i = 0 := by
  have key : ∀ (i : Fin 4), byt 0 i.1 = 0 := by decide +kernel
  exact key ⟨i, hi⟩
/-- the word w holds the characters from a on of T -/
def WB (w : Int32) (T : List Nat) (a : Nat) : Prop := ∀ i, i < 4 → byt w i = nI (T.getD (a + i) 0)
theorem WB_put {w : Int32} {T : List Nat} {a j c : Nat} (h : WB w T a) (hc : c < 128) (hj : j < 4) (hT : T.length = a + j) : WB (w ||| nI c <<< ((nI 24 - nI 8 * nI j) &&& 31)) (T ++ [c]) a := by
  intro i hi
  rw [byt_or, h i hi, byt_c hc hi hj]
  have e : (T ++ [c]).getD (a + i) 0 = if a + i < T.length then T.getD (a + i) 0 else [c].getD (a + i - T.length) 0 := by
    simp only [List.getD_eq_getElem?_getD, List.getElem?_append]
    split <;> rfl
  have e2 : T.length ≤ a + i → T.getD (a + i) 0 = 0 := fun z => by
    rw [List.getD_eq_getElem?_getD, List.getElem?_eq_none z]; rfl
  rw [e]
  rcases Nat.lt_trichotomy i j with z | z | z
  · rw [if_neg (by omega), if_pos (by omega)]; exact (or_0 _).1
  · rw [if_pos z, if_neg (by omega), e2 (by omega), show a + i - T.length = 0 by omega]
    exact (or_0 _).2
  · rw [if_neg (by omega), if_neg (by omega), e2 (by omega)]
    have : [c].getD (a + i - T.length) 0 = 0 := by
      rw [List.getD_eq_getElem?_getD, List.getElem?_eq_none (by show 1 ≤ _; omega)]; rfl
    rw [this]
    exact (or_0 _).1
theorem WB_far {w : Int32} {T : List Nat} {a c : Nat} (h : WB w T a) (hT : a + 4 ≤ T.length ∨ T.length < a) : WB w (T ++ [c]) a := by
  intro i hi
  rw [h i hi]
  have e : (T ++ [c]).getD (a + i) 0 = if a + i < T.length then T.getD (a + i) 0 else [c].getD (a + i - T.length) 0 := by
    simp only [List.getD_eq_getElem?_getD, List.getElem?_append]
    split <;> rfl
  rw [e]
  rcases hT with z | z
  · rw [if_pos (by omega)]
  · rw [if_neg (by omega)]
    rw [List.getD_eq_getElem?_getD, List.getElem?_eq_none (by omega), List.getD_eq_getElem?_getD, List.getElem?_eq_none (by show 1 ≤ _; omega)]
theorem WB_0 {T : List Nat} {a : Nat} (h : T.length ≤ a) : WB 0 T a := by
  intro i hi
  rw [byt_0 i hi, List.getD_eq_getElem?_getD, List.getElem?_eq_none (by omega)]
  rfl
