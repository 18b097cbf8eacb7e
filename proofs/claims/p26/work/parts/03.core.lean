/-! THE ABSTRACT MACHINE: a heap of numbered cells; the kinds of the fixed ones stand in one table, the others bear theirs in their number; a judgement AW over it, sound by the kit's rows -/
abbrev AH : Type := Nat × (Nat → Nat → Int32) × (Nat → Nat → Int64) × (Nat → Nat → Option Nat)
def hN (h : AH) : Nat := h.1
def hI (h : AH) : Nat → Nat → Int32 := h.2.1
def hL (h : AH) : Nat → Nat → Int64 := h.2.2.1
def hR (h : AH) : Nat → Nat → Option Nat := h.2.2.2
def up2 {α : Type} (f : Nat → Nat → α) (a j : Nat) (x : α) : Nat → Nat → α := fun b k => if b = a ∧ k = j then x else f b k
def upr {α : Type} (f : Nat → Nat → α) (a : Nat) (g : Nat → α) : Nat → Nat → α := fun b => if b = a then g else f b
def sI (h : AH) (a j : Nat) (x : Int32) : AH := (hN h, up2 (hI h) a j x, hL h, hR h)
def sL (h : AH) (a j : Nat) (x : Int64) : AH := (hN h, hI h, up2 (hL h) a j x, hR h)
def sR (h : AH) (a j : Nat) (x : Option Nat) : AH := (hN h, hI h, hL h, up2 (hR h) a j x)
def rI (h : AH) (a : Nat) (g : Nat → Int32) : AH := (hN h, upr (hI h) a g, hL h, hR h)
def nw (h : AH) : AH := (hN h + 1, upr (hI h) (hN h) (fun _ => 0), upr (hL h) (hN h) (fun _ => 0), upr (hR h) (hN h) (fun _ => none))
def nwM (h : AH) (n : Nat) : AH := (hN h + 1 + n, (fun b => if hN h ≤ b ∧ b ≤ hN h + n then (fun _ => 0) else hI h b), (fun b => if hN h ≤ b ∧ b ≤ hN h + n then (fun _ => 0) else hL h b),
  (fun b => if b = hN h then (fun i => if i < n then some (hN h + 1 + i) else none) else if hN h < b ∧ b ≤ hN h + n then (fun _ => none) else hR h b))
/-- the tables' words, and 'selects' of the private methods that a StringBuilder has from above -/
def jPr : List MethodName := [yJ5_ensureCapacityInternal_d00df, yJ5_newCapacity_0f7a4, yJ5_inflate_da8c8, yJ5_appendNull_278bc, yJ5_putStringAt_47b60, yJ5_inflateIfNeededFor_a7421]
def lw_tb2 : List Cond := lw_tbl ++ jPr.map (fun y => Cond.selects RJ4 y y)
/-- a new cell of the name c behind the law's fixed cells -/
def cod : List Nat → Nat
  | [] => 0
  | a :: l => 2 ^ a * (2 * cod l + 1)
theorem pow2_odd {m n : Nat} : ∀ (a b : Nat), 2 ^ a * (2 * m + 1) = 2 ^ b * (2 * n + 1) → a = b ∧ m = n
  | 0, 0, h => by simp only [Nat.pow_zero, Nat.one_mul] at h; exact ⟨rfl, by omega⟩
  | 0, b + 1, h => by
    rw [Nat.pow_succ, Nat.mul_comm (2 ^ b) 2, Nat.mul_assoc] at h
    simp only [Nat.pow_zero, Nat.one_mul] at h
    omega
  | a + 1, 0, h => by
    rw [Nat.pow_succ, Nat.mul_comm (2 ^ a) 2, Nat.mul_assoc] at h
    simp only [Nat.pow_zero, Nat.one_mul] at h
    omega
  | a + 1, b + 1, h => by
    rw [Nat.pow_succ, Nat.pow_succ, Nat.mul_comm (2 ^ a) 2, Nat.mul_comm (2 ^ b) 2, Nat.mul_assoc, Nat.mul_assoc] at h
    have := pow2_odd a b (Nat.eq_of_mul_eq_mul_left (by decide) h)
    exact ⟨by omega, this.2⟩
theorem cod_pos (a : Nat) (l : List Nat) : 0 < cod (a :: l) := Nat.mul_pos (Nat.pow_pos (by decide)) (by omega)
theorem cod_inj : ∀ (l l2 : List Nat), cod l = cod l2 → l = l2
  | [], [], _ => rfl
  | [], b :: l2, h => absurd h (by have := cod_pos b l2; simp only [cod] at *; omega)
  | a :: l, [], h => absurd h (by have := cod_pos a l; simp only [cod] at *; omega)
  | a :: l, b :: l2, h => by
    obtain ⟨e1, e2⟩ := pow2_odd a b h
    rw [e1, cod_inj l l2 e2]
noncomputable def dec (n : Nat) : List Nat := @dite _ (∃ l, cod l = n) (Classical.propDecidable _) (fun h => Classical.choose h) (fun _ => [])
theorem dec_cod (l : List Nat) : dec (cod l) = l := by
  have h : ∃ l2, cod l2 = cod l := ⟨l, rfl⟩
  unfold dec
  rw [dif_pos h]
  exact cod_inj _ _ (Classical.choose_spec h)
/-- the cells that a stamp N has: the law's fixed ones, then those with a name of their own -/
noncomputable def dyn (N : Nat) : List Nat := dec (N - 68)
noncomputable def hC (N : Nat) : List Nat := List.range (min N 68) ++ dyn N
def prN (N a : Nat) : Prop := a ∈ hC N
noncomputable def dl (N : Nat) : Nat := (dyn N).length
noncomputable def adn (N c : Nat) : Nat := 68 + cod (dyn N ++ [c])
/-- names: a number in the order of the making, and what kind -/
def nm (k q : Nat) : Nat := 2000 + 1024 * k + q
def nmI (a : Nat) : Nat := (a - 2000) / 1024
def dOK (l : List Nat) : Prop := ∀ i a, l[i]? = some a → ∃ q, q < 1024 ∧ a = nm i q
noncomputable def nwD (h : AH) (c : Nat) : AH := (adn (hN h) c, upr (hI h) c (fun _ => 0), upr (hL h) c (fun _ => 0), upr (hR h) c (fun _ => none))
theorem dyn_low {N : Nat} (h : N ≤ 68) : dyn N = [] := by
  unfold dyn
  rw [Nat.sub_eq_zero_of_le h]
  exact dec_cod []
theorem dyn_adn {N c : Nat} : dyn (adn N c) = dyn N ++ [c] := by
  show dec (68 + cod (dyn N ++ [c]) - 68) = _
  rw [Nat.add_sub_cancel_left, dec_cod]
theorem adn_ge {N c : Nat} : 68 ≤ adn N c := Nat.le_add_right _ _
theorem dl_adn {N c : Nat} : dl (adn N c) = dl N + 1 := by unfold dl; rw [dyn_adn, List.length_append]; rfl
theorem prN_iff {N a : Nat} : prN N a ↔ (a < N ∧ a < 68) ∨ a ∈ dyn N := by
  unfold prN hC
  rw [List.mem_append, List.mem_range, Nat.lt_min]
theorem prN_low {N a : Nat} (h : N ≤ 68) : prN N a ↔ a < N := by
  rw [prN_iff, dyn_low h]
  simp
  omega
theorem prN_st {N a : Nat} (h : a < N) (h2 : a < 68) : prN N a := prN_iff.mpr (Or.inl ⟨h, h2⟩)
theorem prN_adn {N c a : Nat} (h : 68 ≤ N) : prN (adn N c) a ↔ prN N a ∨ a = c := by
  rw [prN_iff, prN_iff, dyn_adn, List.mem_append, List.mem_singleton]
  have := @adn_ge N c
  constructor
  · rintro (z | z | z)
    · exact Or.inl (Or.inl (by omega))
    · exact Or.inl (Or.inr z)
    · exact Or.inr z
  · rintro ((z | z) | z)
    · exact Or.inl (by omega)
    · exact Or.inr (Or.inl z)
    · exact Or.inr (Or.inr z)
theorem dOK_mem {l : List Nat} (h : dOK l) {a : Nat} (ha : a ∈ l) : ∃ k q, k < l.length ∧ q < 1024 ∧ a = nm k q := by
  obtain ⟨i, hi⟩ := List.mem_iff_getElem?.mp ha
  obtain ⟨q, hq, e⟩ := h i a hi
  exact ⟨i, q, (List.getElem?_eq_some_iff.mp hi).1, hq, e⟩
theorem nm_inj {i j q r : Nat} (hq : q < 1024) (hr : r < 1024) (e : nm i q = nm j r) : i = j ∧ q = r := by unfold nm at e; omega
theorem dOK_nd {l : List Nat} (h : dOK l) : l.Nodup := by
  rw [List.nodup_iff_pairwise_ne, List.pairwise_iff_getElem]
  intro i j hi hj hij e
  obtain ⟨q, hq, e1⟩ := h i _ (List.getElem?_eq_getElem hi)
  obtain ⟨r, hr, e2⟩ := h j _ (List.getElem?_eq_getElem hj)
  rw [e1, e2] at e
  have := (nm_inj hq hr e).1
  omega
theorem hC_nd {N : Nat} (h : dOK (dyn N)) : (hC N).Nodup := by
  unfold hC
  rw [List.nodup_append]
  refine ⟨List.nodup_range, dOK_nd h, fun a ha b hb e => ?_⟩
  have ha := List.mem_range.mp ha
  obtain ⟨k, q, -, -, e2⟩ := dOK_mem h hb
  unfold nm at e2
  omega
theorem dOK_add {N k q : Nat} (h : dOK (dyn N)) (hk : k = dl N) (hq : q < 1024) : dOK (dyn (adn N (nm k q))) := by
  rw [dyn_adn]
  intro i a hi
  rcases Nat.lt_or_ge i (dyn N).length with z | z
  · rw [List.getElem?_append_left z] at hi
    exact h i a hi
  · rw [List.getElem?_append_right z] at hi
    have e0 : i - (dyn N).length = 0 := by
      have := (List.getElem?_eq_some_iff.mp hi).1
      simp at this
      omega
    rw [e0] at hi
    cases hi
    exact ⟨q, hq, by rw [hk, show i = dl N by unfold dl; omega]⟩
theorem nm_new {N k q : Nat} (h : dOK (dyn N)) (hk : k = dl N) (hq : q < 1024) : ¬ prN N (nm k q) := by
  rw [prN_iff]
  rintro (z | z)
  · unfold nm at z; omega
  · obtain ⟨i, r, hi, hr, e⟩ := dOK_mem h z
    have := (nm_inj hq hr e).1
    unfold dl at hk
    omega
/-- the kinds of the fixed cells, in the order of their making: .inl class, .inr (0 int, 1 byte, 2 boolean, 3 long, 4 Sheet, 5 int[] rows, 6 String, 7 the law's Sheet; length) -/
def shL : List (Nat ⊕ (Nat × Nat)) :=
  [.inl 4, .inr (1, 400), .inl 3, .inr (0, 96), .inr (0, 12), .inr (0, 24), .inr (4, 8), .inl 2, .inl 3, .inr (0, 96), .inr (0, 12), .inr (0, 24), .inr (1, 400),
   .inl 0, .inr (3, 24), .inr (0, 48), .inl 1, .inl 0, .inr (3, 24), .inr (0, 48), .inr (3, 8), .inr (3, 96), .inr (5, 8),
   .inr (0, 96), .inr (0, 96), .inr (0, 96), .inr (0, 96), .inr (0, 96), .inr (0, 96), .inr (0, 96), .inr (0, 96), .inr (0, 9), .inr (0, 8), .inr (0, 8),
   .inl 3, .inr (0, 96), .inr (0, 12), .inr (0, 24), .inl 3, .inr (0, 96), .inr (0, 12), .inr (0, 24), .inl 3, .inr (0, 96), .inr (0, 12), .inr (0, 24), .inl 3, .inr (0, 96), .inr (0, 12), .inr (0, 24),
   .inl 3, .inr (0, 96), .inr (0, 12), .inr (0, 24), .inl 3, .inr (0, 96), .inr (0, 12), .inr (0, 24), .inl 3, .inr (0, 96), .inr (0, 12), .inr (0, 24), .inl 3, .inr (0, 96), .inr (0, 12), .inr (0, 24),
   .inr (0, 8), .inl 5]
def shK (a : Nat) : Option (Nat ⊕ (Nat × Nat)) := shL[a]?
def kdK (q : Nat) : Option (Nat ⊕ (Nat × Nat)) := if q < 9 then some (.inl q) else if 16 ≤ q ∧ q < 528 then some (.inr ((q - 16) / 64, (q - 16) % 64)) else none
def kdA (a : Nat) : Option (Nat ⊕ (Nat × Nat)) := if a < 2000 then shK a else kdK ((a - 2000) % 1024)
def qA (t n : Nat) : Nat := 16 + 64 * t + n
theorem shK_lt {a : Nat} {k : Nat ⊕ (Nat × Nat)} (hs : shK a = some k) : a < 68 := by
  have := (List.getElem?_eq_some_iff.mp hs).1
  simpa [shL] using this
theorem kdA_sh {a : Nat} {k : Nat ⊕ (Nat × Nat)} (hs : shK a = some k) : kdA a = some k := by
  have := shK_lt hs
  unfold kdA
  rw [if_pos (by omega)]
  exact hs
theorem kdA_nm {k q : Nat} (hq : q < 1024) : kdA (nm k q) = kdK q := by
  unfold kdA nm
  rw [if_neg (by omega), show (2000 + 1024 * k + q - 2000) % 1024 = q by omega]
theorem kdA_c {k q : Nat} (hq : q < 9) : kdA (nm k q) = some (.inl q) := by rw [kdA_nm (by omega)]; exact if_pos hq
theorem kdA_a {k t n : Nat} (ht : t < 8) (hn : n < 64) : kdA (nm k (qA t n)) = some (.inr (t, n)) := by
  unfold qA
  rw [kdA_nm (by omega)]
  unfold kdK
  rw [if_neg (by omega), if_pos (by omega), show (16 + 64 * t + n - 16) / 64 = t by omega, show (16 + 64 * t + n - 16) % 64 = n by omega]
theorem pr_sh {h : AH} {a : Nat} {k : Nat ⊕ (Nat × Nat)} (hs : shK a = some k) (ha : a < hN h) : prN (hN h) a := prN_st ha (shK_lt hs)
def nF (ci : Nat) : Nat := match ci with | 0 => 4 | 1 => 10 | 2 => 10 | 3 => 10 | 4 => 10 | 5 => 1 | 6 => 13 | _ => 4
def fT (ci : Nat) : Nat → FieldType := match ci with | 0 => tyX0 | 1 => tyX1 | 2 => tyX2 | 3 => tyX3 | 4 => tyX4 | 5 => tyX5 | 6 => tyX6 | 7 => tyJ0 | _ => tyJ4
def cT (ci : Nat) : u_T := match ci with | 0 => TX0 | 1 => TX1 | 2 => TX2 | 3 => TX3 | 4 => TX4 | 5 => TX5 | 6 => TX6 | 7 => TJ0 | _ => TJ4
def cR (ci : Nat) : String := match ci with | 0 => RX0 | 1 => RX1 | 2 => RX2 | 3 => RX3 | 4 => RX4 | 5 => RX5 | 6 => RX6 | 7 => RJ0 | _ => RJ4
def kT (ty : FieldType) : Nat := match ty with | .long => 1 | .object _ => 2 | .array _ => 2 | _ => 0
def fK (ci k : Nat) : Nat := kT (fT ci k)
def tyF (t : Nat) : FieldType := match t with | 0 => .int | 1 => .byte | 2 => .boolean | 3 => .long | 4 => .object "LetterCuts$Sheet" | 5 => .array .int | 6 => .object "java/lang/String" | _ => .object "LetterCutsLaw$Sheet"
def tysOf (cls : Nat → ClassId) : List (ClassId × FieldType) := [(cls 0, .int), (cls 1, .byte), (cls 2, .boolean), (cls 3, .long), (cls 4, .object "LetterCuts$Sheet"), (cls 5, .array .int), (cls 6, .object "java/lang/String"), (cls 7, .object "LetterCutsLaw$Sheet")]
def fv (ad : Nat → Nat) (h : AH) (a ci k : Nat) : Value := if fK ci k = 0 then .int (hI h a k) else if fK ci k = 1 then .long (hL h a k) else va_rf ((hR h a k).map ad)
def aC (ad : Nat → Nat) (h : AH) (a t n : Nat) : vp_A := (n, if t ≤ 2 then .inl (hI h a) else if t = 3 then .inr (.inl (hL h a)) else .inr (.inr (.inr (.inr (fun j => (hR h a j).map ad)))))
def ceK (cls : Nat → ClassId) (ad : Nat → Nat) (h : AH) (a : Nat) (k : Option (Nat ⊕ (Nat × Nat))) : va_E := match k with
  | some (.inl ci) => .inr (ci, (List.range (nF ci)).map (fv ad h a ci))
  | some (.inr (t, n)) => .inl (cls t, aC ad h a t n)
  | none => .inr (0, [])
def ce (cls : Nat → ClassId) (ad : Nat → Nat) (h : AH) (a : Nat) : va_E := ceK cls ad h a (kdA a)
noncomputable def wld (cls : Nat → ClassId) (ad : Nat → Nat) (h : AH) : va_W := (hC (hN h)).map (fun a => (ad a, ce cls ad h a))
/-- what lies outside the world, by fixed numbers -/
def ext (a : Nat) : Prop := 1000 ≤ a ∧ a < 1100 ∧ a ≠ 1030
theorem ext_no {N a : Nat} (h : dOK (dyn N)) (ha : ext a) : ¬ prN N a := by
  rw [prN_iff]
  unfold ext at ha
  rintro (z | z)
  · omega
  · obtain ⟨k, q, -, -, e⟩ := dOK_mem h z
    unfold nm at e
    omega
def wfh (h : AH) : Prop := dOK (dyn (hN h)) ∧ ∀ a j k, prN (hN h) a → hR h a j = some k → prN (hN h) k ∨ ext k
/-- an abstract value's own value: the cells by their addresses -/
def cv (ad : Nat → Nat) : Value → Value
  | .ref a => .ref (ad a)
  | v => v
theorem cv_cat (ad : Nat → Nat) (v : Value) : (cv ad v).category = v.category := by cases v <;> rfl
-- locals
def lget (i : Nat) : List (Nat × Value) → Option Value
  | [] => none
  | q :: r => if q.1 = i then some q.2 else lget i r
def lins (i : Nat) (v : Value) : List (Nat × Value) → List (Nat × Value)
  | [] => [(i, v)]
  | q :: r => if i < q.1 then (i, v) :: q :: r else q :: lins i v r
def ls1 (i : Nat) (v : Value) (ls : List (Nat × Value)) : List (Nat × Value) := lins i v (ls.filter (fun q => !(q.1 == i) && !(q.1 + 1 == i && q.2.category == 2)))
def ls2 (i : Nat) (v : Value) (ls : List (Nat × Value)) : List (Nat × Value) := lins i v (ls.filter (fun q => !(q.1 == i) && (!(q.1 == i + 1) && !(q.1 + 1 == i && q.2.category == 2))))
def cl1 (ad : Nat → Nat) (q : Nat × Value) : Nat × Value := (q.1, cv ad q.2)
theorem lget_mem {i : Nat} {v : Value} : ∀ {ls : List (Nat × Value)}, lget i ls = some v → (i, v) ∈ ls
  | [], h => by simp [lget] at h
  | q :: r, h => by
    unfold lget at h
    split at h
    · rename_i e
      cases h
      rw [← e]
      exact List.mem_cons_self
    · exact List.mem_cons_of_mem _ (lget_mem h)
theorem lins_mem {i : Nat} {v : Value} {q : Nat × Value} : ∀ {l : List (Nat × Value)}, q ∈ lins i v l → q ∈ (i, v) :: l
  | [], h => h
  | p :: r, h => by
    unfold lins at h
    split at h
    · exact h
    · rcases List.mem_cons.mp h with rfl | h
      · simp
      · rcases List.mem_cons.mp (lins_mem h) with rfl | h
        · simp
        · exact List.mem_cons_of_mem _ (List.mem_cons_of_mem _ h)
theorem lv_has_of {A : Array Slot} {n : Nat} {l l' : List (Nat × Value)} (h : lv_has A n l) (hs : ∀ q ∈ l', q ∈ l) : lv_has A n l' := ⟨h.1, h.2.1, fun q hq => h.2.2 q (hs q hq)⟩
theorem filt_map {ad : Nat → Nat} {f : Nat × Value → Bool} (hf : ∀ q, f (cl1 ad q) = f q) (ls : List (Nat × Value)) : (ls.map (cl1 ad)).filter f = (ls.filter f).map (cl1 ad) := by
  induction ls with
  | nil => rfl
  | cons q r ih =>
    rw [List.map_cons, List.filter_cons, List.filter_cons, hf q]
    split
    · rw [ih, List.map_cons]
    · exact ih
theorem ls1_has {A : Array Slot} {n : Nat} {ad : Nat → Nat} {i : Nat} {v : Value} {ls : List (Nat × Value)} (h : lv_has A n ((i, cv ad v) :: (ls.map (cl1 ad)).filter (fun q => !(q.1 == i) && !(q.1 + 1 == i && q.2.category == 2)))) : lv_has A n ((ls1 i v ls).map (cl1 ad)) := by
  rw [filt_map (fun q => by simp only [cl1, cv_cat])] at h
  refine lv_has_of h (fun q hq => ?_)
  obtain ⟨p, hp, rfl⟩ := List.mem_map.mp hq
  rcases List.mem_cons.mp (lins_mem hp) with rfl | hp
  · exact List.mem_cons_self
  · exact List.mem_cons_of_mem _ (List.mem_map.mpr ⟨p, hp, rfl⟩)
theorem ls2_has {A : Array Slot} {n : Nat} {ad : Nat → Nat} {i : Nat} {v : Value} {ls : List (Nat × Value)} (h : lv_has A n ((i, cv ad v) :: (ls.map (cl1 ad)).filter (fun q => !(q.1 == i) && (!(q.1 == i + 1) && !(q.1 + 1 == i && q.2.category == 2))))) : lv_has A n ((ls2 i v ls).map (cl1 ad)) := by
  rw [filt_map (fun q => by simp only [cl1, cv_cat])] at h
  refine lv_has_of h (fun q hq => ?_)
  obtain ⟨p, hp, rfl⟩ := List.mem_map.mp hq
  rcases List.mem_cons.mp (lins_mem hp) with rfl | hp
  · exact List.mem_cons_self
  · exact List.mem_cons_of_mem _ (List.mem_map.mpr ⟨p, hp, rfl⟩)
theorem lget_at {A : Array Slot} {n : Nat} {ad : Nat → Nat} {i : Nat} {v : Value} {ls : List (Nat × Value)} (h : lv_has A n (ls.map (cl1 ad))) (hv : lget i ls = some v) : A[i]? = some (.val (cv ad v)) :=
  h.2.2 (i, cv ad v) (List.mem_map.mpr ⟨(i, v), lget_mem hv, rfl⟩)
-- the world's cells
theorem wld_at {cls : Nat → ClassId} {ad : Nat → Nat} {h : AH} {a : Nat} (ha : prN (hN h) a) : ∃ i : Nat, (hC (hN h))[i]? = some a ∧ (wld cls ad h)[i]? = some (ad a, ce cls ad h a) := by
  obtain ⟨i, hi⟩ := List.mem_iff_getElem?.mp ha
  exact ⟨i, hi, by unfold wld; rw [List.getElem?_map, hi]; rfl⟩
theorem ce_congr {cls : Nat → ClassId} {ad ad' : Nat → Nat} {h h' : AH} {a : Nat} (e1 : hI h' a = hI h a) (e2 : hL h' a = hL h a) (e3 : ∀ j, (hR h' a j).map ad' = (hR h a j).map ad) : ce cls ad' h' a = ce cls ad h a := by
  have f : ∀ ci, fv ad' h' a ci = fv ad h a ci := fun ci => funext fun k => by simp only [fv, e1, e2, e3]
  have g : ∀ t n, aC ad' h' a t n = aC ad h a t n := fun t n => by simp only [aC, e1, e2, funext e3]
  unfold ce ceK
  split
  · rw [f]
  · rw [g]
  · rfl
theorem wld_set {cls : Nat → ClassId} {ad : Nat → Nat} {h h' : AH} {a i : Nat} {e : va_E} (hi : (hC (hN h))[i]? = some a) (hw : wfh h) (hn : hN h' = hN h) (ho : ∀ b, b ≠ a → ce cls ad h' b = ce cls ad h b) (he : e = ce cls ad h' a) : (wld cls ad h).set i (ad a, e) = wld cls ad h' := by
  subst he
  apply List.ext_getElem?
  intro j
  have hlen := (List.getElem?_eq_some_iff.mp hi).1
  unfold wld
  rw [List.getElem?_set, hn, List.getElem?_map, List.getElem?_map, List.length_map]
  by_cases e : i = j
  · subst e
    rw [if_pos rfl, if_pos hlen, hi]
    rfl
  · rw [if_neg e]
    cases hj : (hC (hN h))[j]? with
    | none => rfl
    | some b =>
      have hne : b ≠ a := by
        intro z
        subst z
        obtain ⟨l1, e1⟩ := List.getElem?_eq_some_iff.mp hi
        obtain ⟨l2, e2⟩ := List.getElem?_eq_some_iff.mp hj
        have nd := List.pairwise_iff_getElem.mp (List.nodup_iff_pairwise_ne.mp (hC_nd hw.1))
        rcases Nat.lt_or_gt_of_ne e with z | z
        · exact nd i j l1 l2 z (e1.trans e2.symm)
        · exact nd j i l2 l1 z (e2.trans e1.symm)
      simp only [Option.map_some, ho b hne]
theorem range_set {f : Nat → Value} {n k : Nat} {v : Value} (hk : k < n) : ((List.range n).map f).set k v = (List.range n).map (fun j => if j = k then v else f j) := by
  apply List.ext_getElem?
  intro i
  rw [List.getElem?_set]
  by_cases hi : i < n
  · by_cases e : k = i
    · subst e
      simp [hk]
    · have e' : ¬ i = k := fun q => e q.symm
      simp [e, e', hi]
  · have e : ¬ k = i := fun q => hi (q ▸ hk)
    have e' : ¬ i = k := fun q => e q.symm
    simp [e, e', hi]
-- read and write of the abstract heap
theorem up2_row {α : Type} {f : Nat → Nat → α} {a j b : Nat} {x : α} (hb : b ≠ a) : up2 f a j x b = f b := funext fun k => if_neg (fun q => hb q.1)
theorem upr_row {α : Type} {f : Nat → Nat → α} {a b : Nat} {g : Nat → α} (hb : b ≠ a) : upr f a g b = f b := if_neg hb
theorem up2_self {α : Type} {f : Nat → Nat → α} {a j k : Nat} {x : α} : up2 f a j x a k = if k = j then x else f a k := by
  by_cases e : k = j <;> simp [up2, e]
theorem hN_sI {h : AH} {a j : Nat} {x : Int32} : hN (sI h a j x) = hN h := rfl
theorem hN_sL {h : AH} {a j : Nat} {x : Int64} : hN (sL h a j x) = hN h := rfl
theorem hN_sR {h : AH} {a j : Nat} {x : Option Nat} : hN (sR h a j x) = hN h := rfl
theorem hN_rI {h : AH} {a : Nat} {g : Nat → Int32} : hN (rI h a g) = hN h := rfl
theorem hI_sI {h : AH} {a j b k : Nat} {x : Int32} : hI (sI h a j x) b k = if b = a ∧ k = j then x else hI h b k := rfl
theorem hL_sI {h : AH} {a j : Nat} {x : Int32} : hL (sI h a j x) = hL h := rfl
theorem hR_sI {h : AH} {a j : Nat} {x : Int32} : hR (sI h a j x) = hR h := rfl
theorem hI_sL {h : AH} {a j : Nat} {x : Int64} : hI (sL h a j x) = hI h := rfl
theorem hL_sL {h : AH} {a j b k : Nat} {x : Int64} : hL (sL h a j x) b k = if b = a ∧ k = j then x else hL h b k := rfl
theorem hR_sL {h : AH} {a j : Nat} {x : Int64} : hR (sL h a j x) = hR h := rfl
theorem hI_sR {h : AH} {a j : Nat} {x : Option Nat} : hI (sR h a j x) = hI h := rfl
theorem hL_sR {h : AH} {a j : Nat} {x : Option Nat} : hL (sR h a j x) = hL h := rfl
theorem hR_sR {h : AH} {a j b k : Nat} {x : Option Nat} : hR (sR h a j x) b k = if b = a ∧ k = j then x else hR h b k := rfl
theorem hI_rI {h : AH} {a b : Nat} {g : Nat → Int32} : hI (rI h a g) b = if b = a then g else hI h b := rfl
theorem hL_rI {h : AH} {a : Nat} {g : Nat → Int32} : hL (rI h a g) = hL h := rfl
theorem hR_rI {h : AH} {a : Nat} {g : Nat → Int32} : hR (rI h a g) = hR h := rfl
-- the kinds
theorem ce_obj {cls : Nat → ClassId} {ad : Nat → Nat} {h : AH} {a ci : Nat} (hs : kdA a = some (.inl ci)) : ce cls ad h a = .inr (ci, (List.range (nF ci)).map (fv ad h a ci)) := by unfold ce; rw [hs]; rfl
theorem ce_arr {cls : Nat → ClassId} {ad : Nat → Nat} {h : AH} {a t n : Nat} (hs : kdA a = some (.inr (t, n))) : ce cls ad h a = .inl (cls t, aC ad h a t n) := by unfold ce; rw [hs]; rfl
theorem kdK_ok {q : Nat} {x : Nat ⊕ (Nat × Nat)} (h : kdK q = some x) : (∀ ci, x = .inl ci → ci < 9) ∧ ∀ t n, x = .inr (t, n) → t < 8 ∧ n ≤ 4096 := by
  unfold kdK at h
  split at h
  · cases h
    refine ⟨fun ci e => ?_, fun t n e => (by cases e)⟩
    cases e
    assumption
  · split at h
    · cases h
      refine ⟨fun ci e => (by cases e), fun t n e => ?_⟩
      cases e
      omega
    · cases h
theorem shK_ok {a : Nat} {x : Nat ⊕ (Nat × Nat)} (h : shK a = some x) : (∀ ci, x = .inl ci → ci < 9) ∧ ∀ t n, x = .inr (t, n) → t < 8 ∧ n ≤ 4096 := by
  have h1 : shL.all (fun x => match x with | .inl ci => decide (ci < 9) | .inr (t, n) => decide (t < 8) && decide (n ≤ 4096)) = true := by decide +kernel
  have h2 := List.all_eq_true.mp h1 x (List.mem_of_getElem? h)
  refine ⟨fun ci e => ?_, fun t n e => ?_⟩
  · subst e; simpa using h2
  · subst e; simpa using h2
theorem kdA_ok {a : Nat} {x : Nat ⊕ (Nat × Nat)} (h : kdA a = some x) : (∀ ci, x = .inl ci → ci < 9) ∧ ∀ t n, x = .inr (t, n) → t < 8 ∧ n ≤ 4096 := by
  unfold kdA at h
  split at h
  · exact shK_ok h
  · exact kdK_ok h
theorem kdA_ci {a ci : Nat} (hs : kdA a = some (.inl ci)) : ci < 9 := (kdA_ok hs).1 ci rfl
theorem kdA_len {a t n : Nat} (hs : kdA a = some (.inr (t, n))) : t < 8 ∧ n ≤ 4096 := (kdA_ok hs).2 t n rfl
theorem shK_len {a t n : Nat} (hs : shK a = some (.inr (t, n))) : t < 8 ∧ n ≤ 4096 := (shK_ok hs).2 t n rfl
theorem vwCl_at {ci : Nat} (h : ci < 9) : vwCl[ci]? = some (cR ci, cT ci, nF ci) := by
  match ci, h with
  | 0, _ => rfl
  | 1, _ => rfl
  | 2, _ => rfl
  | 3, _ => rfl
  | 4, _ => rfl
  | 5, _ => rfl
  | 6, _ => rfl
  | 7, _ => rfl
  | 8, _ => rfl
