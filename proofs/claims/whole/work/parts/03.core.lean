/-! THE ABSTRACT MACHINE: a heap of numbered cells whose kinds stand in one table; a judgement AW over it, sound by the kit's rows -/
abbrev AH : Type := Nat × (Nat → Nat → Int32) × (Nat → Nat → Int64) × (Nat → Nat → Option Nat)
def hN (h : AH) : Nat := h.1
def hI (h : AH) : Nat → Nat → Int32 := h.2.1
def hL (h : AH) : Nat → Nat → Int64 := h.2.2.1
def hR (h : AH) : Nat → Nat → Option Nat := h.2.2.2
def up2 {α : Type} (f : Nat → Nat → α) (a j : Nat) (x : α) : Nat → Nat → α := fun b k => if b = a ∧ k = j then x else f b k
def upr {α : Type} (f : Nat → Nat → α) (a : Nat) (g : Nat → α) : Nat → Nat → α := fun b => if b = a then g else f b
def sI (h : AH) (a j : Nat) (x : Int32) : AH := (hN h, up2 (hI h) a j x, hL h, hR h)
def sL (h : AH) (a j : Nat) (x : Int64) : AH := (hN h, hI h, up2 (hL h) a j x, hR h)
def sR (h : AH) (a j : Nat) (x : Option Nat) : AH := (hN h, hI h, hL h, up2 (hR h) a j x)
def rI (h : AH) (a : Nat) (g : Nat → Int32) : AH := (hN h, upr (hI h) a g, hL h, hR h)
def nw (h : AH) : AH := (hN h + 1, upr (hI h) (hN h) (fun _ => 0), upr (hL h) (hN h) (fun _ => 0), upr (hR h) (hN h) (fun _ => none))
def nwM (h : AH) (n : Nat) : AH := (hN h + 1 + n, (fun b => if hN h ≤ b ∧ b ≤ hN h + n then (fun _ => 0) else hI h b), (fun b => if hN h ≤ b ∧ b ≤ hN h + n then (fun _ => 0) else hL h b),
  (fun b => if b = hN h then (fun i => if i < n then some (hN h + 1 + i) else none) else if hN h < b ∧ b ≤ hN h + n then (fun _ => none) else hR h b))
/-- the kinds of the cells, in the order of their making: .inl class, .inr (0 int, 1 byte, 2 boolean, 3 long, 4 Sheet, 5 int[] rows; length) -/
def shL : List (Nat ⊕ (Nat × Nat)) :=
  [.inl 4, .inr (1, 400), .inl 3, .inr (0, 96), .inr (0, 12), .inr (0, 24), .inr (4, 8), .inl 2, .inl 3, .inr (0, 96), .inr (0, 12), .inr (0, 24), .inr (1, 400),
   .inl 0, .inr (3, 24), .inr (0, 48), .inl 1, .inl 0, .inr (3, 24), .inr (0, 48), .inr (3, 8), .inr (3, 96), .inr (5, 8),
   .inr (0, 96), .inr (0, 96), .inr (0, 96), .inr (0, 96), .inr (0, 96), .inr (0, 96), .inr (0, 96), .inr (0, 96), .inr (0, 9), .inr (0, 8), .inr (0, 8),
   .inl 3, .inr (0, 96), .inr (0, 12), .inr (0, 24), .inl 3, .inr (0, 96), .inr (0, 12), .inr (0, 24), .inl 3, .inr (0, 96), .inr (0, 12), .inr (0, 24), .inl 3, .inr (0, 96), .inr (0, 12), .inr (0, 24),
   .inl 3, .inr (0, 96), .inr (0, 12), .inr (0, 24), .inl 3, .inr (0, 96), .inr (0, 12), .inr (0, 24), .inl 3, .inr (0, 96), .inr (0, 12), .inr (0, 24), .inl 3, .inr (0, 96), .inr (0, 12), .inr (0, 24),
   .inl 5, .inr (0, 400), .inr (0, 186), .inr (0, 186), .inr (0, 186), .inr (5, 8), .inr (0, 186), .inr (0, 186), .inr (0, 186), .inr (0, 186), .inr (0, 186), .inr (0, 186), .inr (0, 186), .inr (0, 186),
   .inr (0, 48), .inr (2, 48), .inr (0, 9), .inr (0, 8), .inr (0, 8), .inr (0, 8), .inr (3, 9), .inr (3, 4096), .inr (0, 8), .inr (3, 1)]
def shK (a : Nat) : Option (Nat ⊕ (Nat × Nat)) := shL[a]?
def nF (ci : Nat) : Nat := match ci with | 0 => 4 | 1 => 10 | 2 => 10 | 3 => 10 | 4 => 10 | _ => 27
def fT (ci : Nat) : Nat → FieldType := match ci with | 0 => tyX0 | 1 => tyX1 | 2 => tyX2 | 3 => tyX3 | 4 => tyX4 | _ => tyX5
def cT (ci : Nat) : u_T := match ci with | 0 => TX0 | 1 => TX1 | 2 => TX2 | 3 => TX3 | 4 => TX4 | _ => TX5
def cR (ci : Nat) : String := match ci with | 0 => RX0 | 1 => RX1 | 2 => RX2 | 3 => RX3 | 4 => RX4 | _ => RX5
def kT (ty : FieldType) : Nat := match ty with | .long => 1 | .object _ => 2 | .array _ => 2 | _ => 0
def fK (ci k : Nat) : Nat := kT (fT ci k)
def tyF (t : Nat) : FieldType := match t with | 0 => .int | 1 => .byte | 2 => .boolean | 3 => .long | 4 => .object "LetterCuts$Sheet" | _ => .array .int
def tysOf (cls : Nat → ClassId) : List (ClassId × FieldType) := [(cls 0, .int), (cls 1, .byte), (cls 2, .boolean), (cls 3, .long), (cls 4, .object "LetterCuts$Sheet"), (cls 5, .array .int)]
def fv (ad : Nat → Nat) (h : AH) (a ci k : Nat) : Value := if fK ci k = 0 then .int (hI h a k) else if fK ci k = 1 then .long (hL h a k) else va_rf ((hR h a k).map ad)
def aC (ad : Nat → Nat) (h : AH) (a t n : Nat) : vp_A := (n, if t ≤ 2 then .inl (hI h a) else if t = 3 then .inr (.inl (hL h a)) else .inr (.inr (.inr (.inr (fun j => (hR h a j).map ad)))))
def ceK (cls : Nat → ClassId) (ad : Nat → Nat) (h : AH) (a : Nat) (k : Option (Nat ⊕ (Nat × Nat))) : va_E := match k with
  | some (.inl ci) => .inr (ci, (List.range (nF ci)).map (fv ad h a ci))
  | some (.inr (t, n)) => .inl (cls t, aC ad h a t n)
  | none => .inr (0, [])
def ce (cls : Nat → ClassId) (ad : Nat → Nat) (h : AH) (a : Nat) : va_E := ceK cls ad h a (shK a)
def wld (cls : Nat → ClassId) (ad : Nat → Nat) (h : AH) : va_W := (List.range (hN h)).map (fun a => (ad a, ce cls ad h a))
def wfh (h : AH) : Prop := hN h ≤ 90 ∧ ∀ a j k, a < hN h → hR h a j = some k → k < hN h
/-- an abstract value's own value: the cells by their addresses -/
def cv (ad : Nat → Nat) : Value → Value
  | .ref a => .ref (ad a)
  | v => v
theorem cv_cat (ad : Nat → Nat) (v : Value) : (cv ad v).category = v.category := by cases v <;> rfl
-- locals
def lget (i : Nat) : List (Nat × Value) → Option Value
  | [] => none
  | q :: r => if q.1 = i then some q.2 else lget i r
def lins (i : Nat) (v : Value) : List (Nat × Value) → List (Nat × Value)
  | [] => [(i, v)]
  | q :: r => if i < q.1 then (i, v) :: q :: r else q :: lins i v r
def ls1 (i : Nat) (v : Value) (ls : List (Nat × Value)) : List (Nat × Value) := lins i v (ls.filter (fun q => !(q.1 == i) && !(q.1 + 1 == i && q.2.category == 2)))
def ls2 (i : Nat) (v : Value) (ls : List (Nat × Value)) : List (Nat × Value) := lins i v (ls.filter (fun q => !(q.1 == i) && (!(q.1 == i + 1) && !(q.1 + 1 == i && q.2.category == 2))))
def cl1 (ad : Nat → Nat) (q : Nat × Value) : Nat × Value := (q.1, cv ad q.2)
theorem lget_mem {i : Nat} {v : Value} : ∀ {ls : List (Nat × Value)}, lget i ls = some v → (i, v) ∈ ls
  | [], h => by simp [lget] at h
  | q :: r, h => by
    unfold lget at h
    split at h
    · rename_i e
      cases h
      rw [← e]
      exact List.mem_cons_self
    · exact List.mem_cons_of_mem _ (lget_mem h)
theorem lins_mem {i : Nat} {v : Value} {q : Nat × Value} : ∀ {l : List (Nat × Value)}, q ∈ lins i v l → q ∈ (i, v) :: l
  | [], h => h
  | p :: r, h => by
    unfold lins at h
    split at h
    · exact h
    · rcases List.mem_cons.mp h with rfl | h
      · simp
      · rcases List.mem_cons.mp (lins_mem h) with rfl | h
        · simp
        · exact List.mem_cons_of_mem _ (List.mem_cons_of_mem _ h)
theorem lv_has_of {A : Array Slot} {n : Nat} {l l' : List (Nat × Value)} (h : lv_has A n l) (hs : ∀ q ∈ l', q ∈ l) : lv_has A n l' := ⟨h.1, h.2.1, fun q hq => h.2.2 q (hs q hq)⟩
theorem filt_map {ad : Nat → Nat} {f : Nat × Value → Bool} (hf : ∀ q, f (cl1 ad q) = f q) (ls : List (Nat × Value)) : (ls.map (cl1 ad)).filter f = (ls.filter f).map (cl1 ad) := by
  induction ls with
  | nil => rfl
  | cons q r ih =>
    rw [List.map_cons, List.filter_cons, List.filter_cons, hf q]
    split
    · rw [ih, List.map_cons]
    · exact ih
theorem ls1_has {A : Array Slot} {n : Nat} {ad : Nat → Nat} {i : Nat} {v : Value} {ls : List (Nat × Value)} (h : lv_has A n ((i, cv ad v) :: (ls.map (cl1 ad)).filter (fun q => !(q.1 == i) && !(q.1 + 1 == i && q.2.category == 2)))) : lv_has A n ((ls1 i v ls).map (cl1 ad)) := by
  rw [filt_map (fun q => by simp only [cl1, cv_cat])] at h
  refine lv_has_of h (fun q hq => ?_)
  obtain ⟨p, hp, rfl⟩ := List.mem_map.mp hq
  rcases List.mem_cons.mp (lins_mem hp) with rfl | hp
  · exact List.mem_cons_self
  · exact List.mem_cons_of_mem _ (List.mem_map.mpr ⟨p, hp, rfl⟩)
theorem ls2_has {A : Array Slot} {n : Nat} {ad : Nat → Nat} {i : Nat} {v : Value} {ls : List (Nat × Value)} (h : lv_has A n ((i, cv ad v) :: (ls.map (cl1 ad)).filter (fun q => !(q.1 == i) && (!(q.1 == i + 1) && !(q.1 + 1 == i && q.2.category == 2))))) : lv_has A n ((ls2 i v ls).map (cl1 ad)) := by
  rw [filt_map (fun q => by simp only [cl1, cv_cat])] at h
  refine lv_has_of h (fun q hq => ?_)
  obtain ⟨p, hp, rfl⟩ := List.mem_map.mp hq
  rcases List.mem_cons.mp (lins_mem hp) with rfl | hp
  · exact List.mem_cons_self
  · exact List.mem_cons_of_mem _ (List.mem_map.mpr ⟨p, hp, rfl⟩)
theorem lget_at {A : Array Slot} {n : Nat} {ad : Nat → Nat} {i : Nat} {v : Value} {ls : List (Nat × Value)} (h : lv_has A n (ls.map (cl1 ad))) (hv : lget i ls = some v) : A[i]? = some (.val (cv ad v)) :=
  h.2.2 (i, cv ad v) (List.mem_map.mpr ⟨(i, v), lget_mem hv, rfl⟩)
-- the world's cells
theorem wld_get {cls : Nat → ClassId} {ad : Nat → Nat} {h : AH} {a : Nat} (ha : a < hN h) : (wld cls ad h)[a]? = some (ad a, ce cls ad h a) := by
  unfold wld
  rw [List.getElem?_map, List.getElem?_range ha]
  rfl
theorem wld_len {cls : Nat → ClassId} {ad : Nat → Nat} {h : AH} : (wld cls ad h).length = hN h := by simp [wld]
theorem ce_congr {cls : Nat → ClassId} {ad ad' : Nat → Nat} {h h' : AH} {a : Nat} (e1 : hI h' a = hI h a) (e2 : hL h' a = hL h a) (e3 : ∀ j, (hR h' a j).map ad' = (hR h a j).map ad) : ce cls ad' h' a = ce cls ad h a := by
  have f : ∀ ci, fv ad' h' a ci = fv ad h a ci := fun ci => funext fun k => by simp only [fv, e1, e2, e3]
  have g : ∀ t n, aC ad' h' a t n = aC ad h a t n := fun t n => by simp only [aC, e1, e2, funext e3]
  unfold ce ceK
  split
  · rw [f]
  · rw [g]
  · rfl
theorem wld_set {cls : Nat → ClassId} {ad : Nat → Nat} {h h' : AH} {a : Nat} {e : va_E} (hn : hN h' = hN h) (ho : ∀ b, b ≠ a → ce cls ad h' b = ce cls ad h b) (he : e = ce cls ad h' a) (ha : a < hN h) : (wld cls ad h).set a (ad a, e) = wld cls ad h' := by
  subst he
  apply List.ext_getElem?
  intro i
  by_cases hi : i < hN h
  · rw [wld_get (by rw [hn]; exact hi), List.getElem?_set]
    by_cases e : a = i
    · subst e
      rw [if_pos rfl, wld_len, if_pos ha]
    · rw [if_neg e, wld_get hi, ho i (fun q => e q.symm)]
  · rw [List.getElem?_eq_none (by rw [List.length_set, wld_len]; omega), List.getElem?_eq_none (by rw [wld_len, hn]; omega)]
theorem range_set {f : Nat → Value} {n k : Nat} {v : Value} (hk : k < n) : ((List.range n).map f).set k v = (List.range n).map (fun j => if j = k then v else f j) := by
  apply List.ext_getElem?
  intro i
  rw [List.getElem?_set]
  by_cases hi : i < n
  · by_cases e : k = i
    · subst e
      simp [hk]
    · have e' : ¬ i = k := fun q => e q.symm
      simp [e, e', hi]
  · have e : ¬ k = i := fun q => hi (q ▸ hk)
    have e' : ¬ i = k := fun q => e q.symm
    simp [e, e', hi]
-- read and write of the abstract heap
theorem up2_row {α : Type} {f : Nat → Nat → α} {a j b : Nat} {x : α} (hb : b ≠ a) : up2 f a j x b = f b := funext fun k => if_neg (fun q => hb q.1)
theorem upr_row {α : Type} {f : Nat → Nat → α} {a b : Nat} {g : Nat → α} (hb : b ≠ a) : upr f a g b = f b := if_neg hb
theorem up2_self {α : Type} {f : Nat → Nat → α} {a j k : Nat} {x : α} : up2 f a j x a k = if k = j then x else f a k := by
  by_cases e : k = j <;> simp [up2, e]
theorem hN_sI {h : AH} {a j : Nat} {x : Int32} : hN (sI h a j x) = hN h := rfl
theorem hN_sL {h : AH} {a j : Nat} {x : Int64} : hN (sL h a j x) = hN h := rfl
theorem hN_sR {h : AH} {a j : Nat} {x : Option Nat} : hN (sR h a j x) = hN h := rfl
theorem hN_rI {h : AH} {a : Nat} {g : Nat → Int32} : hN (rI h a g) = hN h := rfl
theorem hI_sI {h : AH} {a j b k : Nat} {x : Int32} : hI (sI h a j x) b k = if b = a ∧ k = j then x else hI h b k := rfl
theorem hL_sI {h : AH} {a j : Nat} {x : Int32} : hL (sI h a j x) = hL h := rfl
theorem hR_sI {h : AH} {a j : Nat} {x : Int32} : hR (sI h a j x) = hR h := rfl
theorem hI_sL {h : AH} {a j : Nat} {x : Int64} : hI (sL h a j x) = hI h := rfl
theorem hL_sL {h : AH} {a j b k : Nat} {x : Int64} : hL (sL h a j x) b k = if b = a ∧ k = j then x else hL h b k := rfl
theorem hR_sL {h : AH} {a j : Nat} {x : Int64} : hR (sL h a j x) = hR h := rfl
theorem hI_sR {h : AH} {a j : Nat} {x : Option Nat} : hI (sR h a j x) = hI h := rfl
theorem hL_sR {h : AH} {a j : Nat} {x : Option Nat} : hL (sR h a j x) = hL h := rfl
theorem hR_sR {h : AH} {a j b k : Nat} {x : Option Nat} : hR (sR h a j x) b k = if b = a ∧ k = j then x else hR h b k := rfl
theorem hI_rI {h : AH} {a b : Nat} {g : Nat → Int32} : hI (rI h a g) b = if b = a then g else hI h b := rfl
theorem hL_rI {h : AH} {a : Nat} {g : Nat → Int32} : hL (rI h a g) = hL h := rfl
theorem hR_rI {h : AH} {a : Nat} {g : Nat → Int32} : hR (rI h a g) = hR h := rfl
-- the kinds
theorem ce_obj {cls : Nat → ClassId} {ad : Nat → Nat} {h : AH} {a ci : Nat} (hs : shK a = some (.inl ci)) : ce cls ad h a = .inr (ci, (List.range (nF ci)).map (fv ad h a ci)) := by unfold ce; rw [hs]; rfl
theorem ce_arr {cls : Nat → ClassId} {ad : Nat → Nat} {h : AH} {a t n : Nat} (hs : shK a = some (.inr (t, n))) : ce cls ad h a = .inl (cls t, aC ad h a t n) := by unfold ce; rw [hs]; rfl
theorem shK_ci {a ci : Nat} (hs : shK a = some (.inl ci)) : ci < 6 := by
  have h : ∀ k : Fin 90, ∀ ci, shK k.val = some (.inl ci) → ci < 6 := by
    intro k ci h
    have hm : (Sum.inl ci : Nat ⊕ (Nat × Nat)) ∈ shL := List.mem_of_getElem? h
    simp [shL] at hm
    omega
  have ha : a < 90 := by
    have := (List.getElem?_eq_some_iff.mp hs).1
    simpa [shL] using this
  exact h ⟨a, ha⟩ ci hs
theorem vwCl_at {ci : Nat} (h : ci < 6) : vwCl[ci]? = some (cR ci, cT ci, nF ci) := by
  match ci, h with
  | 0, _ => rfl
  | 1, _ => rfl
  | 2, _ => rfl
  | 3, _ => rfl
  | 4, _ => rfl
  | 5, _ => rfl
