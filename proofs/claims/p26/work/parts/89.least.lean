/-! the least plan by length and codes is the best plan -/
def cds (s : SH) (l : List (Nat × Nat)) (i : Nat) : Nat := cdN (l.getD i (0, 0)).1 ((l.getD i (0, 0)).2 / 48) (qpl s (l.getD i (0, 0)).2)
def lenB (b : Option (List (Nat × Nat))) : Nat := match b with
  | none => 99
  | some m => m.length
/-- l is ahead of what is held -/
def ahd (s : SH) (l : List (Nat × Nat)) (b : Option (List (Nat × Nat))) : Prop := match b with
  | none => True
  | some m => aheadP l.length m.length (cds s l) (cds s m)
theorem ahd_irr {s : SH} {l : List (Nat × Nat)} : ¬ ahd s l (some l) := by
  rintro (z | ⟨-, i, -, -, z⟩) <;> omega
theorem ahd_trans {s : SH} {x l : List (Nat × Nat)} {b : Option (List (Nat × Nat))} (h1 : ahd s x (some l)) (h2 : ahd s l b) : ahd s x b := by
  cases b with
  | none => exact trivial
  | some m =>
    rcases h1 with z1 | ⟨e1, i, i1, i2, i3⟩
    · rcases h2 with z2 | ⟨e2, -⟩
      · exact Or.inl (Nat.lt_trans z1 z2)
      · exact Or.inl (by omega)
    · rcases h2 with z2 | ⟨e2, j, j1, j2, j3⟩
      · exact Or.inl (by omega)
      · refine Or.inr ⟨by omega, ?_⟩
        rcases Nat.lt_trichotomy i j with y | y | y
        · exact ⟨i, i1, fun a ha => (i2 a ha).trans (j2 a (by omega)), by rw [← j2 i y]; exact i3⟩
        · subst y
          exact ⟨i, i1, fun a ha => (i2 a ha).trans (j2 a ha), by omega⟩
        · exact ⟨j, by omega, fun a ha => (i2 a (by omega)).trans (j2 a ha), by rw [i2 j y]; exact j3⟩
theorem ahd_long {s : SH} {l : List (Nat × Nat)} {b : Option (List (Nat × Nat))} (h9 : l.length < 99) (h : lenB b < l.length) : ¬ ahd s l b := by
  cases b with
  | none => exact absurd h (by show ¬ 99 < _; omega)
  | some m =>
    have h : m.length < l.length := h
    rintro (z | ⟨z, -⟩) <;> omega
theorem pq_lt {s : SH} (g : GS s) {sd sd2 p p2 : Nat} (h1 : sd < 2) (h2 : sd2 < 2) (hp : p < sCells s) (hp2 : p2 < sCells s) : pq s sd p < pq s sd2 p2 ↔ sd < sd2 ∨ (sd = sd2 ∧ p < p2) := by
  have gw := g.1
  have gh := g.2.1
  obtain ⟨a1, a2, a3⟩ := pl_ok g hp
  obtain ⟨b1, b2, b3⟩ := pl_ok g hp2
  have key : ∀ x y, x < sCells s → y < sCells s → x < y → 8 * (x / sW s) + x % sW s < 8 * (y / sW s) + y % sW s := fun x y hx hy h => by
    obtain ⟨c1, c2, c3⟩ := pl_ok g hx
    obtain ⟨d1, d2, d3⟩ := pl_ok g hy
    have := Nat.div_le_div_right (c := sW s) (Nat.le_of_lt h)
    rcases Nat.lt_or_ge (x / sW s) (y / sW s) with z | z
    · omega
    · have e : x / sW s = y / sW s := by omega
      rw [e] at c3 ⊢
      omega
  have k1 := key p p2 hp hp2
  have k2 := key p2 p hp2 hp
  unfold pq
  constructor
  · intro z
    rcases Nat.lt_trichotomy sd sd2 with y | y | y
    · exact Or.inl y
    · refine Or.inr ⟨y, ?_⟩
      rcases Nat.lt_trichotomy p p2 with w | w | w
      · exact w
      · subst w; subst y; omega
      · have := k2 w; omega
    · omega
  · rintro (y | ⟨y, w⟩)
    · omega
    · have := k1 w; omega
theorem cd_lt {s : SH} (g : GS s) {n n2 q q2 : Nat} (hn : 1 ≤ n ∧ n ≤ 8) (hn2 : 1 ≤ n2 ∧ n2 ≤ 8) (hq : q < 96) (hq2 : q2 < 96) (hh : qhas s q) (hh2 : qhas s q2) : cdN n (q / 48) (qpl s q) < cdN n2 (q2 / 48) (qpl s q2) ↔ n2 < n ∨ (n2 = n ∧ q < q2) := by
  obtain ⟨a1, a2, a3⟩ := q_pq g hq hh
  obtain ⟨b1, b2, b3⟩ := q_pq g hq2 hh2
  have k := pq_lt g a1 b1 a2 b2
  rw [a3, b3] at k
  have gw := g.1
  have gh := g.2.1
  have c48 : sCells s ≤ 48 := Nat.mul_le_mul gw.2 gh.2
  rw [k]
  unfold cdN
  omega
theorem stOK_has {s : SH} (g : GS s) {k q n : Nat} {X : Nat → Prop} (h : stOK s k q n X) : qhas s q ∧ n ≤ 8 ∧ q % 8 + n ≤ sW s := by
  have gw := g.1
  obtain ⟨h1, h2⟩ := qrun_ok h.2.2.1
  have h3 := h2 (by have := h.1.1; omega)
  exact ⟨qhas_of_lt (h1 0 (by have := h.1.1; omega)).2.1, by omega, h3⟩
theorem cds_0 {s : SH} {n q : Nat} {r : List (Nat × Nat)} : cds s ((n, q) :: r) 0 = cdN n (q / 48) (qpl s q) := rfl
theorem cds_s {s : SH} {n q i : Nat} {r : List (Nat × Nat)} : cds s ((n, q) :: r) (i + 1) = cds s r i := rfl
theorem ahd_cons {s : SH} {n q : Nat} {r r2 : List (Nat × Nat)} (h : ahd s r2 (some r)) : ahd s ((n, q) :: r2) (some ((n, q) :: r)) := by
  rcases h with z | ⟨e, i, i1, i2, i3⟩
  · exact Or.inl (by show r2.length + 1 < r.length + 1; omega)
  · refine Or.inr ⟨by show r2.length + 1 = r.length + 1; omega, i + 1, by show i + 1 < r2.length + 1; omega, fun j hj => ?_, by rw [cds_s, cds_s]; exact i3⟩
    cases j with
    | zero => rfl
    | succ j => rw [cds_s, cds_s]; exact i2 j (by omega)
theorem min_GP {s : SH} (g : GS s) : ∀ (l : List (Nat × Nat)) {k : Nat} {X : Nat → Prop}, plV s k X l → (∀ l2, plV s k X l2 → ¬ ahd s l2 (some l)) → GP s k X l.length l
  | [], _, _, h, _ => h
  | (n, q) :: r, k, X, h, hm => by
    refine ⟨⟨⟨h.1, r, h.2, Nat.le_refl _⟩, fun n2 q2 hk => ?_⟩, min_GP g r h.2 (fun r2 h2 z => hm ((n, q) :: r2) ⟨h.1, h2⟩ (ahd_cons z))⟩
    obtain ⟨k1, l0, k2, k3⟩ := hk
    have hno := hm ((n2, q2) :: l0) ⟨k1, k2⟩
    have k3 : l0.length + 1 ≤ r.length + 1 := k3
    have hlen : ¬ l0.length + 1 < r.length + 1 := fun z => hno (Or.inl z)
    have hcd : ¬ cdN n2 (q2 / 48) (qpl s q2) < cdN n (q / 48) (qpl s q) := fun z => hno (Or.inr ⟨by show l0.length + 1 = r.length + 1; omega, 0, Nat.succ_pos _, fun j hj => absurd hj (Nat.not_lt_zero j), z⟩)
    have s1 := stOK_has g h.1
    have s2 := stOK_has g k1
    rw [cd_lt g ⟨k1.1.1, s2.2.1⟩ ⟨h.1.1.1, s1.2.1⟩ k1.1.2 h.1.1.2 s2.1 s1.1] at hcd
    omega
theorem min_BP {s : SH} (g : GS s) {X : Nat → Prop} {l : List (Nat × Nat)} (h : plV s 0 X l) (hm : ∀ l2, plV s 0 X l2 → ¬ ahd s l2 (some l)) : BP s X l :=
  ⟨l.length, fun l0 h0 => Nat.le_of_not_lt fun z => hm l0 h0 (Or.inl z), min_GP g l h hm, rfl⟩
/-- what tries leaves -/
def PT (s : SH) (pre : List (Nat × Nat)) (f : Nat) (b b2 : Option (List (Nat × Nat))) : Prop := (b2 = b ∨ ∃ l, plV s f (plC s pre) l ∧ b2 = some (pre ++ l)) ∧ (∀ x, ¬ ahd s x b → ¬ ahd s x b2) ∧ ∀ l, plV s f (plC s pre) l → ¬ ahd s (pre ++ l) b2
/-- and underway: the strips D have been tried -/
def PU (s : SH) (pre : List (Nat × Nat)) (f : Nat) (b b2 : Option (List (Nat × Nat))) (D : Nat → Nat → Nat → Prop) : Prop := (b2 = b ∨ ∃ l, plV s f (plC s pre) l ∧ b2 = some (pre ++ l)) ∧ (∀ x, ¬ ahd s x b → ¬ ahd s x b2) ∧ ∀ sd p n, sd < 2 → p < sCells s → D sd p n → stOK s f (pq s sd p) n (plC s pre) → ∀ l, plV s (f + n) (uX (plC s pre) (pcl s (pq s sd p) n)) l → ¬ ahd s (pre ++ (n, pq s sd p) :: l) b2
theorem PU_0 {s : SH} {pre : List (Nat × Nat)} {f : Nat} {b : Option (List (Nat × Nat))} {D : Nat → Nat → Nat → Prop} (hD : ∀ sd p n, sd < 2 → p < sCells s → ¬ D sd p n) : PU s pre f b b D := ⟨Or.inl rfl, fun _ h => h, fun sd p n h1 h2 h3 => absurd h3 (hD sd p n h1 h2)⟩
theorem PU_mono {s : SH} {pre : List (Nat × Nat)} {f : Nat} {b b2 : Option (List (Nat × Nat))} {D D2 : Nat → Nat → Nat → Prop} (h : PU s pre f b b2 D) (hD : ∀ sd p n, sd < 2 → p < sCells s → D2 sd p n → D sd p n ∨ ¬ stOK s f (pq s sd p) n (plC s pre)) : PU s pre f b b2 D2 := ⟨h.1, h.2.1, fun sd p n h1 h2 h3 h4 => h.2.2 sd p n h1 h2 ((hD sd p n h1 h2 h3).resolve_right (fun z => z h4)) h4⟩
theorem PU_step {s : SH} {pre : List (Nat × Nat)} {f sd p n : Nat} {b b2 b3 : Option (List (Nat × Nat))} {D D2 : Nat → Nat → Nat → Prop} (h : PU s pre f b b2 D) (hst : stOK s f (pq s sd p) n (plC s pre)) (t : PT s (pre ++ [(n, pq s sd p)]) (f + n) b2 b3) (hD : ∀ sd2 p2 n2, sd2 < 2 → p2 < sCells s → D2 sd2 p2 n2 → D sd2 p2 n2 ∨ (sd2 = sd ∧ p2 = p ∧ n2 = n)) : PU s pre f b b3 D2 := by
  have eC : plC s (pre ++ [(n, pq s sd p)]) = uX (plC s pre) (pcl s (pq s sd p) n) := plC_app pre
  obtain ⟨t1, t2, t3⟩ := t
  rw [eC] at t1 t3
  refine ⟨?_, fun x hx => t2 x (h.2.1 x hx), fun sd2 p2 n2 h1 h2 h3 h4 l hl => ?_⟩
  · rcases t1 with rfl | ⟨l, y1, y2⟩
    · exact h.1
    · exact Or.inr ⟨(n, pq s sd p) :: l, ⟨hst, y1⟩, by rw [y2, List.append_assoc]; rfl⟩
  · rcases hD sd2 p2 n2 h1 h2 h3 with y | ⟨rfl, rfl, rfl⟩
    · exact t2 _ (h.2.2 sd2 p2 n2 h1 h2 y h4 l hl)
    · have := t3 l hl
      rw [List.append_assoc] at this
      exact this
theorem PU_end {s : SH} (g : GS s) {pre : List (Nat × Nat)} {f : Nat} {b b2 : Option (List (Nat × Nat))} (hf : f < sLen s) (h : PU s pre f b b2 (fun _ _ _ => True)) : PT s pre f b b2 := by
  refine ⟨h.1, h.2.1, fun l hl => ?_⟩
  cases l with
  | nil => exact absurd (show f = sLen s from hl) (by omega)
  | cons c r =>
    obtain ⟨n, q⟩ := c
    have hs := stOK_has g hl.1
    obtain ⟨a1, a2, a3⟩ := q_pq g hl.1.1.2 hs.1
    have := h.2.2 (q / 48) (qpl s q) n a1 a2 trivial (by rw [a3]; exact hl.1) r (by rw [a3]; exact hl.2)
    rw [a3] at this
    exact this
theorem PT_cut {s : SH} {pre : List (Nat × Nat)} {f : Nat} {b : Option (List (Nat × Nat))} (hl : lenB b < pre.length) (h9 : pre.length + sLen s < 99) : PT s pre f b b := ⟨Or.inl rfl, fun _ h => h, fun l h => ahd_long (by have := plV_le h; rw [List.length_append]; omega) (by rw [List.length_append]; omega)⟩
theorem plV_end {s : SH} {X : Nat → Prop} {l : List (Nat × Nat)} (h : plV s (sLen s) X l) : l = [] := by
  have := plV_le h
  cases l with
  | nil => rfl
  | cons c r => rw [List.length_cons] at this; omega
theorem PT_end {s : SH} {pre : List (Nat × Nat)} {b : Option (List (Nat × Nat))} : (ahd s pre b → PT s pre (sLen s) b (some pre)) ∧ (¬ ahd s pre b → PT s pre (sLen s) b b) :=
  ⟨fun h => ⟨Or.inr ⟨[], rfl, by rw [List.append_nil]⟩, fun x hx z => hx (ahd_trans z h), fun l hl => by rw [plV_end hl, List.append_nil]; exact ahd_irr⟩,
   fun h => ⟨Or.inl rfl, fun _ h => h, fun l hl => by rw [plV_end hl, List.append_nil]; exact h⟩⟩
