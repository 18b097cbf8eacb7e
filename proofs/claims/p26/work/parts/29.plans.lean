/-! plans: the mathematics -/
def pcl (s : SH) (q n : Nat) : Nat → Prop := fun b => ∃ j, j < n ∧ b = qcell s (q + j)
def uX (X Y : Nat → Prop) : Nat → Prop := fun b => X b ∨ Y b
/-- a strip of n letters from spot q on bears the letters from k on, and takes nothing of X -/
def stOK (s : SH) (k q n : Nat) (X : Nat → Prop) : Prop := (1 ≤ n ∧ q < 96) ∧ k + n ≤ sLen s ∧ n ≤ qrun s k q ∧ ∀ b, pcl s q n b → ¬ X b
/-- cuts (letters, spot) for the letters from k on, in their order -/
def plV (s : SH) : Nat → (Nat → Prop) → List (Nat × Nat) → Prop
  | k, _, [] => k = sLen s
  | k, X, (n, q) :: r => stOK s k q n X ∧ plV s (k + n) (uX X (pcl s q n)) r
def plC (s : SH) : List (Nat × Nat) → Nat → Prop
  | [] => fun _ => False
  | (n, q) :: r => uX (pcl s q n) (plC s r)
/-- cells of their own for the letters A, none of X -/
def SS (s : SH) (A X : Nat → Prop) : Prop := ∃ f : Nat → Nat, (∀ k, A k → cwP s (msA s k) (f k) ∧ ¬ X (f k)) ∧ ∀ i j, A i → A j → f i = f j → i = j
theorem SS.mono {s : SH} {A A2 X X2 : Nat → Prop} (h : SS s A X) (ha : ∀ i, A2 i → A i) (hx : ∀ b, X2 b → X b) : SS s A2 X2 := by
  obtain ⟨f, h1, h2⟩ := h
  exact ⟨f, fun k hk => ⟨(h1 k (ha k hk)).1, fun z => (h1 k (ha k hk)).2 (hx _ z)⟩, fun i j a b => h2 i j (ha i a) (ha j b)⟩
def PA (s : SH) (k : Nat) (A X : Nat → Prop) (l : List (Nat × Nat)) : Prop := plV s k X l ∧ SS s A (uX X (plC s l))
def PZ (s : SH) (k : Nat) (A X : Nat → Prop) (z : Int) : Prop := ∃ l, PA s k A X l ∧ (l.length : Int) + z + k ≤ sLen s
theorem qrun_ok {s : SH} {f q n : Nat} (h : n ≤ qrun s f q) : (∀ j, j < n → okr s f q j) ∧ (0 < n → q % 8 + n ≤ sW s) := by
  have h1 := (runF_le (okr s f q) (sW s - q % 8) 0).2
  have h : n ≤ runF (okr s f q) (sW s - q % 8) 0 := h
  exact ⟨fun j hj => runF_ok _ _ 0 j (Nat.zero_le _) (Nat.lt_of_lt_of_le hj h), fun hn => by omega⟩
theorem qrun_ge {s : SH} {f q n : Nat} (h : ∀ j, j < n → okr s f q j) (hn : q % 8 + n ≤ sW s) : n ≤ qrun s f q := by
  rcases Nat.lt_or_ge (qrun s f q) n with z | z
  · exfalso
    have h2 := runF_max (okr s f q) (sW s - q % 8) 0
    have z : runF (okr s f q) (sW s - q % 8) 0 < n := z
    exact h2 (by omega) (h _ z)
  · exact z
theorem qcell_in {s : SH} (g : GS s) {q i j : Nat} (hq : q < 96) (h : q % 8 + j < sW s) (hij : i ≤ j) (e : qcell s (q + i) = qcell s (q + j)) : i = j := by
  have gw := g.1
  unfold qcell at e
  rcases Nat.lt_or_ge q 48 with z | z
  · rw [if_pos (by omega), if_pos (by omega)] at e; omega
  · rw [if_neg (by omega), if_neg (by omega)] at e; omega
theorem strip_cw {s : SH} (g : GS s) {k q n : Nat} {X : Nat → Prop} (h : stOK s k q n X) : (∀ j, j < n → cwP s (msA s (k + j)) (qcell s (q + j))) ∧ ∀ i j, i < n → j < n → qcell s (q + i) = qcell s (q + j) → i = j := by
  have gw := g.1
  obtain ⟨h1, h2⟩ := qrun_ok h.2.2.1
  have h3 := h2 (by have := h.1.1; omega)
  have hq := h.1.2
  refine ⟨fun j hj => ⟨q + j, by omega, h1 j hj, rfl⟩, fun i j hi hj e => ?_⟩
  rcases Nat.le_total i j with z | z
  · exact qcell_in g hq (by omega) z e
  · exact (qcell_in g hq (by omega) z e.symm).symm
theorem single_ok {s : SH} {k q : Nat} {X : Nat → Prop} (hk : k < sLen s) (hq : q < 96) (h : qlt s q = msA s k ∧ qcu s q) (hx : ¬ X (qcell s q)) : stOK s k q 1 X := by
  have hh := (qhas_of_lt h.2.1).2
  refine ⟨⟨Nat.le_refl _, hq⟩, by omega, qrun_ge (fun j hj => ?_) (by omega), fun b ⟨j, hj, e⟩ => ?_⟩
  · have e : j = 0 := by omega
    subst e; exact h
  · have e2 : j = 0 := by omega
    subst e2; rw [e]; exact hx
theorem uX_comm (X Y Z : Nat → Prop) : uX (uX X Y) Z = uX (uX X Z) Y := by
  funext b; apply propext
  exact ⟨fun h => by rcases h with (h | h) | h <;> simp [uX, h], fun h => by rcases h with (h | h) | h <;> simp [uX, h]⟩
theorem uX_assoc (X Y Z : Nat → Prop) : uX (uX X Y) Z = uX X (uX Y Z) := by
  funext b; apply propext
  exact ⟨fun h => by rcases h with (h | h) | h <;> simp [uX, h], fun h => by rcases h with h | h | h <;> simp [uX, h]⟩
theorem plV_mono {s : SH} : ∀ {l : List (Nat × Nat)} {k : Nat} {X Y : Nat → Prop}, (∀ b, Y b → X b) → plV s k X l → plV s k Y l
  | [], _, _, _, _, h => h
  | (n, q) :: r, k, X, Y, hxy, h => ⟨⟨h.1.1, h.1.2.1, h.1.2.2.1, fun b hb z => h.1.2.2.2 b hb (hxy b z)⟩, plV_mono (fun b hb => hb.imp (hxy b) id) h.2⟩
theorem plV_disj {s : SH} : ∀ {l : List (Nat × Nat)} {k : Nat} {X : Nat → Prop}, plV s k X l → ∀ b, plC s l b → ¬ X b
  | [], _, _, _, b, hb => hb.elim
  | (n, q) :: r, k, X, h, b, hb => hb.elim (h.1.2.2.2 b) (fun z x => plV_disj h.2 b z (Or.inl x))
theorem plV_add {s : SH} : ∀ {l : List (Nat × Nat)} {k : Nat} {X Y : Nat → Prop}, plV s k X l → (∀ b, plC s l b → ¬ Y b) → plV s k (uX X Y) l
  | [], _, _, _, h, _ => h
  | (n, q) :: r, k, X, Y, h, hy => ⟨⟨h.1.1, h.1.2.1, h.1.2.2.1, fun b hb z => z.elim (h.1.2.2.2 b hb) (hy b (Or.inl hb))⟩, by
    rw [uX_comm]; exact plV_add h.2 fun b hb => hy b (Or.inr hb)⟩
theorem plV_le {s : SH} : ∀ {l : List (Nat × Nat)} {k : Nat} {X : Nat → Prop}, plV s k X l → k + l.length ≤ sLen s
  | [], k, _, h => by have h : k = sLen s := h; show k + 0 ≤ _; omega
  | (n, q) :: r, k, X, h => by have h1 := plV_le h.2; have := h.1.1.1; show k + (r.length + 1) ≤ _; omega
/-- a plan gives each letter a cell -/
theorem PA_SS {s : SH} (g : GS s) : ∀ {l : List (Nat × Nat)} {k : Nat} {A X : Nat → Prop}, (∀ i, A i → i < k) → PA s k A X l → SS s (fun i => (k ≤ i ∧ i < sLen s) ∨ A i) X
  | [], k, A, X, ha, h => by
    have e : k = sLen s := h.1
    exact h.2.mono (fun i hi => hi.elim (fun z => absurd z.2 (by omega)) id) (fun b hb => Or.inl hb)
  | (n, q) :: r, k, A, X, ha, h => by
    obtain ⟨⟨h1, h2⟩, h3⟩ := h
    obtain ⟨f, f1, f2⟩ := PA_SS g (k := k + n) (A := A) (X := uX X (pcl s q n)) (l := r) (fun i hi => by have := ha i hi; omega) ⟨h2, by rw [uX_assoc]; exact h3⟩
    obtain ⟨c1, c2⟩ := strip_cw g h1
    refine ⟨fun i => if k ≤ i ∧ i < k + n then qcell s (q + (i - k)) else f i, fun i hi => ?_, fun i j hi hj e => ?_⟩
    · by_cases z : k ≤ i ∧ i < k + n
      · simp only [if_pos z]
        have := c1 (i - k) (by omega)
        rw [show k + (i - k) = i by omega] at this
        exact ⟨this, fun y => h1.2.2.2 _ ⟨i - k, by omega, rfl⟩ y⟩
      · simp only [if_neg z]
        have := f1 i (hi.elim (fun y => Or.inl (by omega)) Or.inr)
        exact ⟨this.1, fun y => this.2 (Or.inl y)⟩
    · have out : ∀ i, ((k ≤ i ∧ i < sLen s) ∨ A i) → ¬ (k ≤ i ∧ i < k + n) → (k + n ≤ i ∧ i < sLen s) ∨ A i := fun i hi z => hi.elim (fun y => Or.inl (by omega)) Or.inr
      by_cases zi : k ≤ i ∧ i < k + n
      · by_cases zj : k ≤ j ∧ j < k + n
        · simp only [if_pos zi, if_pos zj] at e
          have := c2 _ _ (by omega) (by omega) e
          omega
        · simp only [if_pos zi, if_neg zj] at e
          exact absurd (Or.inr ⟨i - k, by omega, e.symm⟩) (f1 j (out j hj zj)).2
      · by_cases zj : k ≤ j ∧ j < k + n
        · simp only [if_neg zi, if_pos zj] at e
          exact absurd (Or.inr ⟨j - k, by omega, e⟩) (f1 i (out i hi zi)).2
        · simp only [if_neg zi, if_neg zj] at e
          exact f2 i j (out i hi zi) (out j hj zj) e
/-- cells for all letters give the plan of single letters -/
theorem SS_PA {s : SH} : ∀ (m : Nat) {k : Nat} {A X : Nat → Prop}, k + m = sLen s → (∀ i, A i → i < k) → SS s (fun i => (k ≤ i ∧ i < sLen s) ∨ A i) X → ∃ l, PA s k A X l ∧ l.length = m
  | 0, k, A, X, hk, ha, h => ⟨[], ⟨by show k = sLen s; omega, h.mono (fun i hi => Or.inr hi) (fun b hb => hb.elim id (fun z => z.elim))⟩, rfl⟩
  | m + 1, k, A, X, hk, ha, ⟨f, f1, f2⟩ => by
    have hkl : k < sLen s := by omega
    obtain ⟨⟨q, q1, q2, q3⟩, q4⟩ := f1 k (Or.inl ⟨Nat.le_refl _, hkl⟩)
    have hst := single_ok (X := X) hkl q1 q2 (q3 ▸ q4)
    have hp : ∀ b, pcl s q 1 b → b = f k := fun b ⟨j, hj, e⟩ => by
      have e2 : j = 0 := by omega
      subst e2; rw [q3]; exact e
    obtain ⟨l, ⟨l1, l2⟩, l3⟩ := SS_PA m (k := k + 1) (A := A) (X := uX X (pcl s q 1)) (by omega) (fun i hi => by have := ha i hi; omega) ⟨f, fun i hi => by
      have hi2 : (k ≤ i ∧ i < sLen s) ∨ A i := hi.elim (fun z => Or.inl ⟨by omega, z.2⟩) Or.inr
      have hik : i ≠ k := by rcases hi with z | z; omega; have := ha i z; omega
      exact ⟨(f1 i hi2).1, fun z => z.elim (f1 i hi2).2 (fun y => hik (f2 i k hi2 (Or.inl ⟨Nat.le_refl _, hkl⟩) (hp _ y)))⟩, fun i j hi hj => f2 i j (hi.elim (fun z => Or.inl ⟨by omega, z.2⟩) Or.inr) (hj.elim (fun z => Or.inl ⟨by omega, z.2⟩) Or.inr)⟩
    exact ⟨(1, q) :: l, ⟨⟨hst, l1⟩, by rw [uX_assoc] at l2; exact l2⟩, by simp [l3]⟩
/-- a plan that saves cuts has a first strip of two letters or more; those before it are cut alone -/
theorem PA_first {s : SH} (g : GS s) : ∀ {l : List (Nat × Nat)} {k : Nat} {A X : Nat → Prop} {z : Int}, (∀ i, A i → i < k) → PA s k A X l → (l.length : Int) + z + k ≤ sLen s → 0 < z →
    ∃ a q n, k ≤ a ∧ 2 ≤ n ∧ stOK s a q n X ∧ PZ s (a + n) (fun i => A i ∨ (k ≤ i ∧ i < a)) (uX X (pcl s q n)) (z - n + 1)
  | [], k, A, X, z, ha, h, hz, h0 => by
    have e : k = sLen s := h.1
    have hz : (0 : Int) + z + k ≤ sLen s := hz
    omega
  | (n, q) :: r, k, A, X, z, ha, ⟨⟨h1, h2⟩, h3⟩, hz, h0 => by
    have hz : ((r.length + 1 : Nat) : Int) + z + k ≤ sLen s := hz
    have hn := h1.1.1
    rcases Nat.lt_or_ge n 2 with zn | zn
    · have e : n = 1 := by omega
      subst e
      have h3' : SS s A (uX (uX X (pcl s q 1)) (plC s r)) := by rw [uX_assoc]; exact h3
      obtain ⟨f, f1, f2⟩ := h3'
      obtain ⟨c1, -⟩ := strip_cw g h1
      have hss : SS s (fun i => A i ∨ i = k) (uX X (plC s r)) := by
        have hin : pcl s q 1 (qcell s q) := ⟨0, by omega, rfl⟩
        refine ⟨fun i => if i = k then qcell s q else f i, fun i hi => ?_, fun i j hi hj e => ?_⟩
        · by_cases zi : i = k
          · simp only [if_pos zi]
            refine ⟨?_, fun y => y.elim (h1.2.2.2 _ hin) (fun y => plV_disj h2 _ y (Or.inr hin))⟩
            rw [zi]; exact c1 0 (by omega)
          · simp only [if_neg zi]
            have := f1 i (hi.resolve_right zi)
            exact ⟨this.1, fun y => this.2 (y.imp Or.inl id)⟩
        · by_cases zi : i = k
          · by_cases zj : j = k
            · omega
            · simp only [if_pos zi, if_neg zj] at e
              exact absurd (Or.inl (Or.inr (e ▸ hin))) (f1 j (hj.resolve_right zj)).2
          · by_cases zj : j = k
            · simp only [if_neg zi, if_pos zj] at e
              exact absurd (Or.inl (Or.inr (e.symm ▸ hin))) (f1 i (hi.resolve_right zi)).2
            · simp only [if_neg zi, if_neg zj] at e
              exact f2 i j (hi.resolve_right zi) (hj.resolve_right zj) e
      obtain ⟨a, q2, n2, b1, b2, b3, l, ⟨b4, b5⟩, b6⟩ := PA_first g (l := r) (k := k + 1) (A := fun i => A i ∨ i = k) (X := X) (z := z) (fun i hi => by rcases hi with y | y; have := ha i y; omega; omega) ⟨plV_mono (fun b hb => Or.inl hb) h2, hss⟩ (by omega) h0
      exact ⟨a, q2, n2, by omega, b2, b3, l, ⟨b4, b5.mono (fun i hi => by rcases hi with y | y; exact Or.inl (Or.inl y); by_cases e : i = k; exact Or.inl (Or.inr e); exact Or.inr (by omega)) (fun b hb => hb)⟩, b6⟩
    · refine ⟨k, q, n, Nat.le_refl _, zn, h1, r, ⟨h2, ?_⟩, by omega⟩
      rw [uX_assoc]
      exact h3.mono (fun i hi => hi.elim id (fun y => absurd y (by omega))) (fun b hb => hb)
/-- and the other way round -/
theorem PZ_of {s : SH} : ∀ (m : Nat) {k a q n : Nat} {A X : Nat → Prop} {z : Int}, k + m = a → (∀ i, A i → i < k) → stOK s a q n X → PZ s (a + n) (fun i => A i ∨ (k ≤ i ∧ i < a)) (uX X (pcl s q n)) (z - n + 1) → PZ s k A X z
  | 0, k, a, q, n, A, X, z, hk, ha, h1, ⟨l, ⟨l1, l2⟩, l3⟩ => by
    have e : k = a := by omega
    subst e
    refine ⟨(n, q) :: l, ⟨⟨h1, l1⟩, ?_⟩, by show ((l.length + 1 : Nat) : Int) + z + k ≤ _; omega⟩
    rw [uX_assoc] at l2
    exact l2.mono (fun i hi => Or.inl hi) (fun b hb => hb)
  | m + 1, k, a, q, n, A, X, z, hk, ha, h1, ⟨l, ⟨l1, ⟨f, f1, f2⟩⟩, l3⟩ => by
    have hkk : A k ∨ (k ≤ k ∧ k < a) := Or.inr ⟨Nat.le_refl _, by omega⟩
    have hks : k < sLen s := by have := h1.2.1; have := h1.1.1; omega
    obtain ⟨⟨q0, q1, q2, q3⟩, q4⟩ := f1 k hkk
    have hst := single_ok (X := X) hks q1 q2 (q3 ▸ fun y => q4 (Or.inl (Or.inl y)))
    have hp : ∀ b, pcl s q0 1 b → b = f k := fun b ⟨j, hj, e⟩ => by
      have e2 : j = 0 := by omega
      subst e2; rw [q3]; exact e
    have r1 : stOK s a q n (uX X (pcl s q0 1)) := ⟨h1.1, h1.2.1, h1.2.2.1, fun b hb y => y.elim (h1.2.2.2 b hb) (fun y => q4 (Or.inl (Or.inr (hp b y ▸ hb))))⟩
    have r2 : plV s (a + n) (uX (uX X (pcl s q0 1)) (pcl s q n)) l := by
      rw [uX_comm]
      exact plV_add l1 fun b hb y => q4 (Or.inr (hp b y ▸ hb))
    have r3 : SS s (fun i => A i ∨ (k + 1 ≤ i ∧ i < a)) (uX (uX (uX X (pcl s q0 1)) (pcl s q n)) (plC s l)) := by
      have up : ∀ i, A i ∨ (k + 1 ≤ i ∧ i < a) → A i ∨ (k ≤ i ∧ i < a) := fun i hi => hi.imp id (fun y => ⟨by omega, y.2⟩)
      refine ⟨f, fun i hi => ⟨(f1 i (up i hi)).1, fun y => ?_⟩, fun i j hi hj => f2 i j (up i hi) (up j hj)⟩
      have hik : i ≠ k := by rcases hi with y | y; have := ha i y; omega; omega
      have no := (f1 i (up i hi)).2
      rcases y with ((y | y) | y) | y
      · exact no (Or.inl (Or.inl y))
      · exact hik (f2 i k (up i hi) hkk (hp _ y))
      · exact no (Or.inl (Or.inr y))
      · exact no (Or.inr y)
    obtain ⟨l9, ⟨k1, k2⟩, k3⟩ := PZ_of m (k := k + 1) (a := a) (q := q) (n := n) (A := A) (X := uX X (pcl s q0 1)) (z := z) (by omega) (fun i hi => by have := ha i hi; omega) r1 ⟨l, ⟨r2, r3⟩, l3⟩
    refine ⟨(1, q0) :: l9, ⟨⟨hst, k1⟩, ?_⟩, by show ((l9.length + 1 : Nat) : Int) + z + k ≤ _; omega⟩
    rw [uX_assoc] at k2
    exact k2
/-- a bound of what strips can save -/
def MSB (s : SH) (f : Nat → Nat) : Prop := ∀ k, k < sLen s → f (k + 1) ≤ f k ∧ ∀ q n, q < 96 → 2 ≤ n → n ≤ qrun s k q → k + n ≤ sLen s → n - 1 + f (k + n) ≤ f k
theorem MSB_plV {s : SH} {f : Nat → Nat} (hf : MSB s f) : ∀ {l : List (Nat × Nat)} {k : Nat} {X : Nat → Prop}, plV s k X l → sLen s ≤ l.length + k + f k
  | [], k, X, h => by have h : k = sLen s := h; omega
  | (n, q) :: r, k, X, h => by
    have ih := MSB_plV hf h.2
    have h1 := h.1.1.1
    have h2 := h.1.2.1
    obtain ⟨m1, m2⟩ := hf k (by omega)
    show sLen s ≤ r.length + 1 + k + f k
    rcases Nat.lt_or_ge n 2 with z | z
    · have e : n = 1 := by omega
      subst e; omega
    · have := m2 q n h.1.1.2 z h.1.2.2.1 h2; omega
theorem MSB_PZ {s : SH} {f : Nat → Nat} (hf : MSB s f) {k : Nat} {A X : Nat → Prop} {z : Int} (h : PZ s k A X z) : z ≤ f k := by
  obtain ⟨l, ⟨h1, -⟩, h2⟩ := h
  have := MSB_plV hf h1
  omega
theorem MSB_mono {s : SH} {f : Nat → Nat} (hf : MSB s f) {k : Nat} : ∀ (m : Nat), k + m ≤ sLen s → f (k + m) ≤ f k
  | 0, _ => Nat.le_refl _
  | m + 1, h => Nat.le_trans (hf (k + m) (by omega)).1 (MSB_mono hf m (by omega))
