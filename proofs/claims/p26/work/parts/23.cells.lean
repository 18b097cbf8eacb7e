/-! giving cells to letters: the mathematics of one search -/
theorem cnt_del {Q : Nat → Prop} {x : Nat} (hq : Q x) : ∀ {m : Nat}, x < m → cnt Q m = cnt (fun i => Q i ∧ i ≠ x) m + 1
  | 0, h => absurd h (Nat.not_lt_zero _)
  | m + 1, h => by
    rcases Nat.lt_or_ge x m with z | z
    · have ih := cnt_del (Q := Q) (x := x) hq (m := m) z
      simp only [cnt]
      rw [ih, bN_c (Q := Q m ∧ m ≠ x) ⟨fun q => ⟨q, by omega⟩, fun q => q.1⟩]
      omega
    · have e : x = m := by omega
      subst e
      simp only [cnt]
      rw [bN_t hq, bN_f (fun q => q.2 rfl)]
      congr 1
      exact cnt_congr _ fun i hi => ⟨fun q => ⟨q, by omega⟩, fun q => q.1⟩
theorem cnt_map {P : Nat → Prop} {f : Nat → Nat} : ∀ {n m : Nat} {Q : Nat → Prop}, (∀ i, i < n → P i → f i < m ∧ Q (f i)) → (∀ i j, i < n → j < n → P i → P j → f i = f j → i = j) → cnt P n ≤ cnt Q m
  | 0, m, Q, _, _ => Nat.zero_le _
  | n + 1, m, Q, hf, hi => by
    rcases Classical.em (P n) with h | h
    · have h1 := hf n (Nat.lt_succ_self _) h
      rw [cnt_yes h, cnt_del h1.2 h1.1]
      have ih := cnt_map (P := P) (f := f) (n := n) (m := m) (Q := fun i => Q i ∧ i ≠ f n) (fun i hi2 hp => ⟨(hf i (by omega) hp).1, (hf i (by omega) hp).2, fun e => by have := hi i n (by omega) (by omega) hp h e; omega⟩) (fun i j a b => hi i j (by omega) (by omega))
      omega
    · rw [cnt_no h]
      exact cnt_map (fun i a => hf i (by omega)) (fun i j a b => hi i j (by omega) (by omega))
theorem cnt_lt {Q Q2 : Nat → Prop} {m x : Nat} (hx : x < m) (h : ∀ i, i < m → Q i → Q2 i) (h1 : ¬ Q x) (h2 : Q2 x) : cnt Q m + 1 ≤ cnt Q2 m := by
  rw [cnt_del h2 hx]
  have := cnt_map (P := Q) (f := fun i => i) (n := m) (m := m) (Q := fun i => Q2 i ∧ i ≠ x) (fun i a b => ⟨a, h i a b, fun e => h1 (e ▸ b)⟩) (fun i j _ _ _ _ e => e)
  omega
theorem cnt_mono {Q Q2 : Nat → Prop} {m : Nat} (h : ∀ i, i < m → Q i → Q2 i) : cnt Q m ≤ cnt Q2 m := cnt_map (f := fun i => i) (fun i a b => ⟨a, h i a b⟩) (fun i j _ _ _ _ e => e)
/-- holders of cells: a letter holds one cell at most, one of its own -/
def MW (g : Nat) (C : Nat → Nat → Prop) (W : Nat → Option Nat) : Prop := (∀ c1 c2 v, W c1 = some v → W c2 = some v → c1 = c2) ∧ ∀ c v, W c = some v → (v < g ∧ C v c) ∧ c < 48
/-- a search that failed: all that was tried is held by letters with no way out -/
def FT (C : Nat → Nat → Prop) (T : Nat → Prop) (W : Nat → Option Nat) (u : Nat) (T2 : Nat → Prop) : Prop := (∀ c, T c → T2 c) ∧ (∀ c, c < 48 → C u c → T2 c) ∧ ∀ c, T2 c → ¬ T c → c < 48 ∧ ∃ v, W c = some v ∧ ∀ c2, c2 < 48 → C v c2 → T2 c2
/-- a search that went well -/
def TT (C : Nat → Nat → Prop) (T : Nat → Prop) (W : Nat → Option Nat) (u : Nat) (W2 : Nat → Option Nat) : Prop := (∀ c, T c → W2 c = W c) ∧ (∃ c, ¬ T c ∧ W2 c = some u) ∧ (∀ c v, ¬ T c → W2 c = some v → C v c ∧ c < 48 ∧ (v = u ∨ ∃ c0, ¬ T c0 ∧ W c0 = some v)) ∧ (∀ c v, ¬ T c → W c = some v → ∃ c2, ¬ T c2 ∧ W2 c2 = some v) ∧ ∀ c1 c2 v, ¬ T c1 → ¬ T c2 → W2 c1 = some v → W2 c2 = some v → c1 = c2
def wset (W : Nat → Option Nat) (c u : Nat) : Nat → Option Nat := fun b => if b = c then some u else W b
theorem wset_eq {W : Nat → Option Nat} {c u : Nat} : wset W c u c = some u := if_pos rfl
theorem wset_ne {W : Nat → Option Nat} {c u b : Nat} (h : b ≠ c) : wset W c u b = W b := if_neg h
theorem TT_free {g : Nat} {C : Nat → Nat → Prop} {T : Nat → Prop} {W : Nat → Option Nat} {u c : Nat} (hW : MW g C W) (hu : ∀ c, W c = some u → T c) (hc : ¬ T c) (hc2 : c < 48) (hC : C u c) (hn : W c = none) : TT C T W u (wset W c u) := by
  refine ⟨fun b hb => wset_ne (fun e => hc (e ▸ hb)), ⟨c, hc, wset_eq⟩, fun b v hb hv => ?_, fun b v hb hv => ⟨b, hb, by rw [wset_ne (fun e => by rw [e, hn] at hv; cases hv)]; exact hv⟩, fun b1 b2 v h1 h2 e1 e2 => ?_⟩
  · by_cases e : b = c
    · rw [e, wset_eq] at hv; cases hv; exact ⟨e ▸ hC, by omega, Or.inl rfl⟩
    · rw [wset_ne e] at hv; exact ⟨(hW.2 b v hv).1.2, (hW.2 b v hv).2, Or.inr ⟨b, hb, hv⟩⟩
  · by_cases q1 : b1 = c
    · by_cases q2 : b2 = c
      · omega
      · rw [q1, wset_eq] at e1; cases e1; rw [wset_ne q2] at e2; exact absurd (hu b2 e2) h2
    · rw [wset_ne q1] at e1
      by_cases q2 : b2 = c
      · rw [q2, wset_eq] at e2; cases e2; exact absurd (hu b1 e1) h1
      · rw [wset_ne q2] at e2; exact hW.1 b1 b2 v e1 e2
theorem TT_move {g : Nat} {C : Nat → Nat → Prop} {T T1 : Nat → Prop} {W W2 : Nat → Option Nat} {u v c : Nat} (hW : MW g C W) (hu : ∀ c, W c = some u → T c) (hT : ∀ b, T b → T1 b) (hc : ¬ T c) (hc1 : T1 c) (hc2 : c < 48) (hC : C u c) (hv : W c = some v) (t : TT C T1 W v W2) : TT C T W u (wset W2 c u) := by
  obtain ⟨t1, ⟨c9, t2, t3⟩, t4, t5, t6⟩ := t
  refine ⟨fun b hb => ?_, ⟨c, hc, wset_eq⟩, fun b x hb hx => ?_, fun b x hb hx => ?_, ?_⟩
  · rw [wset_ne (show b ≠ c from fun e => hc (e ▸ hb))]; exact t1 b (hT b hb)
  · by_cases e : b = c
    · rw [e, wset_eq] at hx; cases hx; exact ⟨e ▸ hC, by omega, Or.inl rfl⟩
    · rw [wset_ne e] at hx
      rcases Classical.em (T1 b) with q | q
      · rw [t1 b q] at hx; exact ⟨(hW.2 b x hx).1.2, (hW.2 b x hx).2, Or.inr ⟨b, hb, hx⟩⟩
      · obtain ⟨a1, a2, a3⟩ := t4 b x q hx
        refine ⟨a1, a2, Or.inr ?_⟩
        rcases a3 with rfl | ⟨c0, a3, a4⟩
        · exact ⟨c, hc, hv⟩
        · exact ⟨c0, fun z => a3 (hT c0 z), a4⟩
  · rcases Classical.em (T1 b) with q | q
    · by_cases e : b = c
      · rw [e, hv] at hx; cases hx
        exact ⟨c9, fun z => t2 (hT c9 z), by rw [wset_ne (show c9 ≠ c from fun z => t2 (z ▸ hc1))]; exact t3⟩
      · exact ⟨b, hb, by rw [wset_ne e, t1 b q]; exact hx⟩
    · obtain ⟨c2, a1, a2⟩ := t5 b x q hx
      exact ⟨c2, fun z => a1 (hT c2 z), by rw [wset_ne (show c2 ≠ c from fun z => a1 (z ▸ hc1))]; exact a2⟩
  · have key : ∀ b x, ¬ T b → b ≠ c → W2 b = some x → x ≠ u := by
      intro b x hb he hx e
      subst e
      rcases Classical.em (T1 b) with q | q
      · rw [t1 b q] at hx; exact hb (hu b hx)
      · obtain ⟨-, -, a3⟩ := t4 b x q hx
        rcases a3 with rfl | ⟨c0, a3, a4⟩
        · exact hc (hu c hv)
        · exact a3 (hT c0 (hu c0 a4))
    intro b1 b2 x h1 h2 e1 e2
    by_cases q1 : b1 = c
    · by_cases q2 : b2 = c
      · omega
      · rw [q1, wset_eq] at e1; cases e1; rw [wset_ne q2] at e2; exact absurd rfl (key b2 _ h2 q2 e2)
    · rw [wset_ne q1] at e1
      by_cases q2 : b2 = c
      · rw [q2, wset_eq] at e2; cases e2; exact absurd rfl (key b1 _ h1 q1 e1)
      · rw [wset_ne q2] at e2
        have mix : ∀ a b, T1 a → ¬ T1 b → a ≠ c → W2 a = some x → W2 b = some x → False := by
          intro a b ha hb hac ea eb
          rw [t1 a ha] at ea
          obtain ⟨-, -, a3⟩ := t4 b x hb eb
          rcases a3 with rfl | ⟨c0, a3, a4⟩
          · exact hac (hW.1 a c _ ea hv)
          · exact a3 ((hW.1 a c0 _ ea a4) ▸ ha)
        rcases Classical.em (T1 b1) with p1 | p1
        · rcases Classical.em (T1 b2) with p2 | p2
          · rw [t1 b1 p1] at e1; rw [t1 b2 p2] at e2; exact hW.1 b1 b2 x e1 e2
          · exact (mix b1 b2 p1 p2 q1 e1 e2).elim
        · rcases Classical.em (T1 b2) with p2 | p2
          · exact (mix b2 b1 p2 p1 q2 e2 e1).elim
          · exact t6 b1 b2 x p1 p2 e1 e2
/-- what the loop over the cells keeps, at cell i -/
def FLo (C : Nat → Nat → Prop) (T : Nat → Prop) (W : Nat → Option Nat) (u i : Nat) (T2 : Nat → Prop) : Prop := (∀ c, T c → T2 c) ∧ (∀ c, c < i → C u c → T2 c) ∧ ∀ c, T2 c → ¬ T c → c < 48 ∧ ∃ v, W c = some v ∧ ∀ c2, c2 < 48 → C v c2 → T2 c2
theorem FLo_0 {C : Nat → Nat → Prop} {T : Nat → Prop} {W : Nat → Option Nat} {u : Nat} : FLo C T W u 0 T := ⟨fun _ h => h, fun c h => absurd h (Nat.not_lt_zero _), fun c h1 h2 => absurd h1 h2⟩
theorem FLo_skip {C : Nat → Nat → Prop} {T T2 : Nat → Prop} {W : Nat → Option Nat} {u i : Nat} (f : FLo C T W u i T2) (h : C u i → T2 i) : FLo C T W u (i + 1) T2 := ⟨f.1, fun c hc hC => by
  rcases Nat.lt_or_ge c i with z | z
  · exact f.2.1 c z hC
  · exact (show c = i by omega) ▸ h ((show c = i by omega) ▸ hC), f.2.2⟩
theorem FLo_step {C : Nat → Nat → Prop} {T T2 T3 : Nat → Prop} {W : Nat → Option Nat} {u i v : Nat} (f : FLo C T W u i T2) (hi : i < 48) (hv : W i = some v) (t : FT C (fun b => T2 b ∨ b = i) W v T3) : FLo C T W u (i + 1) T3 := by
  refine ⟨fun c h => t.1 c (Or.inl (f.1 c h)), fun c hc hC => ?_, fun c h1 h2 => ?_⟩
  · rcases Nat.lt_or_ge c i with z | z
    · exact t.1 c (Or.inl (f.2.1 c z hC))
    · exact t.1 c (Or.inr (by omega))
  · rcases Classical.em (T2 c ∨ c = i) with q | q
    · rcases q with q | q
      · obtain ⟨a0, w, a1, a2⟩ := f.2.2 c q h2
        exact ⟨a0, w, a1, fun c2 b1 b2 => t.1 c2 (Or.inl (a2 c2 b1 b2))⟩
      · subst q; exact ⟨hi, v, hv, t.2.1⟩
    · exact t.2.2 c h1 q
/-- no more cells are held than there are letters -/
theorem held_le {g : Nat} {C : Nat → Nat → Prop} {T : Nat → Prop} {W : Nat → Option Nat} (hW : MW g C W) : cnt (fun c => T c ∧ W c ≠ none) 48 ≤ g := by
  have h := cnt_map (P := fun c => T c ∧ W c ≠ none) (f := fun c => (W c).getD 0) (n := 48) (m := g) (Q := fun _ => True) (fun i _ hp => by
    obtain ⟨v, hv⟩ := Option.ne_none_iff_exists'.mp hp.2
    rw [hv]; exact ⟨(hW.2 i v hv).1.1, trivial⟩) (fun i j _ _ p1 p2 e => by
    obtain ⟨v, hv⟩ := Option.ne_none_iff_exists'.mp p1.2
    obtain ⟨w, hw⟩ := Option.ne_none_iff_exists'.mp p2.2
    rw [hv, hw] at e
    have e : v = w := e
    subst e
    exact hW.1 i j v hv hw)
  exact Nat.le_trans h (cnt_le _ _)
/-- different cells for the first g letters -/
def SD (g : Nat) (C : Nat → Nat → Prop) : Prop := ∃ f : Nat → Nat, (∀ j, j < g → f j < 48 ∧ C j (f j)) ∧ ∀ i j, i < g → j < g → f i = f j → i = j
theorem SD_no {g : Nat} {C : Nat → Nat → Prop} {W : Nat → Option Nat} {T2 : Nat → Prop} (hW : MW g C W) (t : FT C (fun _ => False) W g T2) : ¬ SD (g + 1) C := by
  rintro ⟨f, f1, f2⟩
  obtain ⟨-, t2, t3⟩ := t
  have h1 : cnt (fun v => v = g ∨ ∃ c, T2 c ∧ W c = some v) (g + 1) ≤ cnt T2 48 := by
    refine cnt_map (f := f) (fun i hi hp => ⟨(f1 i hi).1, ?_⟩) (fun i j a b _ _ e => f2 i j a b e)
    rcases hp with rfl | ⟨c, p1, p2⟩
    · exact t2 _ (f1 i hi).1 (f1 i hi).2
    · obtain ⟨-, v, q1, q2⟩ := t3 c p1 id
      rw [p2] at q1
      cases q1
      exact q2 _ (f1 i hi).1 (f1 i hi).2
  have h2 : cnt T2 48 ≤ cnt (fun v => ∃ c, T2 c ∧ W c = some v) g := by
    refine cnt_map (f := fun c => (W c).getD 0) (fun i hi hp => ?_) (fun i j a b p1 p2 e => ?_)
    · obtain ⟨-, v, q1, q2⟩ := t3 i hp id
      rw [q1]
      exact ⟨(hW.2 i v q1).1.1, i, hp, q1⟩
    · obtain ⟨-, v, q1, -⟩ := t3 i p1 id
      obtain ⟨-, w, q2, -⟩ := t3 j p2 id
      rw [q1, q2] at e
      have e : v = w := e
      subst e
      exact hW.1 i j v q1 q2
  have h3 : cnt (fun v => ∃ c, T2 c ∧ W c = some v) g ≤ cnt (fun v => v = g ∨ ∃ c, T2 c ∧ W c = some v) g := cnt_mono fun i _ q => Or.inr q
  rw [cnt_yes (n := g) (Or.inl rfl)] at h1
  omega
def cset (C : Nat → Nat → Prop) (g : Nat) (D : Nat → Prop) : Nat → Nat → Prop := fun j => if j = g then D else C j
theorem cset_eq {C : Nat → Nat → Prop} {g : Nat} {D : Nat → Prop} : cset C g D g = D := if_pos rfl
theorem cset_ne {C : Nat → Nat → Prop} {g j : Nat} {D : Nat → Prop} (h : j ≠ g) : cset C g D j = C j := if_neg h
theorem MW_cset {g : Nat} {C : Nat → Nat → Prop} {W : Nat → Option Nat} {D : Nat → Prop} (hW : MW g C W) : MW g (cset C g D) W := ⟨hW.1, fun c v h => ⟨⟨(hW.2 c v h).1.1, by rw [cset_ne (by have := (hW.2 c v h).1.1; omega)]; exact (hW.2 c v h).1.2⟩, (hW.2 c v h).2⟩⟩
/-- the whole search, gone well: one letter more -/
theorem MW_more {g : Nat} {C : Nat → Nat → Prop} {W W2 : Nat → Option Nat} (hW : MW g C W) (hh : ∀ v, v < g → ∃ c, W c = some v) (t : TT C (fun _ => False) W g W2) : MW (g + 1) C W2 ∧ ∀ v, v < g + 1 → ∃ c, W2 c = some v := by
  obtain ⟨-, ⟨c9, -, t3⟩, t4, t5, t6⟩ := t
  refine ⟨⟨fun c1 c2 v => t6 c1 c2 v id id, fun c v h => ?_⟩, fun v hv => ?_⟩
  · obtain ⟨a1, a2, a3⟩ := t4 c v id h
    refine ⟨⟨?_, a1⟩, a2⟩
    rcases a3 with rfl | ⟨c0, -, a4⟩
    · omega
    · have := (hW.2 c0 v a4).1.1; omega
  · rcases Nat.lt_or_ge v g with z | z
    · obtain ⟨c, hc⟩ := hh v z
      obtain ⟨c2, -, h2⟩ := t5 c v id hc
      exact ⟨c2, h2⟩
    · exact ⟨c9, (show v = g by omega) ▸ t3⟩
theorem SD_of {g : Nat} {C : Nat → Nat → Prop} {W : Nat → Option Nat} (hW : MW g C W) (hh : ∀ v, v < g → ∃ c, W c = some v) : SD g C := by
  have hc : ∀ v, ∃ c, v < g → W c = some v := fun v => by
    rcases Nat.lt_or_ge v g with z | z
    · obtain ⟨c, h⟩ := hh v z; exact ⟨c, fun _ => h⟩
    · exact ⟨0, fun z2 => absurd z2 (by omega)⟩
  refine ⟨fun v => Classical.choose (hc v), fun j hj => ?_, fun i j hi hj e => ?_⟩
  · have h := hW.2 _ _ (Classical.choose_spec (hc j) hj)
    exact ⟨h.2, h.1.2⟩
  · have h1 := Classical.choose_spec (hc i) hi
    have h2 := Classical.choose_spec (hc j) hj
    have e : Classical.choose (hc i) = Classical.choose (hc j) := e
    rw [e, h2] at h1
    cases h1
    rfl
