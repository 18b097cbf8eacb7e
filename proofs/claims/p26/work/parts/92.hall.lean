/-! what is missing, by sets of letters: the mathematics -/
theorem aug {g : Nat} {C : Nat → Nat → Prop} {W : Nat → Option Nat} (hW : MW g C W) : ∀ (n : Nat) (T : Nat → Prop) (u : Nat), 48 < n + cnt T 48 → (∀ c, W c = some u → T c) → (∃ W2, TT C T W u W2) ∨ ∃ T2, FT C T W u T2
  | 0, T, u, hn, _ => absurd (cnt_le T 48) (by omega)
  | n + 1, T, u, hn, hu => by
    have key : ∀ i, i ≤ 48 → (∃ W2, TT C T W u W2) ∨ ∃ T2, FLo C T W u i T2 := by
      intro i
      induction i with
      | zero => exact fun _ => Or.inr ⟨T, FLo_0⟩
      | succ i ih =>
        intro hi
        rcases ih (by omega) with y | ⟨T2, f⟩
        · exact Or.inl y
        · rcases Classical.em (C u i → T2 i) with y | y
          · exact Or.inr ⟨T2, FLo_skip f y⟩
          · have hc : C u i := Classical.byContradiction fun z => y (fun q => absurd q z)
            have ht : ¬ T2 i := fun z => y (fun _ => z)
            have hnt : ¬ T i := fun z => ht (f.1 i z)
            cases hw : W i with
            | none => exact Or.inl ⟨_, TT_free hW hu hnt (by omega) hc hw⟩
            | some v =>
              have hlt := cnt_lt (Q := T) (Q2 := fun b => T2 b ∨ b = i) (m := 48) (x := i) (by omega) (fun b _ hb => Or.inl (f.1 b hb)) hnt (Or.inr rfl)
              rcases aug hW n (fun b => T2 b ∨ b = i) v (by omega) (fun c hcv => Or.inr (hW.1 c i v hcv hw)) with ⟨W2, t⟩ | ⟨T3, t⟩
              · exact Or.inl ⟨_, TT_move (T1 := fun b => T2 b ∨ b = i) hW hu (fun b hb => Or.inl (f.1 b hb)) hnt (Or.inr rfl) (by omega) hc hw t⟩
              · exact Or.inr ⟨T3, FLo_step f (by omega) hw t⟩
    rcases key 48 (Nat.le_refl _) with y | ⟨T2, f⟩
    · exact Or.inl y
    · exact Or.inr ⟨T2, f⟩
/-- the holders that a choice of cells gives -/
theorem SD_MW {g : Nat} {C : Nat → Nat → Prop} (h : SD g C) : ∃ W, MW g C W ∧ ∀ v, v < g → ∃ c, W c = some v := by
  obtain ⟨f, f1, f2⟩ := h
  have hd : ∀ c, ∃ o : Option Nat, (∀ v, o = some v → v < g ∧ f v = c) ∧ (o = none → ∀ v, v < g → f v ≠ c) := fun c => by
    rcases Classical.em (∃ v, v < g ∧ f v = c) with ⟨v, h1, h2⟩ | z
    · exact ⟨some v, fun w e => by cases e; exact ⟨h1, h2⟩, fun e => by cases e⟩
    · exact ⟨none, fun w e => (by cases e), fun _ v h1 h2 => z ⟨v, h1, h2⟩⟩
  refine ⟨fun c => Classical.choose (hd c), ⟨fun c1 c2 v h1 h2 => ?_, fun c v h1 => ?_⟩, fun v hv => ⟨f v, ?_⟩⟩
  · exact ((Classical.choose_spec (hd c1)).1 v h1).2.symm.trans ((Classical.choose_spec (hd c2)).1 v h2).2
  · obtain ⟨a1, a2⟩ := (Classical.choose_spec (hd c)).1 v h1
    exact ⟨⟨a1, a2 ▸ (f1 v a1).2⟩, a2 ▸ (f1 v a1).1⟩
  · show Classical.choose (hd (f v)) = some v
    cases e : Classical.choose (hd (f v)) with
    | none => exact absurd rfl ((Classical.choose_spec (hd (f v))).2 e v hv)
    | some w =>
      obtain ⟨a1, a2⟩ := (Classical.choose_spec (hd (f v))).1 w e
      rw [f2 w v a1 hv a2]
theorem SD_closed {g : Nat} {C : Nat → Nat → Prop} {W : Nat → Option Nat} (hW : MW g C W) (hh : ∀ v, v < g → ∃ c, W c = some v) (hn : ¬ SD (g + 1) C) : ∃ T2, FT C (fun _ => False) W g T2 := by
  rcases aug hW 49 (fun _ => False) g (by omega) (fun c hc => absurd (hW.2 c g hc).1.1 (Nat.lt_irrefl g)) with ⟨W2, t⟩ | y
  · obtain ⟨h1, h2⟩ := MW_more hW hh t
    exact absurd (SD_of h1 h2) hn
  · exact y
/-- the letters that were given cells -/
def MI (D : Nat → Nat → Prop) (k g : Nat) (C : Nat → Nat → Prop) (e : Nat → Nat) : Prop := (∀ j, j < g → e j < k ∧ C j = D (e j)) ∧ (∀ i j, i < g → j < g → e i = e j → i = j) ∧ SD g C
theorem mset_i (D : Nat → Nat → Prop) : ∀ k, ∃ e, MI D k (mset D k).1 (mset D k).2 e
  | 0 => ⟨fun _ => 0, fun j hj => absurd hj (Nat.not_lt_zero j), fun i j hi => absurd hi (Nat.not_lt_zero i), ⟨fun _ => 0, fun j hj => absurd hj (Nat.not_lt_zero j), fun i j hi => absurd hi (Nat.not_lt_zero i)⟩⟩
  | k + 1 => by
    obtain ⟨e, e1, e2, e3⟩ := mset_i D k
    unfold mset
    rcases Classical.em (SD ((mset D k).1 + 1) (cset (mset D k).2 (mset D k).1 (D k))) with h | h
    · rw [cif_t h]
      refine ⟨fun j => if j = (mset D k).1 then k else e j, fun j hj => ?_, fun i j hi hj he => ?_, h⟩
      · show (if j = (mset D k).1 then k else e j) < k + 1 ∧ cset (mset D k).2 (mset D k).1 (D k) j = D (if j = (mset D k).1 then k else e j)
        have hj : j < (mset D k).1 + 1 := hj
        by_cases q : j = (mset D k).1
        · rw [if_pos q, q, cset_eq]; exact ⟨Nat.lt_succ_self k, rfl⟩
        · rw [if_neg q, cset_ne q]
          have := e1 j (by omega)
          exact ⟨by omega, this.2⟩
      · have hi : i < (mset D k).1 + 1 := hi
        have hj : j < (mset D k).1 + 1 := hj
        have he : (if i = (mset D k).1 then k else e i) = (if j = (mset D k).1 then k else e j) := he
        by_cases q : i = (mset D k).1
        · by_cases q2 : j = (mset D k).1
          · omega
          · rw [if_pos q, if_neg q2] at he
            have := (e1 j (by omega)).1
            omega
        · by_cases q2 : j = (mset D k).1
          · rw [if_neg q, if_pos q2] at he
            have := (e1 i (by omega)).1
            omega
          · rw [if_neg q, if_neg q2] at he
            exact e2 i j (by omega) (by omega) he
    · rw [cif_f h]
      exact ⟨e, fun j hj => ⟨by have := (e1 j hj).1; omega, (e1 j hj).2⟩, e2, e3⟩
/-- the cells that a letter of A may have -/
def NB (D : Nat → Nat → Prop) (A : Nat → Prop) (k : Nat) : Nat → Prop := fun c => ∃ i, i < k ∧ A i ∧ D i c
theorem cnt_split {P Q : Nat → Prop} : ∀ n, cnt P n = cnt (fun i => P i ∧ Q i) n + cnt (fun i => P i ∧ ¬ Q i) n
  | 0 => rfl
  | n + 1 => by
    have ih := cnt_split (P := P) (Q := Q) n
    simp only [cnt]
    rcases Classical.em (P n) with h | h
    · rcases Classical.em (Q n) with h2 | h2
      · rw [bN_t h, bN_t ⟨h, h2⟩, bN_f (fun z => z.2 h2)]; omega
      · rw [bN_t h, bN_f (fun z => h2 z.2), bN_t ⟨h, h2⟩]; omega
    · rw [bN_f h, bN_f (fun z => h z.1), bN_f (fun z => h z.1)]; omega
theorem mset_ub (D : Nat → Nat → Prop) (k : Nat) (A : Nat → Prop) : cnt A k ≤ cnt (NB D A k) 48 + (k - (mset D k).1) := by
  obtain ⟨e, e1, e2, F, f1, f2⟩ := mset_i D k
  have hx : ∀ i, ∃ j, (∃ j, j < (mset D k).1 ∧ e j = i) → j < (mset D k).1 ∧ e j = i := fun i => by
    rcases Classical.em (∃ j, j < (mset D k).1 ∧ e j = i) with ⟨j, h⟩ | z
    · exact ⟨j, fun _ => h⟩
    · exact ⟨0, fun h => absurd h z⟩
  have h1 : cnt (fun i => A i ∧ ∃ j, j < (mset D k).1 ∧ e j = i) k ≤ cnt (NB D A k) 48 := by
    refine cnt_map (f := fun i => F (Classical.choose (hx i))) (fun i hi hp => ?_) (fun i j hi hj hp hq he => ?_)
    · obtain ⟨a1, a2⟩ := Classical.choose_spec (hx i) hp.2
      obtain ⟨b1, b2⟩ := f1 _ a1
      rw [(e1 _ a1).2, a2] at b2
      exact ⟨b1, i, hi, hp.1, b2⟩
    · obtain ⟨a1, a2⟩ := Classical.choose_spec (hx i) hp.2
      obtain ⟨b1, b2⟩ := Classical.choose_spec (hx j) hq.2
      have := f2 _ _ a1 b1 he
      rw [← a2, ← b2, this]
  have h2 := cnt_split (P := A) (Q := fun i => ∃ j, j < (mset D k).1 ∧ e j = i) k
  have h3 := cnt_split (P := fun _ => True) (Q := fun i => ∃ j, j < (mset D k).1 ∧ e j = i) k
  have h4 : cnt (fun i => A i ∧ ¬ ∃ j, j < (mset D k).1 ∧ e j = i) k ≤ cnt (fun i => True ∧ ¬ ∃ j, j < (mset D k).1 ∧ e j = i) k := cnt_mono fun i _ q => ⟨trivial, q.2⟩
  have h5 : ∀ n, cnt (fun _ => True) n = n := fun n => by
    induction n with
    | zero => rfl
    | succ n ih => rw [cnt_yes trivial, ih]
  have h6 : cnt (fun _ => True) (mset D k).1 ≤ cnt (fun i => True ∧ ∃ j, j < (mset D k).1 ∧ e j = i) k := cnt_map (f := e) (fun j hj _ => ⟨(e1 j hj).1, trivial, j, hj, rfl⟩) (fun i j hi hj _ _ he => e2 i j hi hj he)
  rw [h5] at h3 h6
  omega
theorem mset_s (D : Nat → Nat → Prop) (k : Nat) : mset D (k + 1) = cif (SD ((mset D k).1 + 1) (cset (mset D k).2 (mset D k).1 (D k))) ((mset D k).1 + 1, cset (mset D k).2 (mset D k).1 (D k)) (mset D k) := rfl
theorem mset_lb (D : Nat → Nat → Prop) : ∀ k, ∃ A : Nat → Prop, (∀ i, A i → i < k) ∧ cnt (NB D A k) 48 + (k - (mset D k).1) ≤ cnt A k
  | 0 => ⟨fun _ => False, fun _ h => h.elim, by rw [cnt_none 48 (fun c _ ⟨i, hi, _⟩ => absurd hi (Nat.not_lt_zero i))]; exact Nat.zero_le _⟩
  | k + 1 => by
    obtain ⟨A, hA, hk⟩ := mset_lb D k
    obtain ⟨e, e1, e2, e3⟩ := mset_i D k
    have hle := mset_le D k
    have hno : ¬ A k := fun z => absurd (hA k z) (Nat.lt_irrefl k)
    rcases Classical.em (SD ((mset D k).1 + 1) (cset (mset D k).2 (mset D k).1 (D k))) with h | h
    · refine ⟨A, fun i hi => by have := hA i hi; omega, ?_⟩
      rw [show (mset D (k + 1)).1 = (mset D k).1 + 1 from by rw [mset_s, cif_t h], cnt_no hno, cnt_congr (P := NB D A (k + 1)) (Q := NB D A k) 48 (fun c _ => ⟨fun ⟨i, _, h2, h3⟩ => ⟨i, hA i h2, h2, h3⟩, fun ⟨i, h1, h2, h3⟩ => ⟨i, by omega, h2, h3⟩⟩)]
      omega
    · have eg : (mset D (k + 1)).1 = (mset D k).1 := by
        rw [mset_s, cif_f h]
      rw [eg]
      generalize hg : (mset D k).1 = g at *
      obtain ⟨W, hW, hh⟩ := SD_MW e3
      obtain ⟨T2, -, t2, t3⟩ := SD_closed (MW_cset (D := D k) hW) hh h
      have hv : ∀ c, T2 c → c < 48 ∧ ∃ v, v < g ∧ W c = some v ∧ ∀ c2, c2 < 48 → D (e v) c2 → T2 c2 := fun c hc => by
        obtain ⟨a1, v, a2, a3⟩ := t3 c hc id
        have a4 := (hW.2 c v a2).1.1
        refine ⟨a1, v, a4, a2, fun c2 b1 b2 => a3 c2 b1 ?_⟩
        rw [cset_ne (by omega), (e1 v a4).2]
        exact b2
      let B : Nat → Prop := fun i => i = k ∨ ∃ v c, v < g ∧ T2 c ∧ W c = some v ∧ e v = i
      refine ⟨fun i => A i ∨ B i, fun i hi => ?_, ?_⟩
      · rcases hi with z | z | ⟨v, c, z1, z2, z3, z4⟩
        · have := hA i z; omega
        · omega
        · have := (e1 v z1).1; omega
      · have n1 : cnt (NB D (fun i => A i ∨ B i) (k + 1)) 48 ≤ cnt (fun c => NB D A k c ∨ T2 c) 48 := cnt_mono fun c hc ⟨i, i1, i2, i3⟩ => by
          rcases i2 with z | z | ⟨v, c0, z1, z2, z3, z4⟩
          · exact Or.inl ⟨i, hA i z, z, i3⟩
          · refine Or.inr (t2 c hc ?_)
            rw [cset_eq, ← z]; exact i3
          · obtain ⟨-, w, w1, w2, w3⟩ := hv c0 z2
            rw [z3] at w2
            cases w2
            exact Or.inr (w3 c hc (by rw [z4]; exact i3))
        have n2 := cnt_split (P := fun c => NB D A k c ∨ T2 c) (Q := NB D A k) 48
        have n3 : cnt (fun c => (NB D A k c ∨ T2 c) ∧ NB D A k c) 48 = cnt (NB D A k) 48 := cnt_congr 48 fun c _ => ⟨fun z => z.2, fun z => ⟨Or.inl z, z⟩⟩
        have m2 := cnt_split (P := fun i => A i ∨ B i) (Q := A) k
        have m3 : cnt (fun i => (A i ∨ B i) ∧ A i) k = cnt A k := cnt_congr k fun c _ => ⟨fun z => z.2, fun z => ⟨Or.inl z, z⟩⟩
        have mm : cnt (fun c => (NB D A k c ∨ T2 c) ∧ ¬ NB D A k c) 48 ≤ cnt (fun i => (A i ∨ B i) ∧ ¬ A i) k := by
          refine cnt_map (f := fun c => e ((W c).getD 0)) (fun c hc hp => ?_) (fun c1 c2 _ _ hp hq he => ?_)
          · obtain ⟨-, v, v1, v2, v3⟩ := hv c (hp.1.resolve_left hp.2)
            rw [v2]
            show e v < k ∧ (A (e v) ∨ B (e v)) ∧ ¬ A (e v)
            refine ⟨(e1 v v1).1, Or.inr (Or.inr ⟨v, c, v1, hp.1.resolve_left hp.2, v2, rfl⟩), fun z => hp.2 ⟨e v, (e1 v v1).1, z, ?_⟩⟩
            have := (hW.2 c v v2).1.2
            rw [(e1 v v1).2] at this
            exact this
          · obtain ⟨-, v, v1, v2, v3⟩ := hv c1 (hp.1.resolve_left hp.2)
            obtain ⟨-, w, w1, w2, w3⟩ := hv c2 (hq.1.resolve_left hq.2)
            rw [v2, w2] at he
            have he : e v = e w := he
            have := e2 v w v1 w1 he
            subst this
            exact hW.1 c1 c2 v v2 w2
        have m1 : cnt (fun i => A i ∨ B i) (k + 1) = cnt (fun i => A i ∨ B i) k + 1 := cnt_yes (Or.inr (Or.inl rfl))
        omega
