/-! the law's own methods: a call of the class, what it throws turned into a number -/
theorem IM.fm {h h2 : AH} {t : ST} (m : IM h t) (hn : hN h2 = hN h) (hr : hR h2 = hR h) (e : ∀ a, a < 66 → hI h2 a = hI h a ∧ hL h2 a = hL h a) : IM h2 t :=
  ⟨m.1.row hn hr (fun j _ => by rw [(e 0 (by omega)).1]) (fun a ha => e a (by omega)), m.2.imp (fun z => by rw [(e 0 (by omega)).1]; exact z) (fun z => ⟨by rw [(e 0 (by omega)).1]; exact z.1, z.2.1, z.2.2.row (fun a _ _ => e a (by omega))⟩)⟩
/-- the cells from 66 on stand as they did, but 89 -/
def Fo (h h2 : AH) : Prop := hN h2 = hN h ∧ ∀ a, 66 ≤ a → a ≠ 89 → hI h2 a = hI h a
theorem MM.fo {h h2 : AH} {t : ST} (m : MM h t) (c2 : CB h2) (f : Fo h h2) : MM h2 t := by
  obtain ⟨c, g, r, ⟨b1, b2⟩, a7, a12, p⟩ := m
  have g8 := g.2.2.2.1
  have e66 := f.2 66 (by omega) (by omega)
  exact ⟨c2, g, r.row (f.2 68 (by omega) (by omega)), ⟨by rw [e66]; exact b1, fun j hj => by rw [f.2 67 (by omega) (by omega)]; exact b2 j hj⟩, by rw [e66]; exact a7, by rw [e66]; exact a12, fun i hi => (p i hi).row (f.2 (72 + i) (by omega) (by omega))⟩
theorem Fw.fo {h h2 : AH} (f : Fw h h2) : Fo h h2 := ⟨f.1, fun a ha _ => (f.2 a ha).1⟩
theorem Fo.out {h h2 : AH} {x : Int64} (f : Fo h h2) : Fo h (sL h2 89 0 x) := f
theorem IM.out {h : AH} {t : ST} {x : Int64} (m : IM h t) : IM (sL h 89 0 x) t := m.fm rfl rfl (fun a ha => ⟨rfl, up2_row (by omega)⟩)
/-- an int, or one of these -/
def RIe (Es : List String) (v : Res) : Prop := (∃ u, v = ri u) ∨ ∃ E, v = .inr E ∧ E ∈ Es
theorem RIe.i {Es : List String} {x : Int32} : RIe Es (ri x) := Or.inl ⟨_, rfl⟩
theorem RIe.e {Es : List String} {E : String} (h : E ∈ Es) : RIe Es (.inr E) := Or.inr ⟨_, rfl, h⟩
theorem RIe.c {Es : List String} {P : Prop} {a b : Res} (ha : RIe Es a) (hb : RIe Es b) : RIe Es (cif P a b) := by
  rcases Classical.em P with q | q
  · rw [cif_t q]; exact ha
  · rw [cif_f q]; exact hb
theorem RIe.p {Es : List String} {P : Prop} {a b : Res × ST} (ha : RIe Es a.1) (hb : RIe Es b.1) : RIe Es (cif P a b).1 := by
  rcases Classical.em P with q | q
  · rw [cif_t q]; exact ha
  · rw [cif_f q]; exact hb
theorem RIe.s {Es : List String} {w : Int32} {l : List Res} {z : Res} (hl : ∀ v ∈ l, RIe Es v) (hz : RIe Es z) : RIe Es (sel w l z) := by
  unfold sel
  refine RIe.c hz ?_
  rw [List.getD_eq_getElem?_getD]
  cases e : l[w.toInt.toNat]? with
  | none => exact hz
  | some v => exact hl v (List.mem_of_getElem? e)
/-- ends with the number of what was thrown, or with 0 and the answer in the long[1] -/
def Ql (Es : List String) (v : Res) (t : ST) (h : AH) : Res → AH → Prop := fun r h2 => r = .inl (some (.int (nI (kn Es v)))) ∧ (∀ w, v = .inl (some (.int w)) → hL h2 89 0 = w.toInt64) ∧ IM h2 t ∧ Fo h h2
theorem no1030 {ls : List (Nat × Value)} (h : ls.all (fun q => match q.2 with | .ref b => b != 1030 | _ => true) = true) : ∀ q ∈ ls, ∀ b, q.2 = .ref b → b ≠ 1030 := by
  intro q hq b hb e
  have := List.all_eq_true.mp h q hq
  rw [hb] at this
  simp [e] at this
theorem Qw.n {v : Res} {t : ST} {h : AH} : ∀ r h', Qw v t h r h' → hN h' = hN h := fun _ _ q => q.2.2.1
theorem re_load {t : ST} {x : Int32} : RIe [eIA] (oLoad t x).1 := RIe.p (RIe.p RIe.i RIe.i) (RIe.e (by simp))
theorem ceL_load : CEH mL_load 3 := ⟨⟨tbi 527 (by decide +kernel), tbi 0 (by decide +kernel)⟩, ⟨by decide +kernel, by decide +kernel, by decide +kernel⟩, by decide⟩
theorem ct_load_0 : CT mL_load 4 eIA 12 := ⟨[], ⟨0, 9, 12, 13⟩, [], rfl, (fun z hz => by cases hz), by decide, by decide, tbi 528 (by decide +kernel), tbj 454 (by decide +kernel), rfl⟩
set_option maxHeartbeats 1500000 in
set_option maxRecDepth 100000 in
theorem sL_load {d : Nat} {h : AH} {t : ST} {x : Int32} (m : IM h t) : AH' mL_load (d + 101) 1 6 [.ref 0, .int x, .ref 89] h (Ql [eIA] (oLoad t x).1 (oLoad t x).2 h) := by
  have hn := m.1.1.1
  refine AH'.of (by decide) (fun E h' q => by cases q.1) (Nat.le_of_ble_eq_true rfl) (fun X => ?_)
  show AW X mL_load (d + 101) 1 6 0 [(0, .ref 0), (1, .int x), (2, .ref 89)] [] h (Ql [eIA] (oLoad t x).1 (oLoad t x).2 h)
  refine a_aload_n (pc := 0) (i := 2) dL_load_0 rfl rfl ?_
  refine a_iconst (pc := 1) (v := nI 0) dL_load_1 (by decide) ?_
  refine a_aload_n (pc := 2) (i := 0) dL_load_2 rfl rfl ?_
  refine a_iload_n (pc := 3) (i := 1) dL_load_3 rfl rfl ?_
  refine a_callVC (pc := 4) (kc := 0) (ks := 0) (mc := 1) (ms := 6) (as := [.int x]) (b := 0) (ci := 4) dL_load_4 (lc_RL_7 rfl) ceX4_load rfl (lt90 hn (by omega)) (sp_load (d := d) m) rfl rfl (Nat.le_of_ble_eq_true rfl) Qw.n (no1030 rfl) (fun v h1 q => ?_) (fun E h1 q => ?_)
  · obtain ⟨u, hu⟩ : ∃ u, (oLoad t x).1 = ri u := by
      rcases re_load (t := t) (x := x) with z | ⟨E, z, -⟩
      · exact z
      · exact absurd (q.1.trans z) (by simp)
    have ev : v = some (.int u) := Sum.inl.inj (q.1.trans hu)
    subst ev
    have hn1 : hN h1 = 90 := q.2.2.1.trans hn
    refine a_i2l (pc := 7) dL_load_7 ?_
    refine a_last (pc := 8) (j := 0) dL_load_8 rfl (lt90 hn1 (shK_lt (show shK 89 = _ from rfl))) rfl (by omega) ?_
    refine a_goto (pc := 9) (tgt := 15) dL_load_9 (by decide) ?_
    refine a_iconst (pc := 15) (v := nI 0) dL_load_15 (by decide) ?_
    exact a_ireturn (pc := 16) dL_load_16 rfl rfl (⟨(by rw [hu]; rfl), (fun w hw => by
      rw [hu] at hw
      have := Value.int.inj (Option.some.inj (Sum.inl.inj hw))
      subst this
      rw [hL_sL]
      exact if_pos ⟨rfl, rfl⟩), q.2.1.out, q.2.2.fo.out⟩)
  · obtain ⟨E2, hE, hm⟩ : ∃ E2, (oLoad t x).1 = .inr E2 ∧ E2 ∈ [eIA] := by
      rcases re_load (t := t) (x := x) with ⟨u, z⟩ | z
      · exact absurd (q.1.trans z) (by simp [ri])
      · exact z
    have eE : E = E2 := Sum.inr.inj (q.1.trans hE)
    subst eE
    simp only [List.mem_cons, List.not_mem_nil, or_false] at hm
    rcases hm with rfl
    · refine ⟨12, ct_load_0, ?_⟩
      refine a_astore_n (pc := 12) (i := 3) (ls' := [(0, .ref 0), (1, .int x), (2, .ref 89), (3, .ref 1030)]) dL_load_12 rfl (by decide) rfl ?_
      refine a_iconst (pc := 13) (v := nI 1) dL_load_13 (by decide) ?_
      exact a_ireturn (pc := 14) dL_load_14 rfl rfl (⟨(by rw [hE, show kn [eIA] (.inr eIA) = 1 from by decide +kernel]), (fun w hw => by rw [hE] at hw; cases hw), q.2.1, q.2.2.fo⟩)
theorem re_state {t : ST} {w : Int32} : RIe [eIA] (rState (tC t) w) := RIe.s (by intro v hv; simp only [List.mem_cons, List.not_mem_nil, or_false] at hv; rcases hv with rfl | rfl | rfl | rfl | rfl | rfl | rfl | rfl <;> exact RIe.i) (RIe.e (by simp))
theorem ceL_state : CEH mL_state 3 := ⟨⟨tbi 656 (by decide +kernel), tbi 0 (by decide +kernel)⟩, ⟨by decide +kernel, by decide +kernel, by decide +kernel⟩, by decide⟩
theorem ct_state_0 : CT mL_state 4 eIA 12 := ⟨[], ⟨0, 9, 12, 13⟩, [], rfl, (fun z hz => by cases hz), by decide, by decide, tbi 528 (by decide +kernel), tbj 454 (by decide +kernel), rfl⟩
set_option maxHeartbeats 1500000 in
set_option maxRecDepth 100000 in
theorem sL_state {d : Nat} {h : AH} {t : ST} {w : Int32} (m : IM h t) : AH' mL_state (d + 101) 1 6 [.ref 0, .int w, .ref 89] h (Ql [eIA] (rState (tC t) w) t h) := by
  have hn := m.1.1.1
  refine AH'.of (by decide) (fun E h' q => by cases q.1) (Nat.le_of_ble_eq_true rfl) (fun X => ?_)
  show AW X mL_state (d + 101) 1 6 0 [(0, .ref 0), (1, .int w), (2, .ref 89)] [] h (Ql [eIA] (rState (tC t) w) t h)
  refine a_aload_n (pc := 0) (i := 2) dL_state_0 rfl rfl ?_
  refine a_iconst (pc := 1) (v := nI 0) dL_state_1 (by decide) ?_
  refine a_aload_n (pc := 2) (i := 0) dL_state_2 rfl rfl ?_
  refine a_iload_n (pc := 3) (i := 1) dL_state_3 rfl rfl ?_
  refine a_callVC (pc := 4) (kc := 0) (ks := 0) (mc := 1) (ms := 6) (as := [.int w]) (b := 0) (ci := 4) dL_state_4 (lc_RL_15 rfl) ceX4_state rfl (lt90 hn (by omega)) (w_state (d := d) m) rfl rfl (Nat.le_of_ble_eq_true rfl) Qw.n (no1030 rfl) (fun v h1 q => ?_) (fun E h1 q => ?_)
  · obtain ⟨u, hu⟩ : ∃ u, (rState (tC t) w) = ri u := by
      rcases re_state (t := t) (w := w) with z | ⟨E, z, -⟩
      · exact z
      · exact absurd (q.1.trans z) (by simp)
    have ev : v = some (.int u) := Sum.inl.inj (q.1.trans hu)
    subst ev
    have hn1 : hN h1 = 90 := q.2.2.1.trans hn
    refine a_i2l (pc := 7) dL_state_7 ?_
    refine a_last (pc := 8) (j := 0) dL_state_8 rfl (lt90 hn1 (shK_lt (show shK 89 = _ from rfl))) rfl (by omega) ?_
    refine a_goto (pc := 9) (tgt := 15) dL_state_9 (by decide) ?_
    refine a_iconst (pc := 15) (v := nI 0) dL_state_15 (by decide) ?_
    exact a_ireturn (pc := 16) dL_state_16 rfl rfl (⟨(by rw [hu]; rfl), (fun w hw => by
      rw [hu] at hw
      have := Value.int.inj (Option.some.inj (Sum.inl.inj hw))
      subst this
      rw [hL_sL]
      exact if_pos ⟨rfl, rfl⟩), q.2.1.out, q.2.2.fo.out⟩)
  · obtain ⟨E2, hE, hm⟩ : ∃ E2, (rState (tC t) w) = .inr E2 ∧ E2 ∈ [eIA] := by
      rcases re_state (t := t) (w := w) with ⟨u, z⟩ | z
      · exact absurd (q.1.trans z) (by simp [ri])
      · exact z
    have eE : E = E2 := Sum.inr.inj (q.1.trans hE)
    subst eE
    simp only [List.mem_cons, List.not_mem_nil, or_false] at hm
    rcases hm with rfl
    · refine ⟨12, ct_state_0, ?_⟩
      refine a_astore_n (pc := 12) (i := 3) (ls' := [(0, .ref 0), (1, .int w), (2, .ref 89), (3, .ref 1030)]) dL_state_12 rfl (by decide) rfl ?_
      refine a_iconst (pc := 13) (v := nI 1) dL_state_13 (by decide) ?_
      exact a_ireturn (pc := 14) dL_state_14 rfl rfl (⟨(by rw [hE, show kn [eIA] (.inr eIA) = 1 from by decide +kernel]), (fun w hw => by rw [hE] at hw; cases hw), q.2.1, q.2.2.fo⟩)
theorem re_letter {t : ST} {x y : Int32} : RIe [eIO] (rLetter (tC t) x y) := RIe.c RIe.i (RIe.e (by simp))
theorem ceL_letter : CEH mL_letter 4 := ⟨⟨tbi 660 (by decide +kernel), tbi 0 (by decide +kernel)⟩, ⟨by decide +kernel, by decide +kernel, by decide +kernel⟩, by decide⟩
theorem ct_letter_0 : CT mL_letter 5 eIO 13 := ⟨[], ⟨0, 10, 13, 22⟩, [], rfl, (fun z hz => by cases hz), by decide, by decide, tbi 661 (by decide +kernel), tbj 672 (by decide +kernel), rfl⟩
set_option maxHeartbeats 1500000 in
set_option maxRecDepth 100000 in
theorem sL_letter {d : Nat} {h : AH} {t : ST} {x y : Int32} (m : IM h t) : AH' mL_letter (d + 101) 1 6 [.ref 0, .int x, .int y, .ref 89] h (Ql [eIO] (rLetter (tC t) x y) t h) := by
  have hn := m.1.1.1
  refine AH'.of (by decide) (fun E h' q => by cases q.1) (Nat.le_of_ble_eq_true rfl) (fun X => ?_)
  show AW X mL_letter (d + 101) 1 6 0 [(0, .ref 0), (1, .int x), (2, .int y), (3, .ref 89)] [] h (Ql [eIO] (rLetter (tC t) x y) t h)
  refine a_aload_n (pc := 0) (i := 3) dL_letter_0 rfl rfl ?_
  refine a_iconst (pc := 1) (v := nI 0) dL_letter_1 (by decide) ?_
  refine a_aload_n (pc := 2) (i := 0) dL_letter_2 rfl rfl ?_
  refine a_iload_n (pc := 3) (i := 1) dL_letter_3 rfl rfl ?_
  refine a_iload_n (pc := 4) (i := 2) dL_letter_4 rfl rfl ?_
  refine a_callVC (pc := 5) (kc := 0) (ks := 0) (mc := 1) (ms := 6) (as := [.int x, .int y]) (b := 0) (ci := 4) dL_letter_5 (lc_RL_18 rfl) ceX4_letter rfl (lt90 hn (by omega)) (w_letter (d := d) m) rfl rfl (Nat.le_of_ble_eq_true rfl) Qw.n (no1030 rfl) (fun v h1 q => ?_) (fun E h1 q => ?_)
  · obtain ⟨u, hu⟩ : ∃ u, (rLetter (tC t) x y) = ri u := by
      rcases re_letter (t := t) (x := x) (y := y) with z | ⟨E, z, -⟩
      · exact z
      · exact absurd (q.1.trans z) (by simp)
    have ev : v = some (.int u) := Sum.inl.inj (q.1.trans hu)
    subst ev
    have hn1 : hN h1 = 90 := q.2.2.1.trans hn
    refine a_i2l (pc := 8) dL_letter_8 ?_
    refine a_last (pc := 9) (j := 0) dL_letter_9 rfl (lt90 hn1 (shK_lt (show shK 89 = _ from rfl))) rfl (by omega) ?_
    refine a_goto (pc := 10) (tgt := 17) dL_letter_10 (by decide) ?_
    refine a_iconst (pc := 17) (v := nI 0) dL_letter_17 (by decide) ?_
    exact a_ireturn (pc := 18) dL_letter_18 rfl rfl (⟨(by rw [hu]; rfl), (fun w hw => by
      rw [hu] at hw
      have := Value.int.inj (Option.some.inj (Sum.inl.inj hw))
      subst this
      rw [hL_sL]
      exact if_pos ⟨rfl, rfl⟩), q.2.1.out, q.2.2.fo.out⟩)
  · obtain ⟨E2, hE, hm⟩ : ∃ E2, (rLetter (tC t) x y) = .inr E2 ∧ E2 ∈ [eIO] := by
      rcases re_letter (t := t) (x := x) (y := y) with ⟨u, z⟩ | z
      · exact absurd (q.1.trans z) (by simp [ri])
      · exact z
    have eE : E = E2 := Sum.inr.inj (q.1.trans hE)
    subst eE
    simp only [List.mem_cons, List.not_mem_nil, or_false] at hm
    rcases hm with rfl
    · refine ⟨13, ct_letter_0, ?_⟩
      refine a_astore (pc := 13) (i := 4) (ls' := [(0, .ref 0), (1, .int x), (2, .int y), (3, .ref 89), (4, .ref 1030)]) dL_letter_13 (by decide) rfl ?_
      refine a_iconst (pc := 15) (v := nI 1) dL_letter_15 (by decide) ?_
      exact a_ireturn (pc := 16) dL_letter_16 rfl rfl (⟨(by rw [hE, show kn [eIO] (.inr eIO) = 1 from by decide +kernel]), (fun w hw => by rw [hE] at hw; cases hw), q.2.1, q.2.2.fo⟩)
theorem re_place {t : ST} {x y w : Int32} : RIe [eIO, eIA] (rPlace (tC t) x y w) := RIe.c (RIe.s (by intro v hv; simp only [List.mem_cons, List.not_mem_nil, or_false] at hv; rcases hv with rfl | rfl | rfl | rfl | rfl <;> exact RIe.i) (RIe.e (by simp))) (RIe.e (by simp))
theorem ceL_place : CEH mL_place 5 := ⟨⟨tbi 691 (by decide +kernel), tbi 0 (by decide +kernel)⟩, ⟨by decide +kernel, by decide +kernel, by decide +kernel⟩, by decide⟩
theorem ct_place_0 : CT mL_place 7 eIO 15 := ⟨[], ⟨0, 12, 15, 22⟩, [⟨0, 12, 19, 13⟩], rfl, (fun z hz => by cases hz), by decide, by decide, tbi 661 (by decide +kernel), tbj 672 (by decide +kernel), rfl⟩
theorem ct_place_1 : CT mL_place 7 eIA 19 := ⟨[⟨0, 12, 15, 22⟩], ⟨0, 12, 19, 13⟩, [], rfl, (fun z hz => by
    simp only [List.mem_cons, List.not_mem_nil, or_false] at hz
    rcases hz with rfl
    · exact Or.inr ⟨by decide, eIO, tbi 661 (by decide +kernel), by simp [zNc]⟩), by decide, by decide, tbi 528 (by decide +kernel), tbj 454 (by decide +kernel), rfl⟩
set_option maxHeartbeats 1500000 in
set_option maxRecDepth 100000 in
theorem sL_place {d : Nat} {h : AH} {t : ST} {x y w : Int32} (m : IM h t) : AH' mL_place (d + 101) 1 6 [.ref 0, .int x, .int y, .int w, .ref 89] h (Ql [eIO, eIA] (rPlace (tC t) x y w) t h) := by
  have hn := m.1.1.1
  refine AH'.of (by decide) (fun E h' q => by cases q.1) (Nat.le_of_ble_eq_true rfl) (fun X => ?_)
  show AW X mL_place (d + 101) 1 6 0 [(0, .ref 0), (1, .int x), (2, .int y), (3, .int w), (4, .ref 89)] [] h (Ql [eIO, eIA] (rPlace (tC t) x y w) t h)
  refine a_aload (pc := 0) (i := 4) dL_place_0 rfl ?_
  refine a_iconst (pc := 2) (v := nI 0) dL_place_2 (by decide) ?_
  refine a_aload_n (pc := 3) (i := 0) dL_place_3 rfl rfl ?_
  refine a_iload_n (pc := 4) (i := 1) dL_place_4 rfl rfl ?_
  refine a_iload_n (pc := 5) (i := 2) dL_place_5 rfl rfl ?_
  refine a_iload_n (pc := 6) (i := 3) dL_place_6 rfl rfl ?_
  refine a_callVC (pc := 7) (kc := 0) (ks := 0) (mc := 1) (ms := 6) (as := [.int x, .int y, .int w]) (b := 0) (ci := 4) dL_place_7 (lc_RL_24 rfl) ceX4_place rfl (lt90 hn (by omega)) (w_place (d := d) m) rfl rfl (Nat.le_of_ble_eq_true rfl) Qw.n (no1030 rfl) (fun v h1 q => ?_) (fun E h1 q => ?_)
  · obtain ⟨u, hu⟩ : ∃ u, (rPlace (tC t) x y w) = ri u := by
      rcases re_place (t := t) (x := x) (y := y) (w := w) with z | ⟨E, z, -⟩
      · exact z
      · exact absurd (q.1.trans z) (by simp)
    have ev : v = some (.int u) := Sum.inl.inj (q.1.trans hu)
    subst ev
    have hn1 : hN h1 = 90 := q.2.2.1.trans hn
    refine a_i2l (pc := 10) dL_place_10 ?_
    refine a_last (pc := 11) (j := 0) dL_place_11 rfl (lt90 hn1 (shK_lt (show shK 89 = _ from rfl))) rfl (by omega) ?_
    refine a_goto (pc := 12) (tgt := 23) dL_place_12 (by decide) ?_
    refine a_iconst (pc := 23) (v := nI 0) dL_place_23 (by decide) ?_
    exact a_ireturn (pc := 24) dL_place_24 rfl rfl (⟨(by rw [hu]; rfl), (fun w hw => by
      rw [hu] at hw
      have := Value.int.inj (Option.some.inj (Sum.inl.inj hw))
      subst this
      rw [hL_sL]
      exact if_pos ⟨rfl, rfl⟩), q.2.1.out, q.2.2.fo.out⟩)
  · obtain ⟨E2, hE, hm⟩ : ∃ E2, (rPlace (tC t) x y w) = .inr E2 ∧ E2 ∈ [eIO, eIA] := by
      rcases re_place (t := t) (x := x) (y := y) (w := w) with ⟨u, z⟩ | z
      · exact absurd (q.1.trans z) (by simp [ri])
      · exact z
    have eE : E = E2 := Sum.inr.inj (q.1.trans hE)
    subst eE
    simp only [List.mem_cons, List.not_mem_nil, or_false] at hm
    rcases hm with rfl | rfl
    · refine ⟨15, ct_place_0, ?_⟩
      refine a_astore (pc := 15) (i := 5) (ls' := [(0, .ref 0), (1, .int x), (2, .int y), (3, .int w), (4, .ref 89), (5, .ref 1030)]) dL_place_15 (by decide) rfl ?_
      refine a_iconst (pc := 17) (v := nI 1) dL_place_17 (by decide) ?_
      exact a_ireturn (pc := 18) dL_place_18 rfl rfl (⟨(by rw [hE, show kn [eIO, eIA] (.inr eIO) = 1 from by decide +kernel]), (fun w hw => by rw [hE] at hw; cases hw), q.2.1, q.2.2.fo⟩)
    · refine ⟨19, ct_place_1, ?_⟩
      refine a_astore (pc := 19) (i := 5) (ls' := [(0, .ref 0), (1, .int x), (2, .int y), (3, .int w), (4, .ref 89), (5, .ref 1030)]) dL_place_19 (by decide) rfl ?_
      refine a_iconst (pc := 21) (v := nI 2) dL_place_21 (by decide) ?_
      exact a_ireturn (pc := 22) dL_place_22 rfl rfl (⟨(by rw [hE, show kn [eIO, eIA] (.inr eIA) = 2 from by decide +kernel]), (fun w hw => by rw [hE] at hw; cases hw), q.2.1, q.2.2.fo⟩)
theorem re_stock {t : ST} {x w : Int32} : RIe [eIA] (rStock (tC t) x w) := RIe.c (RIe.s (by intro v hv; simp only [List.mem_cons, List.not_mem_nil, or_false] at hv; rcases hv with rfl | rfl | rfl <;> exact RIe.i) (RIe.e (by simp))) (RIe.e (by simp))
theorem ceL_stock : CEH mL_stock 4 := ⟨⟨tbi 702 (by decide +kernel), tbi 0 (by decide +kernel)⟩, ⟨by decide +kernel, by decide +kernel, by decide +kernel⟩, by decide⟩
theorem ct_stock_0 : CT mL_stock 5 eIA 13 := ⟨[], ⟨0, 10, 13, 13⟩, [], rfl, (fun z hz => by cases hz), by decide, by decide, tbi 528 (by decide +kernel), tbj 454 (by decide +kernel), rfl⟩
set_option maxHeartbeats 1500000 in
set_option maxRecDepth 100000 in
theorem sL_stock {d : Nat} {h : AH} {t : ST} {x w : Int32} (m : IM h t) : AH' mL_stock (d + 101) 1 6 [.ref 0, .int x, .int w, .ref 89] h (Ql [eIA] (rStock (tC t) x w) t h) := by
  have hn := m.1.1.1
  refine AH'.of (by decide) (fun E h' q => by cases q.1) (Nat.le_of_ble_eq_true rfl) (fun X => ?_)
  show AW X mL_stock (d + 101) 1 6 0 [(0, .ref 0), (1, .int x), (2, .int w), (3, .ref 89)] [] h (Ql [eIA] (rStock (tC t) x w) t h)
  refine a_aload_n (pc := 0) (i := 3) dL_stock_0 rfl rfl ?_
  refine a_iconst (pc := 1) (v := nI 0) dL_stock_1 (by decide) ?_
  refine a_aload_n (pc := 2) (i := 0) dL_stock_2 rfl rfl ?_
  refine a_iload_n (pc := 3) (i := 1) dL_stock_3 rfl rfl ?_
  refine a_iload_n (pc := 4) (i := 2) dL_stock_4 rfl rfl ?_
  refine a_callVC (pc := 5) (kc := 0) (ks := 0) (mc := 1) (ms := 6) (as := [.int x, .int w]) (b := 0) (ci := 4) dL_stock_5 (lc_RL_28 rfl) ceX4_stock rfl (lt90 hn (by omega)) (w_stock (d := d) m) rfl rfl (Nat.le_of_ble_eq_true rfl) Qw.n (no1030 rfl) (fun v h1 q => ?_) (fun E h1 q => ?_)
  · obtain ⟨u, hu⟩ : ∃ u, (rStock (tC t) x w) = ri u := by
      rcases re_stock (t := t) (x := x) (w := w) with z | ⟨E, z, -⟩
      · exact z
      · exact absurd (q.1.trans z) (by simp)
    have ev : v = some (.int u) := Sum.inl.inj (q.1.trans hu)
    subst ev
    have hn1 : hN h1 = 90 := q.2.2.1.trans hn
    refine a_i2l (pc := 8) dL_stock_8 ?_
    refine a_last (pc := 9) (j := 0) dL_stock_9 rfl (lt90 hn1 (shK_lt (show shK 89 = _ from rfl))) rfl (by omega) ?_
    refine a_goto (pc := 10) (tgt := 17) dL_stock_10 (by decide) ?_
    refine a_iconst (pc := 17) (v := nI 0) dL_stock_17 (by decide) ?_
    exact a_ireturn (pc := 18) dL_stock_18 rfl rfl (⟨(by rw [hu]; rfl), (fun w hw => by
      rw [hu] at hw
      have := Value.int.inj (Option.some.inj (Sum.inl.inj hw))
      subst this
      rw [hL_sL]
      exact if_pos ⟨rfl, rfl⟩), q.2.1.out, q.2.2.fo.out⟩)
  · obtain ⟨E2, hE, hm⟩ : ∃ E2, (rStock (tC t) x w) = .inr E2 ∧ E2 ∈ [eIA] := by
      rcases re_stock (t := t) (x := x) (w := w) with ⟨u, z⟩ | z
      · exact absurd (q.1.trans z) (by simp [ri])
      · exact z
    have eE : E = E2 := Sum.inr.inj (q.1.trans hE)
    subst eE
    simp only [List.mem_cons, List.not_mem_nil, or_false] at hm
    rcases hm with rfl
    · refine ⟨13, ct_stock_0, ?_⟩
      refine a_astore (pc := 13) (i := 4) (ls' := [(0, .ref 0), (1, .int x), (2, .int w), (3, .ref 89), (4, .ref 1030)]) dL_stock_13 (by decide) rfl ?_
      refine a_iconst (pc := 15) (v := nI 1) dL_stock_15 (by decide) ?_
      exact a_ireturn (pc := 16) dL_stock_16 rfl rfl (⟨(by rw [hE, show kn [eIA] (.inr eIA) = 1 from by decide +kernel]), (fun w hw => by rw [hE] at hw; cases hw), q.2.1, q.2.2.fo⟩)
theorem re_message {t : ST} {x : Int32} : RIe [eNS] (rMessage (tC t) x) := RIe.c RIe.i (RIe.e (by simp))
theorem ceL_message : CEH mL_message 3 := ⟨⟨tbi 714 (by decide +kernel), tbi 0 (by decide +kernel)⟩, ⟨by decide +kernel, by decide +kernel, by decide +kernel⟩, by decide⟩
theorem ct_message_0 : CT mL_message 4 eNS 12 := ⟨[], ⟨0, 9, 12, 34⟩, [], rfl, (fun z hz => by cases hz), by decide, by decide, tbi 715 (by decide +kernel), tbj 723 (by decide +kernel), rfl⟩
set_option maxHeartbeats 1500000 in
set_option maxRecDepth 100000 in
theorem sL_message {d : Nat} {h : AH} {t : ST} {x : Int32} (m : IM h t) : AH' mL_message (d + 101) 1 6 [.ref 0, .int x, .ref 89] h (Ql [eNS] (rMessage (tC t) x) t h) := by
  have hn := m.1.1.1
  refine AH'.of (by decide) (fun E h' q => by cases q.1) (Nat.le_of_ble_eq_true rfl) (fun X => ?_)
  show AW X mL_message (d + 101) 1 6 0 [(0, .ref 0), (1, .int x), (2, .ref 89)] [] h (Ql [eNS] (rMessage (tC t) x) t h)
  refine a_aload_n (pc := 0) (i := 2) dL_message_0 rfl rfl ?_
  refine a_iconst (pc := 1) (v := nI 0) dL_message_1 (by decide) ?_
  refine a_aload_n (pc := 2) (i := 0) dL_message_2 rfl rfl ?_
  refine a_iload_n (pc := 3) (i := 1) dL_message_3 rfl rfl ?_
  refine a_callVC (pc := 4) (kc := 0) (ks := 0) (mc := 1) (ms := 6) (as := [.int x]) (b := 0) (ci := 4) dL_message_4 (lc_RL_31 rfl) ceX4_message rfl (lt90 hn (by omega)) (w_message (d := d) m) rfl rfl (Nat.le_of_ble_eq_true rfl) Qw.n (no1030 rfl) (fun v h1 q => ?_) (fun E h1 q => ?_)
  · obtain ⟨u, hu⟩ : ∃ u, (rMessage (tC t) x) = ri u := by
      rcases re_message (t := t) (x := x) with z | ⟨E, z, -⟩
      · exact z
      · exact absurd (q.1.trans z) (by simp)
    have ev : v = some (.int u) := Sum.inl.inj (q.1.trans hu)
    subst ev
    have hn1 : hN h1 = 90 := q.2.2.1.trans hn
    refine a_i2l (pc := 7) dL_message_7 ?_
    refine a_last (pc := 8) (j := 0) dL_message_8 rfl (lt90 hn1 (shK_lt (show shK 89 = _ from rfl))) rfl (by omega) ?_
    refine a_goto (pc := 9) (tgt := 15) dL_message_9 (by decide) ?_
    refine a_iconst (pc := 15) (v := nI 0) dL_message_15 (by decide) ?_
    exact a_ireturn (pc := 16) dL_message_16 rfl rfl (⟨(by rw [hu]; rfl), (fun w hw => by
      rw [hu] at hw
      have := Value.int.inj (Option.some.inj (Sum.inl.inj hw))
      subst this
      rw [hL_sL]
      exact if_pos ⟨rfl, rfl⟩), q.2.1.out, q.2.2.fo.out⟩)
  · obtain ⟨E2, hE, hm⟩ : ∃ E2, (rMessage (tC t) x) = .inr E2 ∧ E2 ∈ [eNS] := by
      rcases re_message (t := t) (x := x) with ⟨u, z⟩ | z
      · exact absurd (q.1.trans z) (by simp [ri])
      · exact z
    have eE : E = E2 := Sum.inr.inj (q.1.trans hE)
    subst eE
    simp only [List.mem_cons, List.not_mem_nil, or_false] at hm
    rcases hm with rfl
    · refine ⟨12, ct_message_0, ?_⟩
      refine a_astore_n (pc := 12) (i := 3) (ls' := [(0, .ref 0), (1, .int x), (2, .ref 89), (3, .ref 1030)]) dL_message_12 rfl (by decide) rfl ?_
      refine a_iconst (pc := 13) (v := nI 1) dL_message_13 (by decide) ?_
      exact a_ireturn (pc := 14) dL_message_14 rfl rfl (⟨(by rw [hE, show kn [eNS] (.inr eNS) = 1 from by decide +kernel]), (fun w hw => by rw [hE] at hw; cases hw), q.2.1, q.2.2.fo⟩)
theorem re_cutOf {t : ST} {k w : Int32} : RIe [eNS, eIA] (rCutOf (tC t) k w) := RIe.c (RIe.s (by intro v hv; simp only [List.mem_cons, List.not_mem_nil, or_false] at hv; rcases hv with rfl | rfl | rfl | rfl <;> exact RIe.i) (RIe.e (by simp))) (RIe.e (by simp))
theorem ceL_cutOf : CEH mL_cutOf 4 := ⟨⟨tbi 738 (by decide +kernel), tbi 0 (by decide +kernel)⟩, ⟨by decide +kernel, by decide +kernel, by decide +kernel⟩, by decide⟩
theorem ct_cutOf_0 : CT mL_cutOf 5 eNS 13 := ⟨[], ⟨0, 10, 13, 34⟩, [⟨0, 10, 17, 13⟩], rfl, (fun z hz => by cases hz), by decide, by decide, tbi 715 (by decide +kernel), tbj 723 (by decide +kernel), rfl⟩
theorem ct_cutOf_1 : CT mL_cutOf 5 eIA 17 := ⟨[⟨0, 10, 13, 34⟩], ⟨0, 10, 17, 13⟩, [], rfl, (fun z hz => by
    simp only [List.mem_cons, List.not_mem_nil, or_false] at hz
    rcases hz with rfl
    · exact Or.inr ⟨by decide, eNS, tbi 715 (by decide +kernel), by simp [zNc]⟩), by decide, by decide, tbi 528 (by decide +kernel), tbj 454 (by decide +kernel), rfl⟩
set_option maxHeartbeats 1500000 in
set_option maxRecDepth 100000 in
theorem sL_cutOf {d : Nat} {h : AH} {t : ST} {k w : Int32} (m : IM h t) : AH' mL_cutOf (d + 101) 1 6 [.ref 0, .int k, .int w, .ref 89] h (Ql [eNS, eIA] (rCutOf (tC t) k w) t h) := by
  have hn := m.1.1.1
  refine AH'.of (by decide) (fun E h' q => by cases q.1) (Nat.le_of_ble_eq_true rfl) (fun X => ?_)
  show AW X mL_cutOf (d + 101) 1 6 0 [(0, .ref 0), (1, .int k), (2, .int w), (3, .ref 89)] [] h (Ql [eNS, eIA] (rCutOf (tC t) k w) t h)
  refine a_aload_n (pc := 0) (i := 3) dL_cutOf_0 rfl rfl ?_
  refine a_iconst (pc := 1) (v := nI 0) dL_cutOf_1 (by decide) ?_
  refine a_aload_n (pc := 2) (i := 0) dL_cutOf_2 rfl rfl ?_
  refine a_iload_n (pc := 3) (i := 1) dL_cutOf_3 rfl rfl ?_
  refine a_iload_n (pc := 4) (i := 2) dL_cutOf_4 rfl rfl ?_
  refine a_callVC (pc := 5) (kc := 0) (ks := 0) (mc := 1) (ms := 6) (as := [.int k, .int w]) (b := 0) (ci := 4) dL_cutOf_5 (lc_RL_36 rfl) ceX4_cutOf rfl (lt90 hn (by omega)) (sp_cutOf (d := d) m) rfl rfl (Nat.le_of_ble_eq_true rfl) Qw.n (no1030 rfl) (fun v h1 q => ?_) (fun E h1 q => ?_)
  · obtain ⟨u, hu⟩ : ∃ u, (rCutOf (tC t) k w) = ri u := by
      rcases re_cutOf (t := t) (k := k) (w := w) with z | ⟨E, z, -⟩
      · exact z
      · exact absurd (q.1.trans z) (by simp)
    have ev : v = some (.int u) := Sum.inl.inj (q.1.trans hu)
    subst ev
    have hn1 : hN h1 = 90 := q.2.2.1.trans hn
    refine a_i2l (pc := 8) dL_cutOf_8 ?_
    refine a_last (pc := 9) (j := 0) dL_cutOf_9 rfl (lt90 hn1 (shK_lt (show shK 89 = _ from rfl))) rfl (by omega) ?_
    refine a_goto (pc := 10) (tgt := 21) dL_cutOf_10 (by decide) ?_
    refine a_iconst (pc := 21) (v := nI 0) dL_cutOf_21 (by decide) ?_
    exact a_ireturn (pc := 22) dL_cutOf_22 rfl rfl (⟨(by rw [hu]; rfl), (fun w hw => by
      rw [hu] at hw
      have := Value.int.inj (Option.some.inj (Sum.inl.inj hw))
      subst this
      rw [hL_sL]
      exact if_pos ⟨rfl, rfl⟩), q.2.1.out, q.2.2.fo.out⟩)
  · obtain ⟨E2, hE, hm⟩ : ∃ E2, (rCutOf (tC t) k w) = .inr E2 ∧ E2 ∈ [eNS, eIA] := by
      rcases re_cutOf (t := t) (k := k) (w := w) with ⟨u, z⟩ | z
      · exact absurd (q.1.trans z) (by simp [ri])
      · exact z
    have eE : E = E2 := Sum.inr.inj (q.1.trans hE)
    subst eE
    simp only [List.mem_cons, List.not_mem_nil, or_false] at hm
    rcases hm with rfl | rfl
    · refine ⟨13, ct_cutOf_0, ?_⟩
      refine a_astore (pc := 13) (i := 4) (ls' := [(0, .ref 0), (1, .int k), (2, .int w), (3, .ref 89), (4, .ref 1030)]) dL_cutOf_13 (by decide) rfl ?_
      refine a_iconst (pc := 15) (v := nI 1) dL_cutOf_15 (by decide) ?_
      exact a_ireturn (pc := 16) dL_cutOf_16 rfl rfl (⟨(by rw [hE, show kn [eNS, eIA] (.inr eNS) = 1 from by decide +kernel]), (fun w hw => by rw [hE] at hw; cases hw), q.2.1, q.2.2.fo⟩)
    · refine ⟨17, ct_cutOf_1, ?_⟩
      refine a_astore (pc := 17) (i := 4) (ls' := [(0, .ref 0), (1, .int k), (2, .int w), (3, .ref 89), (4, .ref 1030)]) dL_cutOf_17 (by decide) rfl ?_
      refine a_iconst (pc := 19) (v := nI 2) dL_cutOf_19 (by decide) ?_
      exact a_ireturn (pc := 20) dL_cutOf_20 rfl rfl (⟨(by rw [hE, show kn [eNS, eIA] (.inr eIA) = 2 from by decide +kernel]), (fun w hw => by rw [hE] at hw; cases hw), q.2.1, q.2.2.fo⟩)
theorem re_longest {t : ST} {x : Int32} : RIe [eNS] (rLongest (tC t) x) := RIe.c RIe.i (RIe.e (by simp))
theorem ceL_longest : CEH mL_longest 3 := ⟨⟨tbi 746 (by decide +kernel), tbi 0 (by decide +kernel)⟩, ⟨by decide +kernel, by decide +kernel, by decide +kernel⟩, by decide⟩
theorem ct_longest_0 : CT mL_longest 4 eNS 12 := ⟨[], ⟨0, 9, 12, 34⟩, [], rfl, (fun z hz => by cases hz), by decide, by decide, tbi 715 (by decide +kernel), tbj 723 (by decide +kernel), rfl⟩
set_option maxHeartbeats 1500000 in
set_option maxRecDepth 100000 in
theorem sL_longest {d : Nat} {h : AH} {t : ST} {x : Int32} (m : IM h t) : AH' mL_longest (d + 101) 1 6 [.ref 0, .int x, .ref 89] h (Ql [eNS] (rLongest (tC t) x) t h) := by
  have hn := m.1.1.1
  refine AH'.of (by decide) (fun E h' q => by cases q.1) (Nat.le_of_ble_eq_true rfl) (fun X => ?_)
  show AW X mL_longest (d + 101) 1 6 0 [(0, .ref 0), (1, .int x), (2, .ref 89)] [] h (Ql [eNS] (rLongest (tC t) x) t h)
  refine a_aload_n (pc := 0) (i := 2) dL_longest_0 rfl rfl ?_
  refine a_iconst (pc := 1) (v := nI 0) dL_longest_1 (by decide) ?_
  refine a_aload_n (pc := 2) (i := 0) dL_longest_2 rfl rfl ?_
  refine a_iload_n (pc := 3) (i := 1) dL_longest_3 rfl rfl ?_
  refine a_callVC (pc := 4) (kc := 0) (ks := 0) (mc := 1) (ms := 6) (as := [.int x]) (b := 0) (ci := 4) dL_longest_4 (lc_RL_39 rfl) ceX4_longest rfl (lt90 hn (by omega)) (w_longest (d := d) m) rfl rfl (Nat.le_of_ble_eq_true rfl) Qw.n (no1030 rfl) (fun v h1 q => ?_) (fun E h1 q => ?_)
  · obtain ⟨u, hu⟩ : ∃ u, (rLongest (tC t) x) = ri u := by
      rcases re_longest (t := t) (x := x) with z | ⟨E, z, -⟩
      · exact z
      · exact absurd (q.1.trans z) (by simp)
    have ev : v = some (.int u) := Sum.inl.inj (q.1.trans hu)
    subst ev
    have hn1 : hN h1 = 90 := q.2.2.1.trans hn
    refine a_i2l (pc := 7) dL_longest_7 ?_
    refine a_last (pc := 8) (j := 0) dL_longest_8 rfl (lt90 hn1 (shK_lt (show shK 89 = _ from rfl))) rfl (by omega) ?_
    refine a_goto (pc := 9) (tgt := 15) dL_longest_9 (by decide) ?_
    refine a_iconst (pc := 15) (v := nI 0) dL_longest_15 (by decide) ?_
    exact a_ireturn (pc := 16) dL_longest_16 rfl rfl (⟨(by rw [hu]; rfl), (fun w hw => by
      rw [hu] at hw
      have := Value.int.inj (Option.some.inj (Sum.inl.inj hw))
      subst this
      rw [hL_sL]
      exact if_pos ⟨rfl, rfl⟩), q.2.1.out, q.2.2.fo.out⟩)
  · obtain ⟨E2, hE, hm⟩ : ∃ E2, (rLongest (tC t) x) = .inr E2 ∧ E2 ∈ [eNS] := by
      rcases re_longest (t := t) (x := x) with ⟨u, z⟩ | z
      · exact absurd (q.1.trans z) (by simp [ri])
      · exact z
    have eE : E = E2 := Sum.inr.inj (q.1.trans hE)
    subst eE
    simp only [List.mem_cons, List.not_mem_nil, or_false] at hm
    rcases hm with rfl
    · refine ⟨12, ct_longest_0, ?_⟩
      refine a_astore_n (pc := 12) (i := 3) (ls' := [(0, .ref 0), (1, .int x), (2, .ref 89), (3, .ref 1030)]) dL_longest_12 rfl (by decide) rfl ?_
      refine a_iconst (pc := 13) (v := nI 1) dL_longest_13 (by decide) ?_
      exact a_ireturn (pc := 14) dL_longest_14 rfl rfl (⟨(by rw [hE, show kn [eNS] (.inr eNS) = 1 from by decide +kernel]), (fun w hw => by rw [hE] at hw; cases hw), q.2.1, q.2.2.fo⟩)
theorem re_tell {t : ST} {x : Int32} : RIe [eIA] (oTell t x).1 := RIe.p RIe.i (RIe.e (by simp))
theorem ceL_tell : CEH mL_tell 3 := ⟨⟨tbi 755 (by decide +kernel), tbi 0 (by decide +kernel)⟩, ⟨by decide +kernel, by decide +kernel, by decide +kernel⟩, by decide⟩
theorem ct_tell_0 : CT mL_tell 4 eIA 12 := ⟨[], ⟨0, 9, 12, 13⟩, [], rfl, (fun z hz => by cases hz), by decide, by decide, tbi 528 (by decide +kernel), tbj 454 (by decide +kernel), rfl⟩
set_option maxHeartbeats 1500000 in
set_option maxRecDepth 100000 in
theorem sL_tell {d : Nat} {h : AH} {t : ST} {x : Int32} (m : IM h t) : AH' mL_tell (d + 101) 1 6 [.ref 0, .int x, .ref 89] h (Ql [eIA] (oTell t x).1 (oTell t x).2 h) := by
  have hn := m.1.1.1
  refine AH'.of (by decide) (fun E h' q => by cases q.1) (Nat.le_of_ble_eq_true rfl) (fun X => ?_)
  show AW X mL_tell (d + 101) 1 6 0 [(0, .ref 0), (1, .int x), (2, .ref 89)] [] h (Ql [eIA] (oTell t x).1 (oTell t x).2 h)
  refine a_aload_n (pc := 0) (i := 2) dL_tell_0 rfl rfl ?_
  refine a_iconst (pc := 1) (v := nI 0) dL_tell_1 (by decide) ?_
  refine a_aload_n (pc := 2) (i := 0) dL_tell_2 rfl rfl ?_
  refine a_iload_n (pc := 3) (i := 1) dL_tell_3 rfl rfl ?_
  refine a_callVC (pc := 4) (kc := 0) (ks := 0) (mc := 1) (ms := 6) (as := [.int x]) (b := 0) (ci := 4) dL_tell_4 (lc_RL_42 rfl) ceX4_tell rfl (lt90 hn (by omega)) (sp_tell (d := d) m) rfl rfl (Nat.le_of_ble_eq_true rfl) Qw.n (no1030 rfl) (fun v h1 q => ?_) (fun E h1 q => ?_)
  · obtain ⟨u, hu⟩ : ∃ u, (oTell t x).1 = ri u := by
      rcases re_tell (t := t) (x := x) with z | ⟨E, z, -⟩
      · exact z
      · exact absurd (q.1.trans z) (by simp)
    have ev : v = some (.int u) := Sum.inl.inj (q.1.trans hu)
    subst ev
    have hn1 : hN h1 = 90 := q.2.2.1.trans hn
    refine a_i2l (pc := 7) dL_tell_7 ?_
    refine a_last (pc := 8) (j := 0) dL_tell_8 rfl (lt90 hn1 (shK_lt (show shK 89 = _ from rfl))) rfl (by omega) ?_
    refine a_goto (pc := 9) (tgt := 15) dL_tell_9 (by decide) ?_
    refine a_iconst (pc := 15) (v := nI 0) dL_tell_15 (by decide) ?_
    exact a_ireturn (pc := 16) dL_tell_16 rfl rfl (⟨(by rw [hu]; rfl), (fun w hw => by
      rw [hu] at hw
      have := Value.int.inj (Option.some.inj (Sum.inl.inj hw))
      subst this
      rw [hL_sL]
      exact if_pos ⟨rfl, rfl⟩), q.2.1.out, q.2.2.fo.out⟩)
  · obtain ⟨E2, hE, hm⟩ : ∃ E2, (oTell t x).1 = .inr E2 ∧ E2 ∈ [eIA] := by
      rcases re_tell (t := t) (x := x) with ⟨u, z⟩ | z
      · exact absurd (q.1.trans z) (by simp [ri])
      · exact z
    have eE : E = E2 := Sum.inr.inj (q.1.trans hE)
    subst eE
    simp only [List.mem_cons, List.not_mem_nil, or_false] at hm
    rcases hm with rfl
    · refine ⟨12, ct_tell_0, ?_⟩
      refine a_astore_n (pc := 12) (i := 3) (ls' := [(0, .ref 0), (1, .int x), (2, .ref 89), (3, .ref 1030)]) dL_tell_12 rfl (by decide) rfl ?_
      refine a_iconst (pc := 13) (v := nI 1) dL_tell_13 (by decide) ?_
      exact a_ireturn (pc := 14) dL_tell_14 rfl rfl (⟨(by rw [hE, show kn [eIA] (.inr eIA) = 1 from by decide +kernel]), (fun w hw => by rw [hE] at hw; cases hw), q.2.1, q.2.2.fo⟩)
theorem re_cut {t : ST} : RIe [eIS] (oCut t).1 := RIe.p (RIe.e (by simp)) RIe.i
theorem ceL_cut : CEH mL_cut 2 := ⟨⟨tbi 767 (by decide +kernel), tbi 0 (by decide +kernel)⟩, ⟨by decide +kernel, by decide +kernel, by decide +kernel⟩, by decide⟩
theorem ct_cut_0 : CT mL_cut 3 eIS 11 := ⟨[], ⟨0, 8, 11, 49⟩, [], rfl, (fun z hz => by cases hz), by decide, by decide, tbi 768 (by decide +kernel), tbj 775 (by decide +kernel), rfl⟩
set_option maxHeartbeats 1500000 in
set_option maxRecDepth 100000 in
theorem sL_cut {d : Nat} {h : AH} {t : ST} (m : IM h t) : AH' mL_cut (d + 101) 1 6 [.ref 0, .ref 89] h (Ql [eIS] (oCut t).1 (oCut t).2 h) := by
  have hn := m.1.1.1
  refine AH'.of (by decide) (fun E h' q => by cases q.1) (Nat.le_of_ble_eq_true rfl) (fun X => ?_)
  show AW X mL_cut (d + 101) 1 6 0 [(0, .ref 0), (1, .ref 89)] [] h (Ql [eIS] (oCut t).1 (oCut t).2 h)
  refine a_aload_n (pc := 0) (i := 1) dL_cut_0 rfl rfl ?_
  refine a_iconst (pc := 1) (v := nI 0) dL_cut_1 (by decide) ?_
  refine a_aload_n (pc := 2) (i := 0) dL_cut_2 rfl rfl ?_
  refine a_callVC (pc := 3) (kc := 0) (ks := 0) (mc := 1) (ms := 6) (as := []) (b := 0) (ci := 4) dL_cut_3 (lc_RL_45 rfl) ceX4_cut rfl (lt90 hn (by omega)) (sp_cut (d := d) m) rfl rfl (Nat.le_of_ble_eq_true rfl) Qw.n (no1030 rfl) (fun v h1 q => ?_) (fun E h1 q => ?_)
  · obtain ⟨u, hu⟩ : ∃ u, (oCut t).1 = ri u := by
      rcases re_cut (t := t) with z | ⟨E, z, -⟩
      · exact z
      · exact absurd (q.1.trans z) (by simp)
    have ev : v = some (.int u) := Sum.inl.inj (q.1.trans hu)
    subst ev
    have hn1 : hN h1 = 90 := q.2.2.1.trans hn
    refine a_i2l (pc := 6) dL_cut_6 ?_
    refine a_last (pc := 7) (j := 0) dL_cut_7 rfl (lt90 hn1 (shK_lt (show shK 89 = _ from rfl))) rfl (by omega) ?_
    refine a_goto (pc := 8) (tgt := 14) dL_cut_8 (by decide) ?_
    refine a_iconst (pc := 14) (v := nI 0) dL_cut_14 (by decide) ?_
    exact a_ireturn (pc := 15) dL_cut_15 rfl rfl (⟨(by rw [hu]; rfl), (fun w hw => by
      rw [hu] at hw
      have := Value.int.inj (Option.some.inj (Sum.inl.inj hw))
      subst this
      rw [hL_sL]
      exact if_pos ⟨rfl, rfl⟩), q.2.1.out, q.2.2.fo.out⟩)
  · obtain ⟨E2, hE, hm⟩ : ∃ E2, (oCut t).1 = .inr E2 ∧ E2 ∈ [eIS] := by
      rcases re_cut (t := t) with ⟨u, z⟩ | z
      · exact absurd (q.1.trans z) (by simp [ri])
      · exact z
    have eE : E = E2 := Sum.inr.inj (q.1.trans hE)
    subst eE
    simp only [List.mem_cons, List.not_mem_nil, or_false] at hm
    rcases hm with rfl
    · refine ⟨11, ct_cut_0, ?_⟩
      refine a_astore_n (pc := 11) (i := 2) (ls' := [(0, .ref 0), (1, .ref 89), (2, .ref 1030)]) dL_cut_11 rfl (by decide) rfl ?_
      refine a_iconst (pc := 12) (v := nI 1) dL_cut_12 (by decide) ?_
      exact a_ireturn (pc := 13) dL_cut_13 rfl rfl (⟨(by rw [hE, show kn [eIS] (.inr eIS) = 1 from by decide +kernel]), (fun w hw => by rw [hE] at hw; cases hw), q.2.1, q.2.2.fo⟩)
theorem re_snip {t : ST} {x y n : Int32} : RIe [eIO, eIA, eIS] (oSnip t x y n).1 := RIe.p (RIe.p (RIe.p RIe.i (RIe.e (by simp))) (RIe.e (by simp))) (RIe.e (by simp))
theorem ceL_snip : CEH mL_snip 5 := ⟨⟨tbi 794 (by decide +kernel), tbi 0 (by decide +kernel)⟩, ⟨by decide +kernel, by decide +kernel, by decide +kernel⟩, by decide⟩
theorem ct_snip_0 : CT mL_snip 7 eIO 15 := ⟨[], ⟨0, 12, 15, 22⟩, [⟨0, 12, 19, 13⟩, ⟨0, 12, 23, 49⟩], rfl, (fun z hz => by cases hz), by decide, by decide, tbi 661 (by decide +kernel), tbj 672 (by decide +kernel), rfl⟩
theorem ct_snip_1 : CT mL_snip 7 eIA 19 := ⟨[⟨0, 12, 15, 22⟩], ⟨0, 12, 19, 13⟩, [⟨0, 12, 23, 49⟩], rfl, (fun z hz => by
    simp only [List.mem_cons, List.not_mem_nil, or_false] at hz
    rcases hz with rfl
    · exact Or.inr ⟨by decide, eIO, tbi 661 (by decide +kernel), by simp [zNc]⟩), by decide, by decide, tbi 528 (by decide +kernel), tbj 454 (by decide +kernel), rfl⟩
theorem ct_snip_2 : CT mL_snip 7 eIS 23 := ⟨[⟨0, 12, 15, 22⟩, ⟨0, 12, 19, 13⟩], ⟨0, 12, 23, 49⟩, [], rfl, (fun z hz => by
    simp only [List.mem_cons, List.not_mem_nil, or_false] at hz
    rcases hz with rfl | rfl
    · exact Or.inr ⟨by decide, eIO, tbi 661 (by decide +kernel), by simp [zNc]⟩
    · exact Or.inr ⟨by decide, eIA, tbi 528 (by decide +kernel), by simp [zNc]⟩), by decide, by decide, tbi 768 (by decide +kernel), tbj 775 (by decide +kernel), rfl⟩
set_option maxHeartbeats 1500000 in
set_option maxRecDepth 100000 in
theorem sL_snip {d : Nat} {h : AH} {t : ST} {x y n : Int32} (m : IM h t) : AH' mL_snip (d + 101) 1 6 [.ref 0, .int x, .int y, .int n, .ref 89] h (Ql [eIO, eIA, eIS] (oSnip t x y n).1 (oSnip t x y n).2 h) := by
  have hn := m.1.1.1
  refine AH'.of (by decide) (fun E h' q => by cases q.1) (Nat.le_of_ble_eq_true rfl) (fun X => ?_)
  show AW X mL_snip (d + 101) 1 6 0 [(0, .ref 0), (1, .int x), (2, .int y), (3, .int n), (4, .ref 89)] [] h (Ql [eIO, eIA, eIS] (oSnip t x y n).1 (oSnip t x y n).2 h)
  refine a_aload (pc := 0) (i := 4) dL_snip_0 rfl ?_
  refine a_iconst (pc := 2) (v := nI 0) dL_snip_2 (by decide) ?_
  refine a_aload_n (pc := 3) (i := 0) dL_snip_3 rfl rfl ?_
  refine a_iload_n (pc := 4) (i := 1) dL_snip_4 rfl rfl ?_
  refine a_iload_n (pc := 5) (i := 2) dL_snip_5 rfl rfl ?_
  refine a_iload_n (pc := 6) (i := 3) dL_snip_6 rfl rfl ?_
  refine a_callVC (pc := 7) (kc := 0) (ks := 0) (mc := 1) (ms := 6) (as := [.int x, .int y, .int n]) (b := 0) (ci := 4) dL_snip_7 (lc_RL_51 rfl) ceX4_snip rfl (lt90 hn (by omega)) (sp_snip (d := d) m) rfl rfl (Nat.le_of_ble_eq_true rfl) Qw.n (no1030 rfl) (fun v h1 q => ?_) (fun E h1 q => ?_)
  · obtain ⟨u, hu⟩ : ∃ u, (oSnip t x y n).1 = ri u := by
      rcases re_snip (t := t) (x := x) (y := y) (n := n) with z | ⟨E, z, -⟩
      · exact z
      · exact absurd (q.1.trans z) (by simp)
    have ev : v = some (.int u) := Sum.inl.inj (q.1.trans hu)
    subst ev
    have hn1 : hN h1 = 90 := q.2.2.1.trans hn
    refine a_i2l (pc := 10) dL_snip_10 ?_
    refine a_last (pc := 11) (j := 0) dL_snip_11 rfl (lt90 hn1 (shK_lt (show shK 89 = _ from rfl))) rfl (by omega) ?_
    refine a_goto (pc := 12) (tgt := 27) dL_snip_12 (by decide) ?_
    refine a_iconst (pc := 27) (v := nI 0) dL_snip_27 (by decide) ?_
    exact a_ireturn (pc := 28) dL_snip_28 rfl rfl (⟨(by rw [hu]; rfl), (fun w hw => by
      rw [hu] at hw
      have := Value.int.inj (Option.some.inj (Sum.inl.inj hw))
      subst this
      rw [hL_sL]
      exact if_pos ⟨rfl, rfl⟩), q.2.1.out, q.2.2.fo.out⟩)
  · obtain ⟨E2, hE, hm⟩ : ∃ E2, (oSnip t x y n).1 = .inr E2 ∧ E2 ∈ [eIO, eIA, eIS] := by
      rcases re_snip (t := t) (x := x) (y := y) (n := n) with ⟨u, z⟩ | z
      · exact absurd (q.1.trans z) (by simp [ri])
      · exact z
    have eE : E = E2 := Sum.inr.inj (q.1.trans hE)
    subst eE
    simp only [List.mem_cons, List.not_mem_nil, or_false] at hm
    rcases hm with rfl | rfl | rfl
    · refine ⟨15, ct_snip_0, ?_⟩
      refine a_astore (pc := 15) (i := 5) (ls' := [(0, .ref 0), (1, .int x), (2, .int y), (3, .int n), (4, .ref 89), (5, .ref 1030)]) dL_snip_15 (by decide) rfl ?_
      refine a_iconst (pc := 17) (v := nI 1) dL_snip_17 (by decide) ?_
      exact a_ireturn (pc := 18) dL_snip_18 rfl rfl (⟨(by rw [hE, show kn [eIO, eIA, eIS] (.inr eIO) = 1 from by decide +kernel]), (fun w hw => by rw [hE] at hw; cases hw), q.2.1, q.2.2.fo⟩)
    · refine ⟨19, ct_snip_1, ?_⟩
      refine a_astore (pc := 19) (i := 5) (ls' := [(0, .ref 0), (1, .int x), (2, .int y), (3, .int n), (4, .ref 89), (5, .ref 1030)]) dL_snip_19 (by decide) rfl ?_
      refine a_iconst (pc := 21) (v := nI 2) dL_snip_21 (by decide) ?_
      exact a_ireturn (pc := 22) dL_snip_22 rfl rfl (⟨(by rw [hE, show kn [eIO, eIA, eIS] (.inr eIA) = 2 from by decide +kernel]), (fun w hw => by rw [hE] at hw; cases hw), q.2.1, q.2.2.fo⟩)
    · refine ⟨23, ct_snip_2, ?_⟩
      refine a_astore (pc := 23) (i := 5) (ls' := [(0, .ref 0), (1, .int x), (2, .int y), (3, .int n), (4, .ref 89), (5, .ref 1030)]) dL_snip_23 (by decide) rfl ?_
      refine a_iconst (pc := 25) (v := nI 3) dL_snip_25 (by decide) ?_
      exact a_ireturn (pc := 26) dL_snip_26 rfl rfl (⟨(by rw [hE, show kn [eIO, eIA, eIS] (.inr eIS) = 3 from by decide +kernel]), (fun w hw => by rw [hE] at hw; cases hw), q.2.1, q.2.2.fo⟩)
theorem re_least {t : ST} {x : Int32} : RIe [eIA] (oLeast t x).1 := RIe.p RIe.i (RIe.e (by simp))
theorem ceL_least : CEH mL_least 3 := ⟨⟨tbi 809 (by decide +kernel), tbi 0 (by decide +kernel)⟩, ⟨by decide +kernel, by decide +kernel, by decide +kernel⟩, by decide⟩
theorem ct_least_0 : CT mL_least 4 eIA 12 := ⟨[], ⟨0, 9, 12, 13⟩, [], rfl, (fun z hz => by cases hz), by decide, by decide, tbi 528 (by decide +kernel), tbj 454 (by decide +kernel), rfl⟩
set_option maxHeartbeats 1500000 in
set_option maxRecDepth 100000 in
theorem sL_least {d : Nat} {h : AH} {t : ST} {x : Int32} (m : IM h t) : AH' mL_least (d + 101) 1 6 [.ref 0, .int x, .ref 89] h (Ql [eIA] (oLeast t x).1 (oLeast t x).2 h) := by
  have hn := m.1.1.1
  refine AH'.of (by decide) (fun E h' q => by cases q.1) (Nat.le_of_ble_eq_true rfl) (fun X => ?_)
  show AW X mL_least (d + 101) 1 6 0 [(0, .ref 0), (1, .int x), (2, .ref 89)] [] h (Ql [eIA] (oLeast t x).1 (oLeast t x).2 h)
  refine a_aload_n (pc := 0) (i := 2) dL_least_0 rfl rfl ?_
  refine a_iconst (pc := 1) (v := nI 0) dL_least_1 (by decide) ?_
  refine a_aload_n (pc := 2) (i := 0) dL_least_2 rfl rfl ?_
  refine a_iload_n (pc := 3) (i := 1) dL_least_3 rfl rfl ?_
  refine a_callVC (pc := 4) (kc := 0) (ks := 0) (mc := 1) (ms := 6) (as := [.int x]) (b := 0) (ci := 4) dL_least_4 (lc_RL_54 rfl) ceX4_least rfl (lt90 hn (by omega)) (sp_least (d := d) m) rfl rfl (Nat.le_of_ble_eq_true rfl) Qw.n (no1030 rfl) (fun v h1 q => ?_) (fun E h1 q => ?_)
  · obtain ⟨u, hu⟩ : ∃ u, (oLeast t x).1 = ri u := by
      rcases re_least (t := t) (x := x) with z | ⟨E, z, -⟩
      · exact z
      · exact absurd (q.1.trans z) (by simp)
    have ev : v = some (.int u) := Sum.inl.inj (q.1.trans hu)
    subst ev
    have hn1 : hN h1 = 90 := q.2.2.1.trans hn
    refine a_i2l (pc := 7) dL_least_7 ?_
    refine a_last (pc := 8) (j := 0) dL_least_8 rfl (lt90 hn1 (shK_lt (show shK 89 = _ from rfl))) rfl (by omega) ?_
    refine a_goto (pc := 9) (tgt := 15) dL_least_9 (by decide) ?_
    refine a_iconst (pc := 15) (v := nI 0) dL_least_15 (by decide) ?_
    exact a_ireturn (pc := 16) dL_least_16 rfl rfl (⟨(by rw [hu]; rfl), (fun w hw => by
      rw [hu] at hw
      have := Value.int.inj (Option.some.inj (Sum.inl.inj hw))
      subst this
      rw [hL_sL]
      exact if_pos ⟨rfl, rfl⟩), q.2.1.out, q.2.2.fo.out⟩)
  · obtain ⟨E2, hE, hm⟩ : ∃ E2, (oLeast t x).1 = .inr E2 ∧ E2 ∈ [eIA] := by
      rcases re_least (t := t) (x := x) with ⟨u, z⟩ | z
      · exact absurd (q.1.trans z) (by simp [ri])
      · exact z
    have eE : E = E2 := Sum.inr.inj (q.1.trans hE)
    subst eE
    simp only [List.mem_cons, List.not_mem_nil, or_false] at hm
    rcases hm with rfl
    · refine ⟨12, ct_least_0, ?_⟩
      refine a_astore_n (pc := 12) (i := 3) (ls' := [(0, .ref 0), (1, .int x), (2, .ref 89), (3, .ref 1030)]) dL_least_12 rfl (by decide) rfl ?_
      refine a_iconst (pc := 13) (v := nI 1) dL_least_13 (by decide) ?_
      exact a_ireturn (pc := 14) dL_least_14 rfl rfl (⟨(by rw [hE, show kn [eIA] (.inr eIA) = 1 from by decide +kernel]), (fun w hw => by rw [hE] at hw; cases hw), q.2.1, q.2.2.fo⟩)
theorem re_mend {t : ST} {x : Int32} : RIe [eIO, eIS] (oMend t x).1 := RIe.p (RIe.p RIe.i (RIe.e (by simp))) (RIe.e (by simp))
theorem ceL_mend : CEH mL_mend 3 := ⟨⟨tbi 816 (by decide +kernel), tbi 0 (by decide +kernel)⟩, ⟨by decide +kernel, by decide +kernel, by decide +kernel⟩, by decide⟩
theorem ct_mend_0 : CT mL_mend 4 eIO 12 := ⟨[], ⟨0, 9, 12, 22⟩, [⟨0, 9, 15, 49⟩], rfl, (fun z hz => by cases hz), by decide, by decide, tbi 661 (by decide +kernel), tbj 672 (by decide +kernel), rfl⟩
theorem ct_mend_1 : CT mL_mend 4 eIS 15 := ⟨[⟨0, 9, 12, 22⟩], ⟨0, 9, 15, 49⟩, [], rfl, (fun z hz => by
    simp only [List.mem_cons, List.not_mem_nil, or_false] at hz
    rcases hz with rfl
    · exact Or.inr ⟨by decide, eIO, tbi 661 (by decide +kernel), by simp [zNc]⟩), by decide, by decide, tbi 768 (by decide +kernel), tbj 775 (by decide +kernel), rfl⟩
set_option maxHeartbeats 1500000 in
set_option maxRecDepth 100000 in
theorem sL_mend {d : Nat} {h : AH} {t : ST} {x : Int32} (m : IM h t) : AH' mL_mend (d + 101) 1 6 [.ref 0, .int x, .ref 89] h (Ql [eIO, eIS] (oMend t x).1 (oMend t x).2 h) := by
  have hn := m.1.1.1
  refine AH'.of (by decide) (fun E h' q => by cases q.1) (Nat.le_of_ble_eq_true rfl) (fun X => ?_)
  show AW X mL_mend (d + 101) 1 6 0 [(0, .ref 0), (1, .int x), (2, .ref 89)] [] h (Ql [eIO, eIS] (oMend t x).1 (oMend t x).2 h)
  refine a_aload_n (pc := 0) (i := 2) dL_mend_0 rfl rfl ?_
  refine a_iconst (pc := 1) (v := nI 0) dL_mend_1 (by decide) ?_
  refine a_aload_n (pc := 2) (i := 0) dL_mend_2 rfl rfl ?_
  refine a_iload_n (pc := 3) (i := 1) dL_mend_3 rfl rfl ?_
  refine a_callVC (pc := 4) (kc := 0) (ks := 0) (mc := 1) (ms := 6) (as := [.int x]) (b := 0) (ci := 4) dL_mend_4 (lc_RL_57 rfl) ceX4_mend rfl (lt90 hn (by omega)) (sp_mend (d := d) m) rfl rfl (Nat.le_of_ble_eq_true rfl) Qw.n (no1030 rfl) (fun v h1 q => ?_) (fun E h1 q => ?_)
  · obtain ⟨u, hu⟩ : ∃ u, (oMend t x).1 = ri u := by
      rcases re_mend (t := t) (x := x) with z | ⟨E, z, -⟩
      · exact z
      · exact absurd (q.1.trans z) (by simp)
    have ev : v = some (.int u) := Sum.inl.inj (q.1.trans hu)
    subst ev
    have hn1 : hN h1 = 90 := q.2.2.1.trans hn
    refine a_i2l (pc := 7) dL_mend_7 ?_
    refine a_last (pc := 8) (j := 0) dL_mend_8 rfl (lt90 hn1 (shK_lt (show shK 89 = _ from rfl))) rfl (by omega) ?_
    refine a_goto (pc := 9) (tgt := 18) dL_mend_9 (by decide) ?_
    refine a_iconst (pc := 18) (v := nI 0) dL_mend_18 (by decide) ?_
    exact a_ireturn (pc := 19) dL_mend_19 rfl rfl (⟨(by rw [hu]; rfl), (fun w hw => by
      rw [hu] at hw
      have := Value.int.inj (Option.some.inj (Sum.inl.inj hw))
      subst this
      rw [hL_sL]
      exact if_pos ⟨rfl, rfl⟩), q.2.1.out, q.2.2.fo.out⟩)
  · obtain ⟨E2, hE, hm⟩ : ∃ E2, (oMend t x).1 = .inr E2 ∧ E2 ∈ [eIO, eIS] := by
      rcases re_mend (t := t) (x := x) with ⟨u, z⟩ | z
      · exact absurd (q.1.trans z) (by simp [ri])
      · exact z
    have eE : E = E2 := Sum.inr.inj (q.1.trans hE)
    subst eE
    simp only [List.mem_cons, List.not_mem_nil, or_false] at hm
    rcases hm with rfl | rfl
    · refine ⟨12, ct_mend_0, ?_⟩
      refine a_astore_n (pc := 12) (i := 3) (ls' := [(0, .ref 0), (1, .int x), (2, .ref 89), (3, .ref 1030)]) dL_mend_12 rfl (by decide) rfl ?_
      refine a_iconst (pc := 13) (v := nI 1) dL_mend_13 (by decide) ?_
      exact a_ireturn (pc := 14) dL_mend_14 rfl rfl (⟨(by rw [hE, show kn [eIO, eIS] (.inr eIO) = 1 from by decide +kernel]), (fun w hw => by rw [hE] at hw; cases hw), q.2.1, q.2.2.fo⟩)
    · refine ⟨15, ct_mend_1, ?_⟩
      refine a_astore_n (pc := 15) (i := 3) (ls' := [(0, .ref 0), (1, .int x), (2, .ref 89), (3, .ref 1030)]) dL_mend_15 rfl (by decide) rfl ?_
      refine a_iconst (pc := 16) (v := nI 2) dL_mend_16 (by decide) ?_
      exact a_ireturn (pc := 17) dL_mend_17 rfl rfl (⟨(by rw [hE, show kn [eIO, eIS] (.inr eIS) = 2 from by decide +kernel]), (fun w hw => by rw [hE] at hw; cases hw), q.2.1, q.2.2.fo⟩)
