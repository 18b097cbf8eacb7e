/-! the law's own methods: a call of the class, what it throws turned into a number -/
theorem IM.fm {h h2 : AH} {t : ST} (m : IM h t) (hn : hN h2 = hN h) (hr : hR h2 = hR h) (e : ∀ a, a < 66 → hI h2 a = hI h a ∧ hL h2 a = hL h a) : IM h2 t :=
  ⟨m.1.row hn hr (fun j _ => by rw [(e 0 (by omega)).1]) (fun a ha => e a (by omega)), m.2.imp (fun z => by rw [(e 0 (by omega)).1]; exact z) (fun z => ⟨by rw [(e 0 (by omega)).1]; exact z.1, z.2.1, z.2.2.row (fun a _ _ => e a (by omega))⟩)⟩
/-- an int, or one of these -/
def RIe (Es : List String) (v : Res) : Prop := (∃ u, v = ri u) ∨ ∃ E, v = .inr E ∧ E ∈ Es
theorem RIe.i {Es : List String} {x : Int32} : RIe Es (ri x) := Or.inl ⟨_, rfl⟩
theorem RIe.e {Es : List String} {E : String} (h : E ∈ Es) : RIe Es (.inr E) := Or.inr ⟨_, rfl, h⟩
theorem RIe.c {Es : List String} {P : Prop} {a b : Res} (ha : RIe Es a) (hb : RIe Es b) : RIe Es (cif P a b) := by
  rcases Classical.em P with q | q
  · rw [cif_t q]; exact ha
  · rw [cif_f q]; exact hb
theorem RIe.p {Es : List String} {P : Prop} {a b : Res × ST} (ha : RIe Es a.1) (hb : RIe Es b.1) : RIe Es (cif P a b).1 := by
  rcases Classical.em P with q | q
  · rw [cif_t q]; exact ha
  · rw [cif_f q]; exact hb
theorem RIe.s {Es : List String} {w : Int32} {l : List Res} {z : Res} (hl : ∀ v ∈ l, RIe Es v) (hz : RIe Es z) : RIe Es (sel w l z) := by
  unfold sel
  refine RIe.c hz ?_
  rw [List.getD_eq_getElem?_getD]
  cases e : l[w.toInt.toNat]? with
  | none => exact hz
  | some v => exact hl v (List.mem_of_getElem? e)
/-- the law's number of an answer -/
def wn : Res → Int32
  | .inl (some (.int u)) => u
  | .inl _ => 0
  | .inr E => if E = eIO then -2000000097 else if E = eIA then -2000000098 else if E = eIS then -2000000099 else -2000000100
/-- ends with the number of the answer, in the state t -/
def Qp (v : Res) (t : ST) (h : AH) : Res → AH → Prop := fun r h2 => r = .inl (some (.int (wn v))) ∧ IM h2 t ∧ Fw h h2
theorem no1030 {ls : List (Nat × Value)} (h : ls.all (fun q => match q.2 with | .ref b => b != 1030 | _ => true) = true) : ∀ q ∈ ls, ∀ b, q.2 = .ref b → b ≠ 1030 := by
  intro q hq b hb e
  have := List.all_eq_true.mp h q hq
  rw [hb] at this
  simp [e] at this
theorem Qw.n {v : Res} {t : ST} {h : AH} : ∀ r h', Qw v t h r h' → hN h' = hN h := fun _ _ q => q.2.2.1
theorem re_load {t : ST} {x : Int32} : RIe [eIA] (oLoad t x).1 := RIe.p (RIe.p RIe.i RIe.i) (RIe.e (by simp))
theorem ceL_load : CEH mL_load 2 := ⟨⟨tbi 460 (by decide +kernel), tbi 0 (by decide +kernel)⟩, ⟨by decide +kernel, by decide +kernel, by decide +kernel⟩, by decide⟩
theorem ct_load_0 : CT mL_load 2 eIA 6 := ⟨[], ⟨0, 5, 6, 40⟩, [], rfl, (fun z hz => by cases hz), by decide, by decide, tbi 461 (by decide +kernel), tbj 468 (by decide +kernel), rfl⟩
set_option maxHeartbeats 1500000 in
set_option maxRecDepth 100000 in
theorem sL_load {d : Nat} {h : AH} {t : ST} {x : Int32} (m : IM h t) : AH' mL_load (d + 101) 1 6 [.ref 0, .int x] h (Qp (oLoad t x).1 (oLoad t x).2 h) := by
  have hn := m.1.1.1
  refine AH'.of (by decide) (fun E h' q => by cases q.1) (Nat.le_of_ble_eq_true rfl) (fun X => ?_)
  show AW X mL_load (d + 101) 1 6 0 [(0, .ref 0), (1, .int x)] [] h (Qp (oLoad t x).1 (oLoad t x).2 h)
  refine a_aload_n (pc := 0) (i := 0) dL_load_0 rfl rfl ?_
  refine a_iload_n (pc := 1) (i := 1) dL_load_1 rfl rfl ?_
  refine a_callVC (pc := 2) (kc := 0) (ks := 0) (mc := 1) (ms := 6) (as := [.int x]) (b := 0) (ci := 4) dL_load_2 (lc_RL_37 rfl) ceX4_load rfl (lt90 hn (by omega)) (sp_load (d := d) m) rfl rfl (Nat.le_of_ble_eq_true rfl) Qw.n (no1030 rfl) (fun v h1 q => ?_) (fun E h1 q => ?_)
  · obtain ⟨u, hu⟩ : ∃ u, (oLoad t x).1 = ri u := by
      rcases re_load (t := t) (x := x) with z | ⟨E, z, -⟩
      · exact z
      · exact absurd (q.1.trans z) (by simp)
    have ev : v = some (.int u) := Sum.inl.inj (q.1.trans hu)
    subst ev
    have hn1 : 68 ≤ hN h1 := by rw [q.2.2.1]; exact hn
    exact a_ireturn (pc := 5) dL_load_5 rfl rfl (⟨(by rw [hu]; rfl), q.2⟩)
  · obtain ⟨E2, hE, hm⟩ : ∃ E2, (oLoad t x).1 = .inr E2 ∧ E2 ∈ [eIA] := by
      rcases re_load (t := t) (x := x) with ⟨u, z⟩ | z
      · exact absurd (q.1.trans z) (by simp [ri])
      · exact z
    have eE : E = E2 := Sum.inr.inj (q.1.trans hE)
    subst eE
    simp only [List.mem_cons, List.not_mem_nil, or_false] at hm
    rcases hm with rfl
    · refine ⟨6, ct_load_0, ?_⟩
      refine a_astore_n (pc := 6) (i := 2) (ls' := [(0, .ref 0), (1, .int x), (2, .ref 1030)]) dL_load_6 rfl (by decide) rfl ?_
      refine a_ldc (pc := 7) (v := (-2000000098)) dL_load_7 (li_RL_42 rfl) ?_
      exact a_ireturn (pc := 9) dL_load_9 rfl rfl (⟨(by rw [hE]; first | rfl | decide +kernel), q.2⟩)
theorem re_state {t : ST} {w : Int32} : RIe [eIA] (rState (tC t) w) := RIe.s (by intro v hv; simp only [List.mem_cons, List.not_mem_nil, or_false] at hv; rcases hv with rfl | rfl | rfl | rfl | rfl | rfl | rfl | rfl <;> exact RIe.i) (RIe.e (by simp))
theorem ceL_state : CEH mL_state 2 := ⟨⟨tbi 1258 (by decide +kernel), tbi 0 (by decide +kernel)⟩, ⟨by decide +kernel, by decide +kernel, by decide +kernel⟩, by decide⟩
theorem ct_state_0 : CT mL_state 2 eIA 6 := ⟨[], ⟨0, 5, 6, 40⟩, [], rfl, (fun z hz => by cases hz), by decide, by decide, tbi 461 (by decide +kernel), tbj 468 (by decide +kernel), rfl⟩
set_option maxHeartbeats 1500000 in
set_option maxRecDepth 100000 in
theorem sL_state {d : Nat} {h : AH} {t : ST} {w : Int32} (m : IM h t) : AH' mL_state (d + 101) 1 6 [.ref 0, .int w] h (Qp (rState (tC t) w) t h) := by
  have hn := m.1.1.1
  refine AH'.of (by decide) (fun E h' q => by cases q.1) (Nat.le_of_ble_eq_true rfl) (fun X => ?_)
  show AW X mL_state (d + 101) 1 6 0 [(0, .ref 0), (1, .int w)] [] h (Qp (rState (tC t) w) t h)
  refine a_aload_n (pc := 0) (i := 0) dL_state_0 rfl rfl ?_
  refine a_iload_n (pc := 1) (i := 1) dL_state_1 rfl rfl ?_
  refine a_callVC (pc := 2) (kc := 0) (ks := 0) (mc := 1) (ms := 6) (as := [.int w]) (b := 0) (ci := 4) dL_state_2 (lc_RL_43 rfl) ceX4_state rfl (lt90 hn (by omega)) (w_state (d := d) m) rfl rfl (Nat.le_of_ble_eq_true rfl) Qw.n (no1030 rfl) (fun v h1 q => ?_) (fun E h1 q => ?_)
  · obtain ⟨u, hu⟩ : ∃ u, (rState (tC t) w) = ri u := by
      rcases re_state (t := t) (w := w) with z | ⟨E, z, -⟩
      · exact z
      · exact absurd (q.1.trans z) (by simp)
    have ev : v = some (.int u) := Sum.inl.inj (q.1.trans hu)
    subst ev
    have hn1 : 68 ≤ hN h1 := by rw [q.2.2.1]; exact hn
    exact a_ireturn (pc := 5) dL_state_5 rfl rfl (⟨(by rw [hu]; rfl), q.2⟩)
  · obtain ⟨E2, hE, hm⟩ : ∃ E2, (rState (tC t) w) = .inr E2 ∧ E2 ∈ [eIA] := by
      rcases re_state (t := t) (w := w) with ⟨u, z⟩ | z
      · exact absurd (q.1.trans z) (by simp [ri])
      · exact z
    have eE : E = E2 := Sum.inr.inj (q.1.trans hE)
    subst eE
    simp only [List.mem_cons, List.not_mem_nil, or_false] at hm
    rcases hm with rfl
    · refine ⟨6, ct_state_0, ?_⟩
      refine a_astore_n (pc := 6) (i := 2) (ls' := [(0, .ref 0), (1, .int w), (2, .ref 1030)]) dL_state_6 rfl (by decide) rfl ?_
      refine a_ldc (pc := 7) (v := (-2000000098)) dL_state_7 (li_RL_42 rfl) ?_
      exact a_ireturn (pc := 9) dL_state_9 rfl rfl (⟨(by rw [hE]; first | rfl | decide +kernel), q.2⟩)
theorem re_letter {t : ST} {x y : Int32} : RIe [eIO] (rLetter (tC t) x y) := RIe.c RIe.i (RIe.e (by simp))
theorem ceL_letter : CEH mL_letter 3 := ⟨⟨tbi 1262 (by decide +kernel), tbi 0 (by decide +kernel)⟩, ⟨by decide +kernel, by decide +kernel, by decide +kernel⟩, by decide⟩
theorem ct_letter_0 : CT mL_letter 3 eIO 7 := ⟨[], ⟨0, 6, 7, 50⟩, [], rfl, (fun z hz => by cases hz), by decide, by decide, tbi 615 (by decide +kernel), tbj 627 (by decide +kernel), rfl⟩
set_option maxHeartbeats 1500000 in
set_option maxRecDepth 100000 in
theorem sL_letter {d : Nat} {h : AH} {t : ST} {x y : Int32} (m : IM h t) : AH' mL_letter (d + 101) 1 6 [.ref 0, .int x, .int y] h (Qp (rLetter (tC t) x y) t h) := by
  have hn := m.1.1.1
  refine AH'.of (by decide) (fun E h' q => by cases q.1) (Nat.le_of_ble_eq_true rfl) (fun X => ?_)
  show AW X mL_letter (d + 101) 1 6 0 [(0, .ref 0), (1, .int x), (2, .int y)] [] h (Qp (rLetter (tC t) x y) t h)
  refine a_aload_n (pc := 0) (i := 0) dL_letter_0 rfl rfl ?_
  refine a_iload_n (pc := 1) (i := 1) dL_letter_1 rfl rfl ?_
  refine a_iload_n (pc := 2) (i := 2) dL_letter_2 rfl rfl ?_
  refine a_callVC (pc := 3) (kc := 0) (ks := 0) (mc := 1) (ms := 6) (as := [.int x, .int y]) (b := 0) (ci := 4) dL_letter_3 (lc_RL_46 rfl) ceX4_letter rfl (lt90 hn (by omega)) (w_letter (d := d) m) rfl rfl (Nat.le_of_ble_eq_true rfl) Qw.n (no1030 rfl) (fun v h1 q => ?_) (fun E h1 q => ?_)
  · obtain ⟨u, hu⟩ : ∃ u, (rLetter (tC t) x y) = ri u := by
      rcases re_letter (t := t) (x := x) (y := y) with z | ⟨E, z, -⟩
      · exact z
      · exact absurd (q.1.trans z) (by simp)
    have ev : v = some (.int u) := Sum.inl.inj (q.1.trans hu)
    subst ev
    have hn1 : 68 ≤ hN h1 := by rw [q.2.2.1]; exact hn
    exact a_ireturn (pc := 6) dL_letter_6 rfl rfl (⟨(by rw [hu]; rfl), q.2⟩)
  · obtain ⟨E2, hE, hm⟩ : ∃ E2, (rLetter (tC t) x y) = .inr E2 ∧ E2 ∈ [eIO] := by
      rcases re_letter (t := t) (x := x) (y := y) with ⟨u, z⟩ | z
      · exact absurd (q.1.trans z) (by simp [ri])
      · exact z
    have eE : E = E2 := Sum.inr.inj (q.1.trans hE)
    subst eE
    simp only [List.mem_cons, List.not_mem_nil, or_false] at hm
    rcases hm with rfl
    · refine ⟨7, ct_letter_0, ?_⟩
      refine a_astore_n (pc := 7) (i := 3) (ls' := [(0, .ref 0), (1, .int x), (2, .int y), (3, .ref 1030)]) dL_letter_7 rfl (by decide) rfl ?_
      refine a_ldc (pc := 8) (v := (-2000000097)) dL_letter_8 (li_RL_52 rfl) ?_
      exact a_ireturn (pc := 10) dL_letter_10 rfl rfl (⟨(by rw [hE]; first | rfl | decide +kernel), q.2⟩)
theorem re_place {t : ST} {x y w : Int32} : RIe [eIO, eIA] (rPlace (tC t) x y w) := RIe.c (RIe.s (by intro v hv; simp only [List.mem_cons, List.not_mem_nil, or_false] at hv; rcases hv with rfl | rfl | rfl | rfl | rfl <;> exact RIe.i) (RIe.e (by simp))) (RIe.e (by simp))
theorem ceL_place : CEH mL_place 4 := ⟨⟨tbi 614 (by decide +kernel), tbi 0 (by decide +kernel)⟩, ⟨by decide +kernel, by decide +kernel, by decide +kernel⟩, by decide⟩
theorem ct_place_0 : CT mL_place 4 eIO 8 := ⟨[], ⟨0, 7, 8, 50⟩, [⟨0, 7, 13, 40⟩], rfl, (fun z hz => by cases hz), by decide, by decide, tbi 615 (by decide +kernel), tbj 627 (by decide +kernel), rfl⟩
theorem ct_place_1 : CT mL_place 4 eIA 13 := ⟨[⟨0, 7, 8, 50⟩], ⟨0, 7, 13, 40⟩, [], rfl, (fun z hz => by
    simp only [List.mem_cons, List.not_mem_nil, or_false] at hz
    rcases hz with rfl
    · exact Or.inr ⟨by decide, eIO, tbi 615 (by decide +kernel), by simp [zNc]⟩), by decide, by decide, tbi 461 (by decide +kernel), tbj 468 (by decide +kernel), rfl⟩
set_option maxHeartbeats 1500000 in
set_option maxRecDepth 100000 in
theorem sL_place {d : Nat} {h : AH} {t : ST} {x y w : Int32} (m : IM h t) : AH' mL_place (d + 101) 1 6 [.ref 0, .int x, .int y, .int w] h (Qp (rPlace (tC t) x y w) t h) := by
  have hn := m.1.1.1
  refine AH'.of (by decide) (fun E h' q => by cases q.1) (Nat.le_of_ble_eq_true rfl) (fun X => ?_)
  show AW X mL_place (d + 101) 1 6 0 [(0, .ref 0), (1, .int x), (2, .int y), (3, .int w)] [] h (Qp (rPlace (tC t) x y w) t h)
  refine a_aload_n (pc := 0) (i := 0) dL_place_0 rfl rfl ?_
  refine a_iload_n (pc := 1) (i := 1) dL_place_1 rfl rfl ?_
  refine a_iload_n (pc := 2) (i := 2) dL_place_2 rfl rfl ?_
  refine a_iload_n (pc := 3) (i := 3) dL_place_3 rfl rfl ?_
  refine a_callVC (pc := 4) (kc := 0) (ks := 0) (mc := 1) (ms := 6) (as := [.int x, .int y, .int w]) (b := 0) (ci := 4) dL_place_4 (lc_RL_53 rfl) ceX4_place rfl (lt90 hn (by omega)) (w_place (d := d) m) rfl rfl (Nat.le_of_ble_eq_true rfl) Qw.n (no1030 rfl) (fun v h1 q => ?_) (fun E h1 q => ?_)
  · obtain ⟨u, hu⟩ : ∃ u, (rPlace (tC t) x y w) = ri u := by
      rcases re_place (t := t) (x := x) (y := y) (w := w) with z | ⟨E, z, -⟩
      · exact z
      · exact absurd (q.1.trans z) (by simp)
    have ev : v = some (.int u) := Sum.inl.inj (q.1.trans hu)
    subst ev
    have hn1 : 68 ≤ hN h1 := by rw [q.2.2.1]; exact hn
    exact a_ireturn (pc := 7) dL_place_7 rfl rfl (⟨(by rw [hu]; rfl), q.2⟩)
  · obtain ⟨E2, hE, hm⟩ : ∃ E2, (rPlace (tC t) x y w) = .inr E2 ∧ E2 ∈ [eIO, eIA] := by
      rcases re_place (t := t) (x := x) (y := y) (w := w) with ⟨u, z⟩ | z
      · exact absurd (q.1.trans z) (by simp [ri])
      · exact z
    have eE : E = E2 := Sum.inr.inj (q.1.trans hE)
    subst eE
    simp only [List.mem_cons, List.not_mem_nil, or_false] at hm
    rcases hm with rfl | rfl
    · refine ⟨8, ct_place_0, ?_⟩
      refine a_astore (pc := 8) (i := 4) (ls' := [(0, .ref 0), (1, .int x), (2, .int y), (3, .int w), (4, .ref 1030)]) dL_place_8 (by decide) rfl ?_
      refine a_ldc (pc := 10) (v := (-2000000097)) dL_place_10 (li_RL_52 rfl) ?_
      exact a_ireturn (pc := 12) dL_place_12 rfl rfl (⟨(by rw [hE]; first | rfl | decide +kernel), q.2⟩)
    · refine ⟨13, ct_place_1, ?_⟩
      refine a_astore (pc := 13) (i := 4) (ls' := [(0, .ref 0), (1, .int x), (2, .int y), (3, .int w), (4, .ref 1030)]) dL_place_13 (by decide) rfl ?_
      refine a_ldc (pc := 15) (v := (-2000000098)) dL_place_15 (li_RL_42 rfl) ?_
      exact a_ireturn (pc := 17) dL_place_17 rfl rfl (⟨(by rw [hE]; first | rfl | decide +kernel), q.2⟩)
theorem re_stock {t : ST} {x w : Int32} : RIe [eIA] (rStock (tC t) x w) := RIe.c (RIe.s (by intro v hv; simp only [List.mem_cons, List.not_mem_nil, or_false] at hv; rcases hv with rfl | rfl | rfl <;> exact RIe.i) (RIe.e (by simp))) (RIe.e (by simp))
theorem ceL_stock : CEH mL_stock 3 := ⟨⟨tbi 704 (by decide +kernel), tbi 0 (by decide +kernel)⟩, ⟨by decide +kernel, by decide +kernel, by decide +kernel⟩, by decide⟩
theorem ct_stock_0 : CT mL_stock 3 eIA 7 := ⟨[], ⟨0, 6, 7, 40⟩, [], rfl, (fun z hz => by cases hz), by decide, by decide, tbi 461 (by decide +kernel), tbj 468 (by decide +kernel), rfl⟩
set_option maxHeartbeats 1500000 in
set_option maxRecDepth 100000 in
theorem sL_stock {d : Nat} {h : AH} {t : ST} {x w : Int32} (m : IM h t) : AH' mL_stock (d + 101) 1 6 [.ref 0, .int x, .int w] h (Qp (rStock (tC t) x w) t h) := by
  have hn := m.1.1.1
  refine AH'.of (by decide) (fun E h' q => by cases q.1) (Nat.le_of_ble_eq_true rfl) (fun X => ?_)
  show AW X mL_stock (d + 101) 1 6 0 [(0, .ref 0), (1, .int x), (2, .int w)] [] h (Qp (rStock (tC t) x w) t h)
  refine a_aload_n (pc := 0) (i := 0) dL_stock_0 rfl rfl ?_
  refine a_iload_n (pc := 1) (i := 1) dL_stock_1 rfl rfl ?_
  refine a_iload_n (pc := 2) (i := 2) dL_stock_2 rfl rfl ?_
  refine a_callVC (pc := 3) (kc := 0) (ks := 0) (mc := 1) (ms := 6) (as := [.int x, .int w]) (b := 0) (ci := 4) dL_stock_3 (lc_RL_57 rfl) ceX4_stock rfl (lt90 hn (by omega)) (w_stock (d := d) m) rfl rfl (Nat.le_of_ble_eq_true rfl) Qw.n (no1030 rfl) (fun v h1 q => ?_) (fun E h1 q => ?_)
  · obtain ⟨u, hu⟩ : ∃ u, (rStock (tC t) x w) = ri u := by
      rcases re_stock (t := t) (x := x) (w := w) with z | ⟨E, z, -⟩
      · exact z
      · exact absurd (q.1.trans z) (by simp)
    have ev : v = some (.int u) := Sum.inl.inj (q.1.trans hu)
    subst ev
    have hn1 : 68 ≤ hN h1 := by rw [q.2.2.1]; exact hn
    exact a_ireturn (pc := 6) dL_stock_6 rfl rfl (⟨(by rw [hu]; rfl), q.2⟩)
  · obtain ⟨E2, hE, hm⟩ : ∃ E2, (rStock (tC t) x w) = .inr E2 ∧ E2 ∈ [eIA] := by
      rcases re_stock (t := t) (x := x) (w := w) with ⟨u, z⟩ | z
      · exact absurd (q.1.trans z) (by simp [ri])
      · exact z
    have eE : E = E2 := Sum.inr.inj (q.1.trans hE)
    subst eE
    simp only [List.mem_cons, List.not_mem_nil, or_false] at hm
    rcases hm with rfl
    · refine ⟨7, ct_stock_0, ?_⟩
      refine a_astore_n (pc := 7) (i := 3) (ls' := [(0, .ref 0), (1, .int x), (2, .int w), (3, .ref 1030)]) dL_stock_7 rfl (by decide) rfl ?_
      refine a_ldc (pc := 8) (v := (-2000000098)) dL_stock_8 (li_RL_42 rfl) ?_
      exact a_ireturn (pc := 10) dL_stock_10 rfl rfl (⟨(by rw [hE]; first | rfl | decide +kernel), q.2⟩)
theorem re_message {t : ST} {x : Int32} : RIe [eNS] (rMessage (tC t) x) := RIe.c RIe.i (RIe.e (by simp))
theorem ceL_message : CEH mL_message 2 := ⟨⟨tbi 1269 (by decide +kernel), tbi 0 (by decide +kernel)⟩, ⟨by decide +kernel, by decide +kernel, by decide +kernel⟩, by decide⟩
theorem ct_message_0 : CT mL_message 2 eNS 6 := ⟨[], ⟨0, 5, 6, 63⟩, [], rfl, (fun z hz => by cases hz), by decide, by decide, tbi 727 (by decide +kernel), tbj 799 (by decide +kernel), rfl⟩
set_option maxHeartbeats 1500000 in
set_option maxRecDepth 100000 in
theorem sL_message {d : Nat} {h : AH} {t : ST} {x : Int32} (m : IM h t) : AH' mL_message (d + 101) 1 6 [.ref 0, .int x] h (Qp (rMessage (tC t) x) t h) := by
  have hn := m.1.1.1
  refine AH'.of (by decide) (fun E h' q => by cases q.1) (Nat.le_of_ble_eq_true rfl) (fun X => ?_)
  show AW X mL_message (d + 101) 1 6 0 [(0, .ref 0), (1, .int x)] [] h (Qp (rMessage (tC t) x) t h)
  refine a_aload_n (pc := 0) (i := 0) dL_message_0 rfl rfl ?_
  refine a_iload_n (pc := 1) (i := 1) dL_message_1 rfl rfl ?_
  refine a_callVC (pc := 2) (kc := 0) (ks := 0) (mc := 1) (ms := 6) (as := [.int x]) (b := 0) (ci := 4) dL_message_2 (lc_RL_60 rfl) ceX4_message rfl (lt90 hn (by omega)) (w_message (d := d) m) rfl rfl (Nat.le_of_ble_eq_true rfl) Qw.n (no1030 rfl) (fun v h1 q => ?_) (fun E h1 q => ?_)
  · obtain ⟨u, hu⟩ : ∃ u, (rMessage (tC t) x) = ri u := by
      rcases re_message (t := t) (x := x) with z | ⟨E, z, -⟩
      · exact z
      · exact absurd (q.1.trans z) (by simp)
    have ev : v = some (.int u) := Sum.inl.inj (q.1.trans hu)
    subst ev
    have hn1 : 68 ≤ hN h1 := by rw [q.2.2.1]; exact hn
    exact a_ireturn (pc := 5) dL_message_5 rfl rfl (⟨(by rw [hu]; rfl), q.2⟩)
  · obtain ⟨E2, hE, hm⟩ : ∃ E2, (rMessage (tC t) x) = .inr E2 ∧ E2 ∈ [eNS] := by
      rcases re_message (t := t) (x := x) with ⟨u, z⟩ | z
      · exact absurd (q.1.trans z) (by simp [ri])
      · exact z
    have eE : E = E2 := Sum.inr.inj (q.1.trans hE)
    subst eE
    simp only [List.mem_cons, List.not_mem_nil, or_false] at hm
    rcases hm with rfl
    · refine ⟨6, ct_message_0, ?_⟩
      refine a_astore_n (pc := 6) (i := 2) (ls' := [(0, .ref 0), (1, .int x), (2, .ref 1030)]) dL_message_6 rfl (by decide) rfl ?_
      refine a_ldc (pc := 7) (v := (-2000000100)) dL_message_7 (li_RL_65 rfl) ?_
      exact a_ireturn (pc := 9) dL_message_9 rfl rfl (⟨(by rw [hE]; first | rfl | decide +kernel), q.2⟩)
theorem re_cutOf {t : ST} {k w : Int32} : RIe [eNS, eIA] (rCutOf (tC t) k w) := RIe.c (RIe.s (by intro v hv; simp only [List.mem_cons, List.not_mem_nil, or_false] at hv; rcases hv with rfl | rfl | rfl | rfl <;> exact RIe.i) (RIe.e (by simp))) (RIe.e (by simp))
theorem ceL_cutOf : CEH mL_cutOf 3 := ⟨⟨tbi 726 (by decide +kernel), tbi 0 (by decide +kernel)⟩, ⟨by decide +kernel, by decide +kernel, by decide +kernel⟩, by decide⟩
theorem ct_cutOf_0 : CT mL_cutOf 3 eNS 7 := ⟨[], ⟨0, 6, 7, 63⟩, [⟨0, 6, 11, 40⟩], rfl, (fun z hz => by cases hz), by decide, by decide, tbi 727 (by decide +kernel), tbj 799 (by decide +kernel), rfl⟩
theorem ct_cutOf_1 : CT mL_cutOf 3 eIA 11 := ⟨[⟨0, 6, 7, 63⟩], ⟨0, 6, 11, 40⟩, [], rfl, (fun z hz => by
    simp only [List.mem_cons, List.not_mem_nil, or_false] at hz
    rcases hz with rfl
    · exact Or.inr ⟨by decide, eNS, tbi 727 (by decide +kernel), by simp [zNc]⟩), by decide, by decide, tbi 461 (by decide +kernel), tbj 468 (by decide +kernel), rfl⟩
set_option maxHeartbeats 1500000 in
set_option maxRecDepth 100000 in
theorem sL_cutOf {d : Nat} {h : AH} {t : ST} {k w : Int32} (m : IM h t) : AH' mL_cutOf (d + 101) 1 6 [.ref 0, .int k, .int w] h (Qp (rCutOf (tC t) k w) t h) := by
  have hn := m.1.1.1
  refine AH'.of (by decide) (fun E h' q => by cases q.1) (Nat.le_of_ble_eq_true rfl) (fun X => ?_)
  show AW X mL_cutOf (d + 101) 1 6 0 [(0, .ref 0), (1, .int k), (2, .int w)] [] h (Qp (rCutOf (tC t) k w) t h)
  refine a_aload_n (pc := 0) (i := 0) dL_cutOf_0 rfl rfl ?_
  refine a_iload_n (pc := 1) (i := 1) dL_cutOf_1 rfl rfl ?_
  refine a_iload_n (pc := 2) (i := 2) dL_cutOf_2 rfl rfl ?_
  refine a_callVC (pc := 3) (kc := 0) (ks := 0) (mc := 1) (ms := 6) (as := [.int k, .int w]) (b := 0) (ci := 4) dL_cutOf_3 (lc_RL_66 rfl) ceX4_cutOf rfl (lt90 hn (by omega)) (sp_cutOf (d := d) m) rfl rfl (Nat.le_of_ble_eq_true rfl) Qw.n (no1030 rfl) (fun v h1 q => ?_) (fun E h1 q => ?_)
  · obtain ⟨u, hu⟩ : ∃ u, (rCutOf (tC t) k w) = ri u := by
      rcases re_cutOf (t := t) (k := k) (w := w) with z | ⟨E, z, -⟩
      · exact z
      · exact absurd (q.1.trans z) (by simp)
    have ev : v = some (.int u) := Sum.inl.inj (q.1.trans hu)
    subst ev
    have hn1 : 68 ≤ hN h1 := by rw [q.2.2.1]; exact hn
    exact a_ireturn (pc := 6) dL_cutOf_6 rfl rfl (⟨(by rw [hu]; rfl), q.2⟩)
  · obtain ⟨E2, hE, hm⟩ : ∃ E2, (rCutOf (tC t) k w) = .inr E2 ∧ E2 ∈ [eNS, eIA] := by
      rcases re_cutOf (t := t) (k := k) (w := w) with ⟨u, z⟩ | z
      · exact absurd (q.1.trans z) (by simp [ri])
      · exact z
    have eE : E = E2 := Sum.inr.inj (q.1.trans hE)
    subst eE
    simp only [List.mem_cons, List.not_mem_nil, or_false] at hm
    rcases hm with rfl | rfl
    · refine ⟨7, ct_cutOf_0, ?_⟩
      refine a_astore_n (pc := 7) (i := 3) (ls' := [(0, .ref 0), (1, .int k), (2, .int w), (3, .ref 1030)]) dL_cutOf_7 rfl (by decide) rfl ?_
      refine a_ldc (pc := 8) (v := (-2000000100)) dL_cutOf_8 (li_RL_65 rfl) ?_
      exact a_ireturn (pc := 10) dL_cutOf_10 rfl rfl (⟨(by rw [hE]; first | rfl | decide +kernel), q.2⟩)
    · refine ⟨11, ct_cutOf_1, ?_⟩
      refine a_astore_n (pc := 11) (i := 3) (ls' := [(0, .ref 0), (1, .int k), (2, .int w), (3, .ref 1030)]) dL_cutOf_11 rfl (by decide) rfl ?_
      refine a_ldc (pc := 12) (v := (-2000000098)) dL_cutOf_12 (li_RL_42 rfl) ?_
      exact a_ireturn (pc := 14) dL_cutOf_14 rfl rfl (⟨(by rw [hE]; first | rfl | decide +kernel), q.2⟩)
theorem re_longest {t : ST} {x : Int32} : RIe [eNS] (rLongest (tC t) x) := RIe.c RIe.i (RIe.e (by simp))
theorem ceL_longest : CEH mL_longest 2 := ⟨⟨tbi 832 (by decide +kernel), tbi 0 (by decide +kernel)⟩, ⟨by decide +kernel, by decide +kernel, by decide +kernel⟩, by decide⟩
theorem ct_longest_0 : CT mL_longest 2 eNS 6 := ⟨[], ⟨0, 5, 6, 63⟩, [], rfl, (fun z hz => by cases hz), by decide, by decide, tbi 727 (by decide +kernel), tbj 799 (by decide +kernel), rfl⟩
set_option maxHeartbeats 1500000 in
set_option maxRecDepth 100000 in
theorem sL_longest {d : Nat} {h : AH} {t : ST} {x : Int32} (m : IM h t) : AH' mL_longest (d + 101) 1 6 [.ref 0, .int x] h (Qp (rLongest (tC t) x) t h) := by
  have hn := m.1.1.1
  refine AH'.of (by decide) (fun E h' q => by cases q.1) (Nat.le_of_ble_eq_true rfl) (fun X => ?_)
  show AW X mL_longest (d + 101) 1 6 0 [(0, .ref 0), (1, .int x)] [] h (Qp (rLongest (tC t) x) t h)
  refine a_aload_n (pc := 0) (i := 0) dL_longest_0 rfl rfl ?_
  refine a_iload_n (pc := 1) (i := 1) dL_longest_1 rfl rfl ?_
  refine a_callVC (pc := 2) (kc := 0) (ks := 0) (mc := 1) (ms := 6) (as := [.int x]) (b := 0) (ci := 4) dL_longest_2 (lc_RL_69 rfl) ceX4_longest rfl (lt90 hn (by omega)) (w_longest (d := d) m) rfl rfl (Nat.le_of_ble_eq_true rfl) Qw.n (no1030 rfl) (fun v h1 q => ?_) (fun E h1 q => ?_)
  · obtain ⟨u, hu⟩ : ∃ u, (rLongest (tC t) x) = ri u := by
      rcases re_longest (t := t) (x := x) with z | ⟨E, z, -⟩
      · exact z
      · exact absurd (q.1.trans z) (by simp)
    have ev : v = some (.int u) := Sum.inl.inj (q.1.trans hu)
    subst ev
    have hn1 : 68 ≤ hN h1 := by rw [q.2.2.1]; exact hn
    exact a_ireturn (pc := 5) dL_longest_5 rfl rfl (⟨(by rw [hu]; rfl), q.2⟩)
  · obtain ⟨E2, hE, hm⟩ : ∃ E2, (rLongest (tC t) x) = .inr E2 ∧ E2 ∈ [eNS] := by
      rcases re_longest (t := t) (x := x) with ⟨u, z⟩ | z
      · exact absurd (q.1.trans z) (by simp [ri])
      · exact z
    have eE : E = E2 := Sum.inr.inj (q.1.trans hE)
    subst eE
    simp only [List.mem_cons, List.not_mem_nil, or_false] at hm
    rcases hm with rfl
    · refine ⟨6, ct_longest_0, ?_⟩
      refine a_astore_n (pc := 6) (i := 2) (ls' := [(0, .ref 0), (1, .int x), (2, .ref 1030)]) dL_longest_6 rfl (by decide) rfl ?_
      refine a_ldc (pc := 7) (v := (-2000000100)) dL_longest_7 (li_RL_65 rfl) ?_
      exact a_ireturn (pc := 9) dL_longest_9 rfl rfl (⟨(by rw [hE]; first | rfl | decide +kernel), q.2⟩)
theorem re_tell {t : ST} {x : Int32} : RIe [eIA] (oTell t x).1 := RIe.p RIe.i (RIe.e (by simp))
theorem ceL_tell : CEH mL_tell 2 := ⟨⟨tbi 842 (by decide +kernel), tbi 0 (by decide +kernel)⟩, ⟨by decide +kernel, by decide +kernel, by decide +kernel⟩, by decide⟩
theorem ct_tell_0 : CT mL_tell 2 eIA 6 := ⟨[], ⟨0, 5, 6, 40⟩, [], rfl, (fun z hz => by cases hz), by decide, by decide, tbi 461 (by decide +kernel), tbj 468 (by decide +kernel), rfl⟩
set_option maxHeartbeats 1500000 in
set_option maxRecDepth 100000 in
theorem sL_tell {d : Nat} {h : AH} {t : ST} {x : Int32} (m : IM h t) : AH' mL_tell (d + 101) 1 6 [.ref 0, .int x] h (Qp (oTell t x).1 (oTell t x).2 h) := by
  have hn := m.1.1.1
  refine AH'.of (by decide) (fun E h' q => by cases q.1) (Nat.le_of_ble_eq_true rfl) (fun X => ?_)
  show AW X mL_tell (d + 101) 1 6 0 [(0, .ref 0), (1, .int x)] [] h (Qp (oTell t x).1 (oTell t x).2 h)
  refine a_aload_n (pc := 0) (i := 0) dL_tell_0 rfl rfl ?_
  refine a_iload_n (pc := 1) (i := 1) dL_tell_1 rfl rfl ?_
  refine a_callVC (pc := 2) (kc := 0) (ks := 0) (mc := 1) (ms := 6) (as := [.int x]) (b := 0) (ci := 4) dL_tell_2 (lc_RL_72 rfl) ceX4_tell rfl (lt90 hn (by omega)) (sp_tell (d := d) m) rfl rfl (Nat.le_of_ble_eq_true rfl) Qw.n (no1030 rfl) (fun v h1 q => ?_) (fun E h1 q => ?_)
  · obtain ⟨u, hu⟩ : ∃ u, (oTell t x).1 = ri u := by
      rcases re_tell (t := t) (x := x) with z | ⟨E, z, -⟩
      · exact z
      · exact absurd (q.1.trans z) (by simp)
    have ev : v = some (.int u) := Sum.inl.inj (q.1.trans hu)
    subst ev
    have hn1 : 68 ≤ hN h1 := by rw [q.2.2.1]; exact hn
    exact a_ireturn (pc := 5) dL_tell_5 rfl rfl (⟨(by rw [hu]; rfl), q.2⟩)
  · obtain ⟨E2, hE, hm⟩ : ∃ E2, (oTell t x).1 = .inr E2 ∧ E2 ∈ [eIA] := by
      rcases re_tell (t := t) (x := x) with ⟨u, z⟩ | z
      · exact absurd (q.1.trans z) (by simp [ri])
      · exact z
    have eE : E = E2 := Sum.inr.inj (q.1.trans hE)
    subst eE
    simp only [List.mem_cons, List.not_mem_nil, or_false] at hm
    rcases hm with rfl
    · refine ⟨6, ct_tell_0, ?_⟩
      refine a_astore_n (pc := 6) (i := 2) (ls' := [(0, .ref 0), (1, .int x), (2, .ref 1030)]) dL_tell_6 rfl (by decide) rfl ?_
      refine a_ldc (pc := 7) (v := (-2000000098)) dL_tell_7 (li_RL_42 rfl) ?_
      exact a_ireturn (pc := 9) dL_tell_9 rfl rfl (⟨(by rw [hE]; first | rfl | decide +kernel), q.2⟩)
theorem re_cut {t : ST} : RIe [eIS] (oCut t).1 := RIe.p (RIe.e (by simp)) RIe.i
theorem ceL_cut : CEH mL_cut 1 := ⟨⟨tbi 861 (by decide +kernel), tbi 0 (by decide +kernel)⟩, ⟨by decide +kernel, by decide +kernel, by decide +kernel⟩, by decide⟩
theorem ct_cut_0 : CT mL_cut 1 eIS 5 := ⟨[], ⟨0, 4, 5, 78⟩, [], rfl, (fun z hz => by cases hz), by decide, by decide, tbi 862 (by decide +kernel), tbj 869 (by decide +kernel), rfl⟩
set_option maxHeartbeats 1500000 in
set_option maxRecDepth 100000 in
theorem sL_cut {d : Nat} {h : AH} {t : ST} (m : IM h t) : AH' mL_cut (d + 101) 1 6 [.ref 0] h (Qp (oCut t).1 (oCut t).2 h) := by
  have hn := m.1.1.1
  refine AH'.of (by decide) (fun E h' q => by cases q.1) (Nat.le_of_ble_eq_true rfl) (fun X => ?_)
  show AW X mL_cut (d + 101) 1 6 0 [(0, .ref 0)] [] h (Qp (oCut t).1 (oCut t).2 h)
  refine a_aload_n (pc := 0) (i := 0) dL_cut_0 rfl rfl ?_
  refine a_callVC (pc := 1) (kc := 0) (ks := 0) (mc := 1) (ms := 6) (as := []) (b := 0) (ci := 4) dL_cut_1 (lc_RL_75 rfl) ceX4_cut rfl (lt90 hn (by omega)) (sp_cut (d := d) m) rfl rfl (Nat.le_of_ble_eq_true rfl) Qw.n (no1030 rfl) (fun v h1 q => ?_) (fun E h1 q => ?_)
  · obtain ⟨u, hu⟩ : ∃ u, (oCut t).1 = ri u := by
      rcases re_cut (t := t) with z | ⟨E, z, -⟩
      · exact z
      · exact absurd (q.1.trans z) (by simp)
    have ev : v = some (.int u) := Sum.inl.inj (q.1.trans hu)
    subst ev
    have hn1 : 68 ≤ hN h1 := by rw [q.2.2.1]; exact hn
    exact a_ireturn (pc := 4) dL_cut_4 rfl rfl (⟨(by rw [hu]; rfl), q.2⟩)
  · obtain ⟨E2, hE, hm⟩ : ∃ E2, (oCut t).1 = .inr E2 ∧ E2 ∈ [eIS] := by
      rcases re_cut (t := t) with ⟨u, z⟩ | z
      · exact absurd (q.1.trans z) (by simp [ri])
      · exact z
    have eE : E = E2 := Sum.inr.inj (q.1.trans hE)
    subst eE
    simp only [List.mem_cons, List.not_mem_nil, or_false] at hm
    rcases hm with rfl
    · refine ⟨5, ct_cut_0, ?_⟩
      refine a_astore_n (pc := 5) (i := 1) (ls' := [(0, .ref 0), (1, .ref 1030)]) dL_cut_5 rfl (by decide) rfl ?_
      refine a_ldc (pc := 6) (v := (-2000000099)) dL_cut_6 (li_RL_80 rfl) ?_
      exact a_ireturn (pc := 8) dL_cut_8 rfl rfl (⟨(by rw [hE]; first | rfl | decide +kernel), q.2⟩)
theorem re_snip {t : ST} {x y n : Int32} : RIe [eIO, eIA, eIS] (oSnip t x y n).1 := RIe.p (RIe.p (RIe.p RIe.i (RIe.e (by simp))) (RIe.e (by simp))) (RIe.e (by simp))
theorem ceL_snip : CEH mL_snip 4 := ⟨⟨tbi 890 (by decide +kernel), tbi 0 (by decide +kernel)⟩, ⟨by decide +kernel, by decide +kernel, by decide +kernel⟩, by decide⟩
theorem ct_snip_0 : CT mL_snip 4 eIO 8 := ⟨[], ⟨0, 7, 8, 50⟩, [⟨0, 7, 13, 40⟩, ⟨0, 7, 18, 78⟩], rfl, (fun z hz => by cases hz), by decide, by decide, tbi 615 (by decide +kernel), tbj 627 (by decide +kernel), rfl⟩
theorem ct_snip_1 : CT mL_snip 4 eIA 13 := ⟨[⟨0, 7, 8, 50⟩], ⟨0, 7, 13, 40⟩, [⟨0, 7, 18, 78⟩], rfl, (fun z hz => by
    simp only [List.mem_cons, List.not_mem_nil, or_false] at hz
    rcases hz with rfl
    · exact Or.inr ⟨by decide, eIO, tbi 615 (by decide +kernel), by simp [zNc]⟩), by decide, by decide, tbi 461 (by decide +kernel), tbj 468 (by decide +kernel), rfl⟩
theorem ct_snip_2 : CT mL_snip 4 eIS 18 := ⟨[⟨0, 7, 8, 50⟩, ⟨0, 7, 13, 40⟩], ⟨0, 7, 18, 78⟩, [], rfl, (fun z hz => by
    simp only [List.mem_cons, List.not_mem_nil, or_false] at hz
    rcases hz with rfl | rfl
    · exact Or.inr ⟨by decide, eIO, tbi 615 (by decide +kernel), by simp [zNc]⟩
    · exact Or.inr ⟨by decide, eIA, tbi 461 (by decide +kernel), by simp [zNc]⟩), by decide, by decide, tbi 862 (by decide +kernel), tbj 869 (by decide +kernel), rfl⟩
set_option maxHeartbeats 1500000 in
set_option maxRecDepth 100000 in
theorem sL_snip {d : Nat} {h : AH} {t : ST} {x y n : Int32} (m : IM h t) : AH' mL_snip (d + 101) 1 6 [.ref 0, .int x, .int y, .int n] h (Qp (oSnip t x y n).1 (oSnip t x y n).2 h) := by
  have hn := m.1.1.1
  refine AH'.of (by decide) (fun E h' q => by cases q.1) (Nat.le_of_ble_eq_true rfl) (fun X => ?_)
  show AW X mL_snip (d + 101) 1 6 0 [(0, .ref 0), (1, .int x), (2, .int y), (3, .int n)] [] h (Qp (oSnip t x y n).1 (oSnip t x y n).2 h)
  refine a_aload_n (pc := 0) (i := 0) dL_snip_0 rfl rfl ?_
  refine a_iload_n (pc := 1) (i := 1) dL_snip_1 rfl rfl ?_
  refine a_iload_n (pc := 2) (i := 2) dL_snip_2 rfl rfl ?_
  refine a_iload_n (pc := 3) (i := 3) dL_snip_3 rfl rfl ?_
  refine a_callVC (pc := 4) (kc := 0) (ks := 0) (mc := 1) (ms := 6) (as := [.int x, .int y, .int n]) (b := 0) (ci := 4) dL_snip_4 (lc_RL_81 rfl) ceX4_snip rfl (lt90 hn (by omega)) (sp_snip (d := d) m) rfl rfl (Nat.le_of_ble_eq_true rfl) Qw.n (no1030 rfl) (fun v h1 q => ?_) (fun E h1 q => ?_)
  · obtain ⟨u, hu⟩ : ∃ u, (oSnip t x y n).1 = ri u := by
      rcases re_snip (t := t) (x := x) (y := y) (n := n) with z | ⟨E, z, -⟩
      · exact z
      · exact absurd (q.1.trans z) (by simp)
    have ev : v = some (.int u) := Sum.inl.inj (q.1.trans hu)
    subst ev
    have hn1 : 68 ≤ hN h1 := by rw [q.2.2.1]; exact hn
    exact a_ireturn (pc := 7) dL_snip_7 rfl rfl (⟨(by rw [hu]; rfl), q.2⟩)
  · obtain ⟨E2, hE, hm⟩ : ∃ E2, (oSnip t x y n).1 = .inr E2 ∧ E2 ∈ [eIO, eIA, eIS] := by
      rcases re_snip (t := t) (x := x) (y := y) (n := n) with ⟨u, z⟩ | z
      · exact absurd (q.1.trans z) (by simp [ri])
      · exact z
    have eE : E = E2 := Sum.inr.inj (q.1.trans hE)
    subst eE
    simp only [List.mem_cons, List.not_mem_nil, or_false] at hm
    rcases hm with rfl | rfl | rfl
    · refine ⟨8, ct_snip_0, ?_⟩
      refine a_astore (pc := 8) (i := 4) (ls' := [(0, .ref 0), (1, .int x), (2, .int y), (3, .int n), (4, .ref 1030)]) dL_snip_8 (by decide) rfl ?_
      refine a_ldc (pc := 10) (v := (-2000000097)) dL_snip_10 (li_RL_52 rfl) ?_
      exact a_ireturn (pc := 12) dL_snip_12 rfl rfl (⟨(by rw [hE]; first | rfl | decide +kernel), q.2⟩)
    · refine ⟨13, ct_snip_1, ?_⟩
      refine a_astore (pc := 13) (i := 4) (ls' := [(0, .ref 0), (1, .int x), (2, .int y), (3, .int n), (4, .ref 1030)]) dL_snip_13 (by decide) rfl ?_
      refine a_ldc (pc := 15) (v := (-2000000098)) dL_snip_15 (li_RL_42 rfl) ?_
      exact a_ireturn (pc := 17) dL_snip_17 rfl rfl (⟨(by rw [hE]; first | rfl | decide +kernel), q.2⟩)
    · refine ⟨18, ct_snip_2, ?_⟩
      refine a_astore (pc := 18) (i := 4) (ls' := [(0, .ref 0), (1, .int x), (2, .int y), (3, .int n), (4, .ref 1030)]) dL_snip_18 (by decide) rfl ?_
      refine a_ldc (pc := 20) (v := (-2000000099)) dL_snip_20 (li_RL_80 rfl) ?_
      exact a_ireturn (pc := 22) dL_snip_22 rfl rfl (⟨(by rw [hE]; first | rfl | decide +kernel), q.2⟩)
theorem re_least {t : ST} {x : Int32} : RIe [eIA] (oLeast t x).1 := RIe.p RIe.i (RIe.e (by simp))
theorem ceL_least : CEH mL_least 2 := ⟨⟨tbi 909 (by decide +kernel), tbi 0 (by decide +kernel)⟩, ⟨by decide +kernel, by decide +kernel, by decide +kernel⟩, by decide⟩
theorem ct_least_0 : CT mL_least 2 eIA 6 := ⟨[], ⟨0, 5, 6, 40⟩, [], rfl, (fun z hz => by cases hz), by decide, by decide, tbi 461 (by decide +kernel), tbj 468 (by decide +kernel), rfl⟩
set_option maxHeartbeats 1500000 in
set_option maxRecDepth 100000 in
theorem sL_least {d : Nat} {h : AH} {t : ST} {x : Int32} (m : IM h t) : AH' mL_least (d + 101) 1 6 [.ref 0, .int x] h (Qp (oLeast t x).1 (oLeast t x).2 h) := by
  have hn := m.1.1.1
  refine AH'.of (by decide) (fun E h' q => by cases q.1) (Nat.le_of_ble_eq_true rfl) (fun X => ?_)
  show AW X mL_least (d + 101) 1 6 0 [(0, .ref 0), (1, .int x)] [] h (Qp (oLeast t x).1 (oLeast t x).2 h)
  refine a_aload_n (pc := 0) (i := 0) dL_least_0 rfl rfl ?_
  refine a_iload_n (pc := 1) (i := 1) dL_least_1 rfl rfl ?_
  refine a_callVC (pc := 2) (kc := 0) (ks := 0) (mc := 1) (ms := 6) (as := [.int x]) (b := 0) (ci := 4) dL_least_2 (lc_RL_84 rfl) ceX4_least rfl (lt90 hn (by omega)) (sp_least (d := d) m) rfl rfl (Nat.le_of_ble_eq_true rfl) Qw.n (no1030 rfl) (fun v h1 q => ?_) (fun E h1 q => ?_)
  · obtain ⟨u, hu⟩ : ∃ u, (oLeast t x).1 = ri u := by
      rcases re_least (t := t) (x := x) with z | ⟨E, z, -⟩
      · exact z
      · exact absurd (q.1.trans z) (by simp)
    have ev : v = some (.int u) := Sum.inl.inj (q.1.trans hu)
    subst ev
    have hn1 : 68 ≤ hN h1 := by rw [q.2.2.1]; exact hn
    exact a_ireturn (pc := 5) dL_least_5 rfl rfl (⟨(by rw [hu]; rfl), q.2⟩)
  · obtain ⟨E2, hE, hm⟩ : ∃ E2, (oLeast t x).1 = .inr E2 ∧ E2 ∈ [eIA] := by
      rcases re_least (t := t) (x := x) with ⟨u, z⟩ | z
      · exact absurd (q.1.trans z) (by simp [ri])
      · exact z
    have eE : E = E2 := Sum.inr.inj (q.1.trans hE)
    subst eE
    simp only [List.mem_cons, List.not_mem_nil, or_false] at hm
    rcases hm with rfl
    · refine ⟨6, ct_least_0, ?_⟩
      refine a_astore_n (pc := 6) (i := 2) (ls' := [(0, .ref 0), (1, .int x), (2, .ref 1030)]) dL_least_6 rfl (by decide) rfl ?_
      refine a_ldc (pc := 7) (v := (-2000000098)) dL_least_7 (li_RL_42 rfl) ?_
      exact a_ireturn (pc := 9) dL_least_9 rfl rfl (⟨(by rw [hE]; first | rfl | decide +kernel), q.2⟩)
theorem re_mend {t : ST} {x : Int32} : RIe [eIO, eIS] (oMend t x).1 := RIe.p (RIe.p RIe.i (RIe.e (by simp))) (RIe.e (by simp))
theorem ceL_mend : CEH mL_mend 2 := ⟨⟨tbi 916 (by decide +kernel), tbi 0 (by decide +kernel)⟩, ⟨by decide +kernel, by decide +kernel, by decide +kernel⟩, by decide⟩
theorem ct_mend_0 : CT mL_mend 2 eIO 6 := ⟨[], ⟨0, 5, 6, 50⟩, [⟨0, 5, 10, 78⟩], rfl, (fun z hz => by cases hz), by decide, by decide, tbi 615 (by decide +kernel), tbj 627 (by decide +kernel), rfl⟩
theorem ct_mend_1 : CT mL_mend 2 eIS 10 := ⟨[⟨0, 5, 6, 50⟩], ⟨0, 5, 10, 78⟩, [], rfl, (fun z hz => by
    simp only [List.mem_cons, List.not_mem_nil, or_false] at hz
    rcases hz with rfl
    · exact Or.inr ⟨by decide, eIO, tbi 615 (by decide +kernel), by simp [zNc]⟩), by decide, by decide, tbi 862 (by decide +kernel), tbj 869 (by decide +kernel), rfl⟩
set_option maxHeartbeats 1500000 in
set_option maxRecDepth 100000 in
theorem sL_mend {d : Nat} {h : AH} {t : ST} {x : Int32} (m : IM h t) : AH' mL_mend (d + 101) 1 6 [.ref 0, .int x] h (Qp (oMend t x).1 (oMend t x).2 h) := by
  have hn := m.1.1.1
  refine AH'.of (by decide) (fun E h' q => by cases q.1) (Nat.le_of_ble_eq_true rfl) (fun X => ?_)
  show AW X mL_mend (d + 101) 1 6 0 [(0, .ref 0), (1, .int x)] [] h (Qp (oMend t x).1 (oMend t x).2 h)
  refine a_aload_n (pc := 0) (i := 0) dL_mend_0 rfl rfl ?_
  refine a_iload_n (pc := 1) (i := 1) dL_mend_1 rfl rfl ?_
  refine a_callVC (pc := 2) (kc := 0) (ks := 0) (mc := 1) (ms := 6) (as := [.int x]) (b := 0) (ci := 4) dL_mend_2 (lc_RL_87 rfl) ceX4_mend rfl (lt90 hn (by omega)) (sp_mend (d := d) m) rfl rfl (Nat.le_of_ble_eq_true rfl) Qw.n (no1030 rfl) (fun v h1 q => ?_) (fun E h1 q => ?_)
  · obtain ⟨u, hu⟩ : ∃ u, (oMend t x).1 = ri u := by
      rcases re_mend (t := t) (x := x) with z | ⟨E, z, -⟩
      · exact z
      · exact absurd (q.1.trans z) (by simp)
    have ev : v = some (.int u) := Sum.inl.inj (q.1.trans hu)
    subst ev
    have hn1 : 68 ≤ hN h1 := by rw [q.2.2.1]; exact hn
    exact a_ireturn (pc := 5) dL_mend_5 rfl rfl (⟨(by rw [hu]; rfl), q.2⟩)
  · obtain ⟨E2, hE, hm⟩ : ∃ E2, (oMend t x).1 = .inr E2 ∧ E2 ∈ [eIO, eIS] := by
      rcases re_mend (t := t) (x := x) with ⟨u, z⟩ | z
      · exact absurd (q.1.trans z) (by simp [ri])
      · exact z
    have eE : E = E2 := Sum.inr.inj (q.1.trans hE)
    subst eE
    simp only [List.mem_cons, List.not_mem_nil, or_false] at hm
    rcases hm with rfl | rfl
    · refine ⟨6, ct_mend_0, ?_⟩
      refine a_astore_n (pc := 6) (i := 2) (ls' := [(0, .ref 0), (1, .int x), (2, .ref 1030)]) dL_mend_6 rfl (by decide) rfl ?_
      refine a_ldc (pc := 7) (v := (-2000000097)) dL_mend_7 (li_RL_52 rfl) ?_
      exact a_ireturn (pc := 9) dL_mend_9 rfl rfl (⟨(by rw [hE]; first | rfl | decide +kernel), q.2⟩)
    · refine ⟨10, ct_mend_1, ?_⟩
      refine a_astore_n (pc := 10) (i := 2) (ls' := [(0, .ref 0), (1, .int x), (2, .ref 1030)]) dL_mend_10 rfl (by decide) rfl ?_
      refine a_ldc (pc := 11) (v := (-2000000099)) dL_mend_11 (li_RL_80 rfl) ?_
      exact a_ireturn (pc := 13) dL_mend_13 rfl rfl (⟨(by rw [hE]; first | rfl | decide +kernel), q.2⟩)
