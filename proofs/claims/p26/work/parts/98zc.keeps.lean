/-! the law: what it keeps -/
def mLaw (nm : String) (hh : List (Nat × Nat × Nat × Nat)) : MT := (⟨RL, nm, "([I)Z"⟩, cL_law, 20, some .boolean, hh)
abbrev QL : Res → AH → Prop := fun r _ => r = .inl (some (.int 1))
def bfN (kb : Nat) : Nat := nm kb (qA 7 9)
theorem kd_bf {kb : Nat} : kdA (bfN kb) = some (.inr (7, 9)) := kdA_a (by decide) (by decide)
/-- the cells that a change of the Sheet k may change -/
def SK (k : Nat) : Nat → Prop := fun a => a < 68 ∨ SN k a ∨ ∃ n, n ≤ 12 ∧ a = nm (k + 6) (qA 2 n)
theorem SK_a {k j : Nat} (h : j ≠ k) : ¬ SK k (aN j) := by
  rintro (z | (z | z | z) | ⟨n, hn, z⟩)
  · have := nm_hi (k := j) (q := 6)
    have z : nm j 6 < 68 := z
    omega
  · exact h ((nm_eq (by decide) (by decide)).mp z).1
  · exact absurd ((nm_eq (by decide) (by decide)).mp z).2 (by decide)
  · exact absurd ((nm_eq (by decide) (by decide)).mp z).2 (by decide)
  · exact absurd ((nm_eq (by decide) (by unfold qA; omega)).mp z).2 (by unfold qA; omega)
theorem SK_g {k j : Nat} {s : SH} (h : j ≠ k) (hc : sCells s ≤ 12) : ¬ SK k (gonN j 6 s) := by
  have hq : qA 2 (sCells s) < 1024 := by unfold qA; omega
  rintro (z | (z | z | z) | ⟨n, hn, z⟩)
  · have := nm_hi (k := j + 6) (q := qA 2 (sCells s))
    have z : nm (j + 6) (qA 2 (sCells s)) < 68 := z
    omega
  · exact absurd ((nm_eq hq (by decide)).mp z).2 (by unfold qA; omega)
  · exact absurd ((nm_eq hq (by decide)).mp z).2 (by unfold qA; omega)
  · exact absurd ((nm_eq hq (by decide)).mp z).2 (by unfold qA; omega)
  · have := ((nm_eq hq (by unfold qA; omega)).mp z).1
    omega
theorem SK_b {k kb : Nat} : ¬ SK k (bfN kb) := by
  have hq : qA 7 9 < 1024 := by decide
  rintro (z | (z | z | z) | ⟨n, hn, z⟩)
  · have := nm_hi (k := kb) (q := qA 7 9)
    have z : nm kb (qA 7 9) < 68 := z
    omega
  · exact absurd ((nm_eq hq (by decide)).mp z).2 (by decide)
  · exact absurd ((nm_eq hq (by decide)).mp z).2 (by decide)
  · exact absurd ((nm_eq hq (by decide)).mp z).2 (by decide)
  · exact absurd ((nm_eq hq (by unfold qA; omega)).mp z).2 (by unfold qA; omega)
theorem okS_SK {k : Nat} : okS (SK k) := by
  intro x hx
  rcases hx with z | z | ⟨n, hn, z⟩
  · exact okS_68 x z
  · exact (okS_k (S := SN k) (by
      rintro y (rfl | rfl | rfl)
      · exact Or.inr (Or.inl kd_a)
      · exact Or.inr (Or.inr (Or.inr (Or.inl kd_now)))
      · exact Or.inr (Or.inr (Or.inr (Or.inl kd_bst))))) x z
  · exact (okS_k (S := fun a => a = nm (k + 6) (qA 2 n)) (by
      rintro y rfl
      exact Or.inr (Or.inr (Or.inl ⟨n, kdA_a (by decide) (by omega)⟩)))) x z
theorem okS_bf {kb : Nat} : okS (fun a => a = bfN kb) := okS_k (by
  rintro y rfl
  exact Or.inr (Or.inr (Or.inr (Or.inr (Or.inr kd_bf)))))
theorem LW.sk {S : Nat → Prop} {c k j : Nat} {h h2 : AH} {s : SH} (l : LW h j 6 s) (d : Dq S c h h2) (hs : ∀ a, S a → SK k a) (hj : j ≠ k) : LW h2 j 6 s := l.dq (d.mono hs) okS_SK (SK_a hj) (SK_g hj (cells12 l.1.1))
theorem LW.bf {c j kb : Nat} {h h2 : AH} {s : SH} (l : LW h j 6 s) (d : Dq (fun a => a = bfN kb) c h h2) : LW h2 j 6 s := l.dq d okS_bf (fun z => by have := kd_a (k := j); rw [show aN j = bfN kb from z, kd_bf] at this; cases this) (fun z => by have := kd_gon (k := j) (g := 6) l.1.1; rw [show gonN j 6 s = bfN kb from z, kd_bf] at this; cases this)
theorem BZ.dq {S : Nat → Prop} {c : Nat} {h h2 : AH} (z : BZ h) (hn : 68 ≤ hN h) (d : Dq S c h h2) (hs : ¬ S 66) : BZ h2 := by
  have e := d.2.2 66 (prN_st (Nat.lt_of_lt_of_le (by decide) hn) (by decide)) hs
  exact ⟨by rw [e.1]; exact z.1, fun w hw => by rw [e.1]; exact z.2 w hw⟩
/-- what is kept for undoing: the Sheets K j in the row bfN kb -/
def BFs (H : AH) (t : ST) (k kb dn : Nat) (K : Nat → Nat) : Prop :=
  prN (hN H) (bfN kb) ∧ (∀ j, j < 9 → hR H (bfN kb) j = none ∨ ∃ q, hR H (bfN kb) j = some (aN q) ∧ prN (hN H) (aN q)) ∧
  (∀ j, j < dn → j < 8 → j < tN t ∧ hR H (bfN kb) j = some (aN (K j)) ∧ LW H (K j) 6 (pastK t j) ∧ K j ≠ k) ∧ ∀ i j, i < j → j < dn → j < 8 → K i ≠ K j
theorem BFs.dq {S : Nat → Prop} {c k kb dn : Nat} {H H2 : AH} {t : ST} {K : Nat → Nat} (b : BFs H t k kb dn K) (d : Dq S c H H2) (hs : ∀ a, S a → SK k a) : BFs H2 t k kb dn K := by
  obtain ⟨b1, b2, b3, b4⟩ := b
  have e := d.2.2 _ b1 (fun z => SK_b (hs _ z))
  refine ⟨d.2.1 _ b1, fun j hj => ?_, fun j h1 h2 => ?_, b4⟩
  · rw [e.2.2]
    exact (b2 j hj).imp id (fun ⟨q, q1, q2⟩ => ⟨q, q1, d.2.1 _ q2⟩)
  · obtain ⟨x1, x2, x3, x4⟩ := b3 j h1 h2
    exact ⟨x1, by rw [e.2.2]; exact x2, x3.sk d hs x4, x4⟩
theorem BFs.st {k kb dn : Nat} {H : AH} {t t2 : ST} {K : Nat → Nat} (b : BFs H t k kb dn K) (e : t2.2.2 = t.2.2) : BFs H t2 k kb dn K := by
  obtain ⟨b1, b2, b3, b4⟩ := b
  obtain ⟨e1, e2⟩ := past_eq e
  exact ⟨b1, b2, fun j h1 h2 => by rw [e1, e2]; exact b3 j h1 h2, b4⟩
/-- a copy made: its cells are new -/
def OT (H : AH) (t : ST) (k kp kb dn : Nat) (K : Nat → Nat) : Prop := BFs H t k kb dn K ∧ (LW H kp 6 (tC t) ∧ kp ≠ k) ∧ ∀ j, j < dn → j < 8 → K j ≠ kp
theorem OT.dq {S : Nat → Prop} {c k kp kb dn : Nat} {H H2 : AH} {t : ST} {K : Nat → Nat} (o : OT H t k kp kb dn K) (d : Dq S c H H2) (hs : ∀ a, S a → SK k a) : OT H2 t k kp kb dn K := ⟨o.1.dq d hs, ⟨o.2.1.1.sk d hs o.2.1.2, o.2.1.2⟩, o.2.2⟩
theorem OT.of {c k kb dn : Nat} {H H2 : AH} {t : ST} {K : Nat → Nat} (hw : wfh H) (b : BFs H t k kb dn K) (pk : prN (hN H) (aN k)) (d : Dq noS c H H2) (l : LW H2 (dl (hN H)) 6 (tC t)) : OT H2 t k (dl (hN H)) kb dn K :=
  ⟨b.dq d (fun a z => z.elim), ⟨l, fun e => nm_new2 hw.1 (Nat.le_of_eq e) (show 6 < 1024 by decide) pk⟩, fun j h1 h2 e => nm_new2 hw.1 (Nat.le_of_eq e.symm) (show 6 < 1024 by decide) (b.2.2.1 j h1 h2).2.2.1.1.2.1⟩
def LI (H : AH) (t : ST) (k kb dn : Nat) (K : Nat → Nat) : Prop := IM H t ∧ tB t = 0 ∧ BZ H ∧ LW H k 6 (tC t) ∧ BFs H t k kb dn K
def MJ (H : AH) (t t2 : ST) (k kp kb dn : Nat) (K : Nat → Nat) : Prop := IM H t2 ∧ tB t2 = 0 ∧ BZ H ∧ LW H k 6 (tC t2) ∧ OT H t k kp kb dn K
theorem MJ.n68 {H : AH} {t t2 : ST} {k kp kb dn : Nat} {K : Nat → Nat} (m : MJ H t t2 k kp kb dn K) : 68 ≤ hN H := m.1.1.1.1
/-- a change that leaves the object and the Sheet k -/
theorem MJ.dq {S : Nat → Prop} {c k kp kb dn : Nat} {H H2 : AH} {t t2 : ST} {K : Nat → Nat} (m : MJ H t t2 k kp kb dn K) (d : Dq S c H H2) (hs : ∀ a, S a → a = 67) : MJ H2 t t2 k kp kb dn K := by
  have h68 : ∀ a, S a → S68 a := fun a z => by show a < 68; rw [hs a z]; decide
  exact ⟨m.1.dq d (fun a z => by rw [hs a z]; decide), m.2.1, m.2.2.1.dq m.n68 d (fun z => absurd (hs 66 z) (by decide)), m.2.2.2.1.dq (d.mono h68) okS_68 nm_68 nm_68, m.2.2.2.2.dq d (fun a z => Or.inl (h68 a z))⟩
theorem MJ.bel {k kp kb dn : Nat} {H : AH} {t t2 : ST} {K : Nat → Nat} {x : Int32} (m : MJ H t t2 k kp kb dn K) : MJ (sI H 67 0 x) t t2 k kp kb dn K := m.dq ((Dq.refl m.n68 : Dq S1 0 H H).sI (b := 67) (j := 0) (x := x) (Or.inl rfl)) (fun a z => z)
/-- a call of the object -/
theorem MJ.fw {k kp kb dn : Nat} {H H2 : AH} {t t2 t3 : ST} {K : Nat → Nat} (m : MJ H t t2 k kp kb dn K) (m3 : IM H2 t3) (f : Fw H H2) (hb : tB t3 = 0) (l : LW H k 6 (tC t3)) : MJ H2 t t3 k kp kb dn K := by
  have d := f.dq m.n68
  have h68 : ∀ a : Nat, a < 66 → S68 a := fun a z => by show a < 68; omega
  exact ⟨m3, hb, m.2.2.1.dq m.n68 d (by omega), l.dq d okS_66 (fun z => nm_68 (h68 _ z)) (fun z => nm_68 (h68 _ z)), m.2.2.2.2.dq d (fun a z => Or.inl (h68 a z))⟩
/-- the new row of what is kept -/
theorem BFs.push {k kp kb dn : Nat} {H H2 : AH} {t t2 : ST} {K : Nat → Nat} (o : OT H t k kp kb dn K) (h8 : tN t ≤ 8) (e : t2.2.2 = (tRem t).2.2) (d : Dq (fun a => a = bfN kb) 0 H H2) (hr : ∀ j, j < 9 → hR H2 (bfN kb) j = if j = 0 then some (aN kp) else hR H (bfN kb) (j - 1)) : BFs H2 t2 k kb (dn + 1) (fun j => if j = 0 then kp else K (j - 1)) := by
  obtain ⟨⟨b1, b2, b3, b4⟩, ⟨l, hk⟩, hd⟩ := o
  obtain ⟨e1, e2⟩ := past_eq e
  obtain ⟨r1, r2, r3⟩ := rem_past h8
  refine ⟨d.2.1 _ b1, fun j hj => ?_, fun j h1 h2 => ?_, fun i j hij h1 h2 => ?_⟩
  · rw [hr j hj]
    by_cases z : j = 0
    · rw [if_pos z]; exact Or.inr ⟨kp, rfl, d.2.1 _ l.1.2.1⟩
    · rw [if_neg z]; exact (b2 (j - 1) (by omega)).imp id (fun ⟨q, q1, q2⟩ => ⟨q, q1, d.2.1 _ q2⟩)
  · rw [e1, e2, hr j (by omega), r1]
    by_cases z : j = 0
    · subst z
      rw [if_pos rfl, r2]
      exact ⟨by omega, rfl, l.bf d, hk⟩
    · obtain ⟨x1, x2, x3, x4⟩ := b3 (j - 1) (by omega) (by omega)
      have r4 := r3 (j - 1) (by rw [r1]; omega)
      rw [show j - 1 + 1 = j by omega] at r4
      rw [if_neg z, r4]
      show j < min (tN t + 1) 8 ∧ hR H (bfN kb) (j - 1) = some (aN (if j = 0 then kp else K (j - 1))) ∧ LW H2 (if j = 0 then kp else K (j - 1)) 6 (pastK t (j - 1)) ∧ (if j = 0 then kp else K (j - 1)) ≠ k
      rw [if_neg z]
      exact ⟨by omega, x2, x3.bf d, x4⟩
  · show (if i = 0 then kp else K (i - 1)) ≠ (if j = 0 then kp else K (j - 1))
    rw [if_neg (show ¬ j = 0 by omega)]
    by_cases z : i = 0
    · rw [if_pos z]; exact fun y => hd (j - 1) (by omega) (by omega) y.symm
    · rw [if_neg z]; exact b4 (i - 1) (j - 1) (by omega) (by omega) (by omega)
theorem LI.of {k kb dn : Nat} {H H2 : AH} {t2 : ST} {K : Nat → Nat} {c kb2 : Nat} (im : IM H t2) (hb : tB t2 = 0) (bz : BZ H) (l : LW H k 6 (tC t2)) (d : Dq (fun a => a = bfN kb2) c H H2) (b : BFs H2 t2 k kb dn K) : LI H2 t2 k kb dn K := by
  have h := nm_hi (k := kb2) (q := qA 7 9)
  exact ⟨im.dq d (fun a z => by have z : a = nm kb2 (qA 7 9) := z; omega), hb, bz.dq im.1.1.1 d (fun z => by have z : 66 = nm kb2 (qA 7 9) := z; omega), l.bf d, b⟩
/-- a row shifted by one -/
def shf (H : AH) (kb m : Nat) (G : AH) : Prop := Dq (fun a => a = bfN kb) 0 H G ∧ hN G = hN H ∧ ∀ j, j < 9 → hR G (bfN kb) j = if m < j then hR H (bfN kb) (j - 1) else hR H (bfN kb) j
theorem shf_0 {H : AH} {kb : Nat} (hn : 68 ≤ hN H) : shf H kb 8 H := ⟨Dq.refl hn, rfl, fun j hj => by rw [if_neg (by omega)]⟩
theorem shf_s {H G : AH} {kb m : Nat} {x : Option Nat} (s : shf H kb (m + 1) G) (hm : m < 8) (hx : x = hR G (bfN kb) m) : shf H kb m (sR G (bfN kb) (m + 1) x) := by
  refine ⟨s.1.sR (Or.inl rfl), s.2.1, fun j hj => ?_⟩
  rw [hR_sR]
  have e := s.2.2 m (by omega)
  rw [if_neg (by omega)] at e
  by_cases z : j = m + 1
  · rw [if_pos ⟨rfl, z⟩, if_pos (by omega), hx, e, z]; rfl
  · rw [if_neg (fun y => z y.2), s.2.2 j hj]
    by_cases z2 : m + 1 < j
    · rw [if_pos z2, if_pos (by omega)]
    · rw [if_neg z2, if_neg (by omega)]

set_option maxHeartbeats 1500000 in
set_option maxRecDepth 100000 in
theorem x_rinit {d : Nat} {h : AH} {x : Int32} (hn : 68 ≤ hN h) : AC mX5_init (d + 1) 0 0 [.ref 67, .int x] h (Qe none (sI h 67 0 x)) := by
  refine AC.of (by decide) rfl (Nat.le_of_ble_eq_true rfl) (fun X => ?_)
  show AW X mX5_init (d + 1) 0 0 0 [(0, .ref 67), (1, .int x)] [] h (Qe none (sI h 67 0 x))
  have p67 : prN (hN h) 67 := prN_st (by omega) (by omega)
  refine a_aload_n (pc := 0) (i := 0) dX5_init_0 rfl rfl ?_
  refine a_objInit (pc := 1) dX5_init_1 (tbi 252 (by decide +kernel)) (Nat.le_of_ble_eq_true rfl) ?_
  refine a_aload_n (pc := 4) (i := 0) dX5_init_4 rfl rfl ?_
  refine a_iload_n (pc := 5) (i := 1) dX5_init_5 rfl rfl ?_
  refine g_putI (pc := 6) (ci := 5) (k := 0) dX5_init_6 (lf_RX5_7 rfl) (by decide) (Or.inl rfl) k67 p67 rfl ?_
  exact a_return (pc := 9) dX5_init_9 rfl (⟨rfl, rfl⟩)
