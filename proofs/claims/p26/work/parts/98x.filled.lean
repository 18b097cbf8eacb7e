/-! the Sheet that is being filled -/
def S68 : Nat → Prop := fun a => a < 68
theorem okS_68 : okS S68 := by
  intro x hx
  have hx : x < 68 := hx
  rcases (by omega : x < 67 ∨ x = 67) with z | z
  · exact okS_67 x z
  · exact okS_1 x z
theorem S67_68 {a : Nat} (h : S67 a) : S68 a := Nat.lt_succ_of_lt h
theorem S1_68 {a : Nat} (h : S1 a) : S68 a := by show a < 68; rw [show a = 67 from h]; decide
def lnN (k H : Nat) : Nat := nm (k + 7) (qA 6 (2 * H))
def szN (k H : Nat) : Nat := nm (k + 8) (qA 0 (2 * H))
def goN (k W H : Nat) : Nat := nm (k + 6) (qA 2 (W * H))
def SHP (h : AH) (k W H v m1 m2 : Nat) (Ln : Nat → List Nat) (f : Nat → Nat) : Prop :=
  (prN (hN h) (aN k) ∧ prN (hN h) (nowN k) ∧ prN (hN h) (bstN k) ∧ prN (hN h) (goN k W H) ∧ prN (hN h) (lnN k H) ∧ prN (hN h) (szN k H)) ∧
  (hI h (aN k) 0 = nI W ∧ hI h (aN k) 1 = nI H ∧ hI h (aN k) 4 = nI v ∧ hI h (aN k) 7 = nI 0 ∧ hI h (aN k) 8 = nI 0) ∧
  (hR h (aN k) 9 = some (nowN k) ∧ hR h (aN k) 10 = some (bstN k) ∧ hR h (aN k) 5 = some (goN k W H) ∧ hR h (aN k) 2 = some (lnN k H) ∧ hR h (aN k) 3 = some (szN k H)) ∧
  (∃ M, hR h (aN k) 6 = some M ∧ STR h M []) ∧ (∀ c, c < W * H → hI h (goN k W H) c = 0) ∧ (∀ r, r < m1 → ∃ x, hR h (lnN k H) r = some x ∧ STR h x (Ln r)) ∧ ∀ r, r < m2 → hI h (szN k H) r = nI (f r)
theorem nm_68 {k q : Nat} : ¬ S68 (nm k q) := fun z => by have := nm_hi (k := k) (q := q); have z : nm k q < 68 := z; omega
theorem kd_ln {k H : Nat} (hH : H ≤ 3) : kdA (lnN k H) = some (.inr (6, 2 * H)) := kdA_a (by decide) (by omega)
theorem kd_sz {k H : Nat} (hH : H ≤ 3) : kdA (szN k H) = some (.inr (0, 2 * H)) := kdA_a (by decide) (by omega)
theorem kd_go {k W H : Nat} (hW : W ≤ 4) (hH : H ≤ 3) : kdA (goN k W H) = some (.inr (2, W * H)) := kdA_a (by decide) (by have := Nat.mul_le_mul hW hH; omega)
theorem SHP.dq {S : Nat → Prop} {h h2 : AH} {k W H v m1 m2 c : Nat} {Ln : Nat → List Nat} {f : Nat → Nat} (s : SHP h k W H v m1 m2 Ln f) (d : Dq S c h h2) (hs : ∀ a, S a → S68 a) : SHP h2 k W H v m1 m2 Ln f := by
  obtain ⟨⟨p1, p2, p3, p4, p5, p6⟩, s2, s3, ⟨M, s4, s5⟩, s6, s7, s8⟩ := s
  have o : okS S := fun x hx => okS_68 x (hs x hx)
  have n : ∀ {k q : Nat}, ¬ S (nm k q) := fun z => nm_68 (hs _ z)
  obtain ⟨a1, a2, a3⟩ := d.2.2 _ p1 n
  have b4 := d.2.2 _ p4 n
  have b5 := d.2.2 _ p5 n
  have b6 := d.2.2 _ p6 n
  refine ⟨⟨d.2.1 _ p1, d.2.1 _ p2, d.2.1 _ p3, d.2.1 _ p4, d.2.1 _ p5, d.2.1 _ p6⟩, by rw [a1]; exact s2, by rw [a3]; exact s3, ⟨M, by rw [a3]; exact s4, s5.dq d o.str⟩, fun c hc => by rw [b4.1]; exact s6 c hc, fun r hr => ?_, fun r hr => by rw [b6.1]; exact s8 r hr⟩
  obtain ⟨x, x1, x2⟩ := s7 r hr
  exact ⟨x, by rw [b5.2.2]; exact x1, x2.dq d o.str⟩
theorem SHP.line {h : AH} {k W H v m m2 x : Nat} {Ln : Nat → List Nat} {f : Nat → Nat} {U : List Nat} (hH : H ≤ 3) (s : SHP h k W H v m m2 Ln f) (sx : STR h x U) : SHP (sR h (lnN k H) m (some x)) k W H v (m + 1) m2 (fun r => if r = m then U else Ln r) f := by
  obtain ⟨s1, s2, s3, ⟨M, s4, s5⟩, s6, s7, s8⟩ := s
  have dq : Dq (fun a => a = lnN k H) 0 h (sR h (lnN k H) m (some x)) := (Dq.refl (prN_68 s1.1) : Dq (fun a => a = lnN k H) 0 h h).sR (Or.inl rfl)
  have ok : noStr (fun a => a = lnN k H) := fun a e => by rw [show a = lnN k H from e, kd_ln hH]; exact ⟨fun z => (by cases z), fun n z => (by cases z)⟩
  have ne : aN k ≠ lnN k H := fun e => by have := kd_a (k := k); rw [e, kd_ln hH] at this; cases this
  have rr : ∀ j, hR (sR h (lnN k H) m (some x)) (aN k) j = hR h (aN k) j := fun j => by rw [hR_sR, if_neg (fun z => ne z.1)]
  refine ⟨s1, s2, ⟨(rr 9).trans s3.1, (rr 10).trans s3.2.1, (rr 5).trans s3.2.2.1, (rr 2).trans s3.2.2.2.1, (rr 3).trans s3.2.2.2.2⟩, ⟨M, (rr 6).trans s4, s5.dq dq ok.off⟩, s6, fun r hr => ?_, s8⟩
  rcases (by omega : r < m ∨ r = m) with z | z
  · obtain ⟨y, y1, y2⟩ := s7 r z
    refine ⟨y, by rw [hR_sR, if_neg (fun q => absurd q.2 (by omega))]; exact y1, ?_⟩
    show STR _ y (if r = m then U else Ln r)
    rw [if_neg (by omega)]
    exact y2.dq dq ok.off
  · refine ⟨x, by rw [hR_sR, if_pos ⟨rfl, z⟩], ?_⟩
    show STR _ x (if r = m then U else Ln r)
    rw [if_pos z]
    exact sx.dq dq ok.off
theorem SHP.size {h : AH} {k W H v m1 m2 j y : Nat} {Ln : Nat → List Nat} {f f2 : Nat → Nat} (hW : W ≤ 4) (hH : H ≤ 3) (s : SHP h k W H v m1 m2 Ln f) (e1 : f2 j = y) (e2 : ∀ r, r ≠ j → f2 r = f r) {m3 : Nat} (hm : ∀ r, r < m3 → r ≠ j → r < m2) : SHP (sI h (szN k H) j (nI y)) k W H v m1 m3 Ln f2 := by
  obtain ⟨s1, s2, s3, ⟨M, s4, s5⟩, s6, s7, s8⟩ := s
  have dq : Dq (fun a => a = szN k H) 0 h (sI h (szN k H) j (nI y)) := (Dq.refl (prN_68 s1.1) : Dq (fun a => a = szN k H) 0 h h).sI (Or.inl rfl)
  have ok : noStr (fun a => a = szN k H) := fun a e => by rw [show a = szN k H from e, kd_sz hH]; exact ⟨fun z => (by cases z), fun n z => (by cases z)⟩
  have ne : aN k ≠ szN k H := fun e => by have := kd_a (k := k); rw [e, kd_sz hH] at this; cases this
  have ne2 : goN k W H ≠ szN k H := fun e => by have := kd_go (k := k) hW hH; rw [e, kd_sz hH] at this; cases this
  have rr : ∀ j2, hI (sI h (szN k H) j (nI y)) (aN k) j2 = hI h (aN k) j2 := fun j2 => by rw [hI_sI, if_neg (fun z => ne z.1)]
  refine ⟨s1, ⟨(rr 0).trans s2.1, (rr 1).trans s2.2.1, (rr 4).trans s2.2.2.1, (rr 7).trans s2.2.2.2.1, (rr 8).trans s2.2.2.2.2⟩, s3, ⟨M, s4, s5.dq dq ok.off⟩, fun c hc => by rw [hI_sI, if_neg (fun z => ne2 z.1)]; exact s6 c hc, fun r hr => ?_, fun r hr => ?_⟩
  · obtain ⟨z, z1, z2⟩ := s7 r hr
    exact ⟨z, z1, z2.dq dq ok.off⟩
  · rw [hI_sI]
    by_cases e : r = j
    · rw [if_pos ⟨rfl, e⟩, e, e1]
    · rw [if_neg (fun z => e z.2), e2 r e]
      exact s8 r (hm r hr e)
theorem SHP.least {h : AH} {k W H v m1 m2 y : Nat} {Ln : Nat → List Nat} {f : Nat → Nat} (hW : W ≤ 4) (hH : H ≤ 3) (s : SHP h k W H v m1 m2 Ln f) : SHP (sI h (aN k) 4 (nI y)) k W H y m1 m2 Ln f := by
  obtain ⟨s1, s2, s3, ⟨M, s4, s5⟩, s6, s7, s8⟩ := s
  have dq : Dq (fun a => a = aN k) 0 h (sI h (aN k) 4 (nI y)) := (Dq.refl (prN_68 s1.1) : Dq (fun a => a = aN k) 0 h h).sI (Or.inl rfl)
  have n1 : goN k W H ≠ aN k := fun e => by have := kd_a (k := k); rw [← e, kd_go hW hH] at this; cases this
  have n2 : szN k H ≠ aN k := fun e => by have := kd_a (k := k); rw [← e, kd_sz hH] at this; cases this
  have rr : ∀ j2, j2 ≠ 4 → hI (sI h (aN k) 4 (nI y)) (aN k) j2 = hI h (aN k) j2 := fun j2 hj => by rw [hI_sI, if_neg (fun z => hj z.2)]
  refine ⟨s1, ⟨(rr 0 (by omega)).trans s2.1, (rr 1 (by omega)).trans s2.2.1, by rw [hI_sI, if_pos ⟨rfl, rfl⟩], (rr 7 (by omega)).trans s2.2.2.2.1, (rr 8 (by omega)).trans s2.2.2.2.2⟩, s3, ⟨M, s4, s5.dq dq okS_a.str⟩, fun c hc => by rw [hI_sI, if_neg (fun z => n1 z.1)]; exact s6 c hc, fun r hr => ?_, fun r hr => by rw [hI_sI, if_neg (fun z => n2 z.1)]; exact s8 r hr⟩
  obtain ⟨z, z1, z2⟩ := s7 r hr
  exact ⟨z, z1, z2.dq dq okS_a.str⟩
theorem chN_lt {c : Nat} (h : okq c) : chN (ltv (nI c)) = c := by
  rw [ltv_n h]
  by_cases e : c = 45
  · rw [if_pos e, chN_no, e]
  · rw [if_neg e]
    have h2 := h.resolve_left e
    rw [chN_yes (by omega)]
    omega
theorem LW_of {h : AH} {k W H v : Nat} {Ln : Nat → List Nat} {f : Nat → Nat} {s : SH} (hW : W ≤ 4) (hH : H ≤ 3) (p : SHP h k W H v (2 * H) (2 * H) Ln f) (r : RdS s W H v Ln f) (g : GS s) (hLn : ∀ r, r < 2 * H → (Ln r).length = W ∧ ∀ j, j < W → okq ((Ln r).getD j 0)) : LW h k 6 s := by
  obtain ⟨⟨p1, p2, p3, p4, p5, p6⟩, s2, s3, ⟨M, s4, s5⟩, s6, s7, s8⟩ := p
  obtain ⟨⟨r1, r2, r3⟩, ⟨r4, r5, r6⟩, r7, r8, r9⟩ := r
  have eG : gonN k 6 s = goN k W H := by unfold gonN goN sCells; rw [r1, r2]
  have eC : sCells s = W * H := by unfold sCells; rw [r1, r2]
  refine ⟨⟨⟨g, by omega, by omega, by omega⟩, p1, p2, p3, by rw [eG]; exact p4⟩, by rw [r1, r2, r3, r5, r6]; exact s2, ⟨s3.1, s3.2.1, by rw [eG]; exact s3.2.2.1⟩, ⟨lnN k H, szN k H, s3.2.2.2.1, s3.2.2.2.2, ⟨by rw [r2]; exact kd_ln hH, p5⟩, ⟨by rw [r2]; exact kd_sz hH, p6⟩, fun i hi => ?_, fun i hi => ?_⟩, ⟨M, s4, ?_⟩, fun c hc => ?_⟩
  · rw [r2] at hi
    obtain ⟨x, x1, x2⟩ := s7 i hi
    refine ⟨x, x1, ?_⟩
    have e : lineT s i = Ln i := by
      obtain ⟨l1, l2⟩ := hLn i hi
      unfold lineT
      rw [r1, r2]
      refine List.ext_getElem (by rw [List.length_map, List.length_range, l1]) (fun c h1 h2 => ?_)
      have hc : c < W := by rw [← l1]; exact h2
      rw [List.getElem_map, List.getElem_range, r8 i c (by omega) hc, chN_lt (l2 c hc), List.getD_eq_getElem?_getD, List.getElem?_eq_getElem h2]
      rfl
    rw [e]
    exact x2
  · rw [r2] at hi
    rw [r2, r9 i (by omega)]
    exact s8 i hi
  · have e : msT s = [] := List.eq_nil_of_length_eq_zero (by rw [msT_len, r4])
    rw [e]
    exact s5
  · rw [eC] at hc
    rw [eG, s6 c hc, bi_f (r7 c)]
