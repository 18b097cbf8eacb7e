/-! what changes beside what stands: Dq; a text and a character more; the object's cells -/
/-- c named cells more; of those that were there only the ones of S may differ -/
def Dq (S : Nat → Prop) (c : Nat) (h h2 : AH) : Prop := (68 ≤ hN h2 ∧ dl (hN h2) = dl (hN h) + c) ∧ (∀ a, prN (hN h) a → prN (hN h2) a) ∧ ∀ a, prN (hN h) a → ¬ S a → hI h2 a = hI h a ∧ hL h2 a = hL h a ∧ hR h2 a = hR h a
abbrev noS : Nat → Prop := fun _ => False
theorem Dq.refl {S : Nat → Prop} {h : AH} (hn : 68 ≤ hN h) : Dq S 0 h h := ⟨⟨hn, rfl⟩, fun _ q => q, fun _ _ _ => ⟨rfl, rfl, rfl⟩⟩
theorem Dq.mono {S S2 : Nat → Prop} {c : Nat} {h h2 : AH} (f : Dq S c h h2) (hs : ∀ a, S a → S2 a) : Dq S2 c h h2 := ⟨f.1, f.2.1, fun a ha hn => f.2.2 a ha (fun z => hn (hs a z))⟩
theorem Dq.trans {S : Nat → Prop} {c c2 : Nat} {h h2 h3 : AH} (f : Dq S c h h2) (g : Dq S c2 h2 h3) : Dq S (c + c2) h h3 := ⟨⟨g.1.1, by rw [g.1.2, f.1.2, Nat.add_assoc]⟩, fun a ha => g.2.1 a (f.2.1 a ha), fun a ha hn => by
  obtain ⟨x1, x2, x3⟩ := f.2.2 a ha hn
  obtain ⟨y1, y2, y3⟩ := g.2.2 a (f.2.1 a ha) hn
  exact ⟨y1.trans x1, y2.trans x2, y3.trans x3⟩⟩
theorem Dq.nwD {S : Nat → Prop} {c : Nat} {h h2 : AH} {b k q : Nat} (f : Dq S c h h2) (n : newC (hN h2) b k q) (hno : ¬ prN (hN h2) b) : Dq S (c + 1) h (nwD h2 b) := by
  refine ⟨⟨adn_ge, ?_⟩, fun a ha => (prN_adn n.1).mpr (Or.inl (f.2.1 a ha)), fun a ha hn => ?_⟩
  · show dl (adn (hN h2) b) = _
    rw [dl_adn, f.1.2, Nat.add_assoc]
  · have hne : a ≠ b := fun e => hno (by rw [← e]; exact f.2.1 a ha)
    obtain ⟨x1, x2, x3⟩ := f.2.2 a ha hn
    obtain ⟨y1, y2, y3⟩ := nwD_old (h := h2) hne
    exact ⟨y1.trans x1, y2.trans x2, y3.trans x3⟩
/-- a change of the cell b: of S, or new -/
theorem Dq.set {S : Nat → Prop} {c b : Nat} {h h2 h3 : AH} (f : Dq S c h h2) (hn : hN h3 = hN h2) (hb : S b ∨ ¬ prN (hN h) b) (e : ∀ a, a ≠ b → hI h3 a = hI h2 a ∧ hL h3 a = hL h2 a ∧ hR h3 a = hR h2 a) : Dq S c h h3 := by
  refine ⟨by rw [hn]; exact f.1, fun a ha => by rw [hn]; exact f.2.1 a ha, fun a ha hs => ?_⟩
  have hne : a ≠ b := fun z => hb.elim (fun y => hs (z ▸ y)) (fun y => y (z ▸ ha))
  obtain ⟨x1, x2, x3⟩ := f.2.2 a ha hs
  obtain ⟨y1, y2, y3⟩ := e a hne
  exact ⟨y1.trans x1, y2.trans x2, y3.trans x3⟩
theorem Dq.sI {S : Nat → Prop} {c b j : Nat} {x : Int32} {h h2 : AH} (f : Dq S c h h2) (hb : S b ∨ ¬ prN (hN h) b) : Dq S c h (sI h2 b j x) := f.set rfl hb (fun a ha => ⟨up2_row ha, rfl, rfl⟩)
theorem Dq.sL {S : Nat → Prop} {c b j : Nat} {x : Int64} {h h2 : AH} (f : Dq S c h h2) (hb : S b ∨ ¬ prN (hN h) b) : Dq S c h (sL h2 b j x) := f.set rfl hb (fun a ha => ⟨rfl, up2_row ha, rfl⟩)
theorem Dq.sR {S : Nat → Prop} {c b j : Nat} {x : Option Nat} {h h2 : AH} (f : Dq S c h h2) (hb : S b ∨ ¬ prN (hN h) b) : Dq S c h (sR h2 b j x) := f.set rfl hb (fun a ha => ⟨rfl, rfl, up2_row ha⟩)
theorem Dq.rI {S : Nat → Prop} {c b : Nat} {g : Nat → Int32} {h h2 : AH} (f : Dq S c h h2) (hb : S b ∨ ¬ prN (hN h) b) : Dq S c h (rI h2 b g) := f.set rfl hb (fun a ha => ⟨upr_row ha, rfl, rfl⟩)
theorem Fw.dq {h h2 : AH} (f : Fw h h2) (hn : 68 ≤ hN h) : Dq (fun a => a < 66) 0 h h2 := ⟨by rw [f.1]; exact ⟨hn, rfl⟩, fun a ha => by rw [f.1]; exact ha, fun a _ hs => f.2 a (Nat.le_of_not_lt hs)⟩
-- texts stand
def noStr (S : Nat → Prop) : Prop := ∀ a, S a → kdA a ≠ some (.inl 7) ∧ ∀ n, kdA a ≠ some (.inr (1, n))
theorem SWv.dq {S : Nat → Prop} {c r v : Nat} {h h2 : AH} {T : List Nat} (w : SWv h r v T) (f : Dq S c h h2) (hr : ¬ S r) (hv : ¬ S v) : SWv h2 r v T := by
  obtain ⟨⟨w1, w2⟩, w3, w4, ⟨w5, w6⟩, w7, w8⟩ := w
  obtain ⟨x1, x2, x3⟩ := f.2.2 r w2 hr
  obtain ⟨y1, y2, y3⟩ := f.2.2 v w6 hv
  exact ⟨⟨w1, f.2.1 r w2⟩, by rw [x1]; exact w3, by rw [x3]; exact w4, ⟨w5, f.2.1 v w6⟩, w7, fun j hj => by rw [y1]; exact w8 j hj⟩
theorem STR.dq {S : Nat → Prop} {c r : Nat} {h h2 : AH} {T : List Nat} (s : STR h r T) (f : Dq S c h h2) (hs : ∀ v, SWv h r v T → ¬ S r ∧ ¬ S v) : STR h2 r T := by
  refine ⟨s.1, s.2.imp id ?_⟩
  rintro ⟨v, w⟩
  exact ⟨v, w.dq f (hs v w).1 (hs v w).2⟩
theorem noStr.off {S : Nat → Prop} (n : noStr S) {h : AH} {r : Nat} {T : List Nat} : ∀ v, SWv h r v T → ¬ S r ∧ ¬ S v := fun v w => ⟨fun z => (n r z).1 w.1.1, fun z => (n v z).2 _ w.2.2.2.1.1⟩
theorem STA.dq {S : Nat → Prop} {c r : Nat} {h h2 : AH} {T : List Nat} (s : STA h r T) (f : Dq S c h h2) (hs : ∀ v, SWv h r v T → ¬ S r ∧ ¬ S v) : STA h2 r T := by
  refine ⟨s.1.dq f hs, s.2.imp ?_ id⟩
  rintro ⟨v, w⟩
  exact ⟨v, w.dq f (hs v w).1 (hs v w).2⟩
-- a StringBuilder's states
theorem SBd_begin {h : AH} {b v k k2 : Nat} (n1 : newC (hN h) b k 8) (n2 : newC (hN (nwD h b)) v k2 (qA 1 16)) (w : wfh h) : SBd (sI (sR (nwD (nwD h b) v) b 0 (some v)) b 1 (nI 0)) b v [] ∧ Dq noS 2 h (sI (sR (nwD (nwD h b) v) b 0 (some v)) b 1 (nI 0)) := by
  have w1 : wfh (nwD h b) := wfh_D w n1 rfl (fun b hb => (nwD_old hb).2.2) (fun j b e => by rw [nwD_row.2.2] at e; cases e)
  have no1 := (n1.no w.1).1
  have no2 := (n2.no w1.1).1
  have hbv : b ≠ v := fun e => no2 (by rw [← e]; exact (prN_adn n1.1).mpr (Or.inr rfl))
  have kb : kdA b = some (.inl 8) := by rw [n1.2.1]; exact kdA_c (by decide)
  have kv : kdA v = some (.inr (1, 16)) := by rw [n2.2.1]; exact kdA_a (by omega) (by omega)
  have pb : prN (hN (nwD (nwD h b) v)) b := (prN_adn n2.1).mpr (Or.inl ((prN_adn n1.1).mpr (Or.inr rfl)))
  have pv : prN (hN (nwD (nwD h b) v)) v := (prN_adn n2.1).mpr (Or.inr rfl)
  have z3 : hI (nwD (nwD h b) v) b = fun _ => 0 := (nwD_old hbv).1.trans nwD_row.1
  refine ⟨⟨⟨kb, pb⟩, by rw [hI_sI]; exact if_pos ⟨rfl, rfl⟩, ?_, ⟨kv, pv⟩, ?_, Nat.zero_le _, fun j hj => absurd hj (Nat.not_lt_zero j)⟩, ?_⟩
  · show hR (sR (nwD (nwD h b) v) b 0 (some v)) b 0 = some v
    rw [hR_sR]; exact if_pos ⟨rfl, rfl⟩
  · rw [hI_sI, if_neg (by omega)]
    show hI (nwD (nwD h b) v) b 3 = nI 0
    rw [z3]; rfl
  · have d1 : Dq noS 1 h (nwD h b) := (Dq.refl n1.1 : Dq noS 0 h h).nwD n1 no1
    have d2 : Dq noS 2 h (nwD (nwD h b) v) := d1.nwD n2 no2
    exact (d2.sR (Or.inr no1)).sI (Or.inr no1)
theorem SBd_app {h : AH} {b v : Nat} {T U : List Nat} (s : SBd h b v T) (hn : T.length + U.length ≤ 16) : SBd (sI (rI h v (fun j => if T.length ≤ j ∧ j < T.length + U.length then nI (U.getD (j - T.length) 0) else hI h v j)) b 3 (nI (T.length + U.length))) b v (T ++ U) := by
  have hbv : b ≠ v := fun e => by have h1 := s.1.1; rw [e, s.2.2.2.1.1] at h1; cases h1
  obtain ⟨⟨s1, s2⟩, s3, s4, ⟨s5, s6⟩, s7, s8, s9⟩ := s
  refine ⟨⟨s1, s2⟩, ?_, s4, ⟨s5, s6⟩, ?_, by rw [List.length_append]; exact hn, fun j hj => ?_⟩
  · rw [hI_sI, if_neg (by omega), hI_rI, if_neg hbv]; exact s3
  · rw [hI_sI, if_pos ⟨rfl, rfl⟩, List.length_append]
  · rw [List.length_append] at hj
    rw [hI_sI, if_neg (fun z => hbv z.1.symm), hI_rI, if_pos rfl]
    have e : (T ++ U).getD j 0 = if j < T.length then T.getD j 0 else U.getD (j - T.length) 0 := by
      simp only [List.getD_eq_getElem?_getD, List.getElem?_append]
      split <;> rfl
    rw [e]
    by_cases q : j < T.length
    · rw [if_neg (by omega), if_pos q, s9 j q]
    · rw [if_pos (by omega), if_neg q]
theorem SBd_appC {h : AH} {b v c : Nat} {T : List Nat} (s : SBd h b v T) (hn : T.length + 1 ≤ 16) : SBd (sI (sI h b 3 (nI (T.length + 1))) v T.length (nI c)) b v (T ++ [c]) := by
  have hbv : b ≠ v := fun e => by have h1 := s.1.1; rw [e, s.2.2.2.1.1] at h1; cases h1
  obtain ⟨⟨s1, s2⟩, s3, s4, ⟨s5, s6⟩, s7, s8, s9⟩ := s
  refine ⟨⟨s1, s2⟩, ?_, s4, ⟨s5, s6⟩, ?_, by rw [List.length_append]; exact hn, fun j hj => ?_⟩
  · rw [hI_sI, if_neg (fun z => hbv z.1), hI_sI, if_neg (by omega)]; exact s3
  · rw [hI_sI, if_neg (fun z => hbv z.1), hI_sI, if_pos ⟨rfl, rfl⟩, List.length_append]; rfl
  · rw [List.length_append] at hj
    rw [hI_sI, List.getD_eq_getElem?_getD, List.getElem?_append]
    by_cases q : j = T.length
    · rw [if_pos ⟨rfl, q⟩, if_neg (by omega), q, Nat.sub_self]; rfl
    · have q2 : j < T.length := by simp at hj; omega
      rw [if_neg (fun z => q z.2), hI_sI, if_neg (fun z => hbv z.1.symm), if_pos q2, s9 j q2, List.getD_eq_getElem?_getD]
theorem SBd_str {h : AH} {b v r c k k2 : Nat} {T : List Nat} (s : SBd h b v T) (n1 : newC (hN h) r k 7) (n2 : newC (hN (nwD h r)) c k2 (qA 1 T.length)) (w : wfh h) (h16 : T.length < 16) : SWv (sR (rI (nwD (sI (nwD h r) r 1 (nI 0)) c) c (va_cpy (hI (nwD (sI (nwD h r) r 1 (nI 0)) c) v) (hI (nwD (sI (nwD h r) r 1 (nI 0)) c) c) 0 0 T.length)) r 0 (some c)) r c T ∧ Dq noS 2 h (sR (rI (nwD (sI (nwD h r) r 1 (nI 0)) c) c (va_cpy (hI (nwD (sI (nwD h r) r 1 (nI 0)) c) v) (hI (nwD (sI (nwD h r) r 1 (nI 0)) c) c) 0 0 T.length)) r 0 (some c)) := by
  have w1 : wfh (nwD h r) := wfh_D w n1 rfl (fun b hb => (nwD_old hb).2.2) (fun j b e => by rw [nwD_row.2.2] at e; cases e)
  have no1 := (n1.no w.1).1
  have no2 := (n2.no w1.1).1
  have hrc : r ≠ c := fun e => no2 (by rw [← e]; exact (prN_adn n1.1).mpr (Or.inr rfl))
  have hvr : v ≠ r := fun e => no1 (by rw [← e]; exact s.2.2.2.1.2)
  have hvc : v ≠ c := fun e => no2 (by rw [← e]; exact (prN_adn n1.1).mpr (Or.inl s.2.2.2.1.2))
  have kr : kdA r = some (.inl 7) := by rw [n1.2.1]; exact kdA_c (by decide)
  have kc : kdA c = some (.inr (1, T.length)) := by rw [n2.2.1]; exact kdA_a (by omega) (by omega)
  have n3 : newC (hN (sI (nwD h r) r 1 (nI 0))) c k2 (qA 1 T.length) := n2
  have pr : prN (hN (nwD (nwD h r) c)) r := (prN_adn n2.1).mpr (Or.inl ((prN_adn n1.1).mpr (Or.inr rfl)))
  have pc : prN (hN (nwD (nwD h r) c)) c := (prN_adn n2.1).mpr (Or.inr rfl)
  refine ⟨⟨⟨kr, pr⟩, ?_, by rw [hR_sR]; exact if_pos ⟨rfl, rfl⟩, ⟨kc, pc⟩, by omega, fun j hj => ?_⟩, ?_⟩
  · show hI (rI (nwD (sI (nwD h r) r 1 (nI 0)) c) c _) r 1 = nI 0
    rw [hI_rI, if_neg hrc, (nwD_old hrc).1, hI_sI]
    exact if_pos ⟨rfl, rfl⟩
  · show hI (rI (nwD (sI (nwD h r) r 1 (nI 0)) c) c _) c j = _
    rw [hI_rI, if_pos rfl]
    unfold va_cpy
    rw [if_pos (by omega), (nwD_old hvc).1, hI_sI, if_neg (fun z => hvr z.1), (nwD_old hvr).1, Nat.zero_add, Nat.sub_zero]
    exact s.2.2.2.2.2.2 j hj
  · have d1 : Dq noS 1 h (nwD h r) := (Dq.refl n1.1 : Dq noS 0 h h).nwD n1 no1
    have no3 : ¬ prN (hN h) c := fun z => no2 ((prN_adn n1.1).mpr (Or.inl z))
    have d2 : Dq noS 1 h (sI (nwD h r) r 1 (nI 0)) := d1.sI (Or.inr no1)
    have d3 : Dq noS 2 h (nwD (sI (nwD h r) r 1 (nI 0)) c) := d2.nwD n3 no2
    exact (d3.rI (Or.inr no3)).sR (Or.inr no1)
-- the class's object over a change of other cells
theorem IM.low {h h2 : AH} {t : ST} (m : IM h t) (hn : 68 ≤ hN h2) (e : ∀ a, a < 66 → hI h2 a = hI h a ∧ hL h2 a = hL h a ∧ hR h2 a = hR h a) : IM h2 t := by
  obtain ⟨⟨c, g, r, ⟨b1, b2⟩, e2, e5, w, ⟨p1, p2⟩, p3⟩, z⟩ := m
  have cb : CB h2 := by
    refine ⟨hn, ?_⟩
    obtain ⟨c0, cs, c7, c13, c17, c16, c22, -⟩ := c.2
    unfold CBr
    rw [(e 0 (by omega)).2.2, (e 7 (by omega)).2.2, (e 13 (by omega)).2.2, (e 17 (by omega)).2.2, (e 16 (by omega)).2.2, (e 22 (by omega)).2.2]
    refine ⟨c0, fun k hk => ?_, c7, c13, c17, c16, c22, trivial⟩
    rw [(e k (by rcases hk with rfl | rfl | ⟨i, hi, rfl⟩ <;> omega)).2.2]
    exact cs k hk
  have row : ∀ a, a < 66 → hI h2 a = hI h a ∧ hL h2 a = hL h a := fun a ha => ⟨(e a ha).1, (e a ha).2.1⟩
  refine ⟨⟨cb, g, r.row (fun a h1 h3 => row a (by omega)), ⟨by rw [(e 0 (by omega)).1]; exact b1, fun j hj => by rw [(e 1 (by omega)).1]; exact b2 j hj⟩, by rw [(e 0 (by omega)).1]; exact e2, by rw [(e 0 (by omega)).1]; exact e5, w, ⟨fun i hi => ⟨(p1 i hi).1, by rw [(e 6 (by omega)).2.2]; exact (p1 i hi).2⟩, p2⟩, fun i hi => (p3 i hi).row (fun a h1 h3 => row a (by have := (p1 i (by have := g.2.2.2.1; omega)).1; omega))⟩, ?_⟩
  exact z.imp (fun y => by rw [(e 0 (by omega)).1]; exact y) (fun y => ⟨by rw [(e 0 (by omega)).1]; exact y.1, y.2.1, y.2.2.row (fun a h1 h3 => row a (by omega))⟩)
theorem IM.dq {S : Nat → Prop} {c : Nat} {h h2 : AH} {t : ST} (m : IM h t) (f : Dq S c h h2) (hs : ∀ a, S a → 66 ≤ a) : IM h2 t :=
  m.low f.1.1 (fun a ha => f.2.2 a (prN_st (by have := m.1.1.1; omega) (by omega)) (fun z => by have := hs a z; omega))
