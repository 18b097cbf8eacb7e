/-! the class LetterCutsModel: copies -/
theorem qcu_tk {s : SH} (g : GS s) {P : Nat → Prop} (hP : ∀ b, P b → b / 8 < sH s ∧ b % 8 < sW s) {a b q : Nat} : qcu (tkS s P a b) q ↔ qcu s q ∧ ¬ P (qcell s q) := by
  have h := gnB_tk g hP (n := a) (m := b) (b := qcell s q)
  constructor
  · rintro ⟨h1, h2, h3⟩
    have h2 : ¬ gnB (tkS s P a b) (qcell s q) := h2
    exact ⟨⟨h1, fun z => h2 (h.mp (Or.inl z)), h3⟩, fun z => h2 (h.mp (Or.inr z))⟩
  · rintro ⟨⟨h1, h2, h3⟩, h4⟩
    exact ⟨h1, fun z => (h.mpr z).elim h2 h4, h3⟩
theorem okr_tk {s : SH} (g : GS s) {P : Nat → Prop} (hP : ∀ b, P b → b / 8 < sH s ∧ b % 8 < sW s) {a b f q i : Nat} : okr (tkS s P a b) f q i ↔ okr s f q i ∧ ¬ P (qcell s (q + i)) := by
  have h := qcu_tk g hP (a := a) (b := b) (q := q + i)
  constructor
  · rintro ⟨h1, h2⟩
    exact ⟨⟨h1, (h.mp h2).1⟩, (h.mp h2).2⟩
  · rintro ⟨⟨h1, h2⟩, h3⟩
    exact ⟨h1, h.mpr ⟨h2, h3⟩⟩
theorem run_tk {s : SH} (g : GS s) {P : Nat → Prop} (hP : ∀ b, P b → b / 8 < sH s ∧ b % 8 < sW s) {a b f q n : Nat} (hn : 1 ≤ n) : n ≤ qrun (tkS s P a b) f q ↔ n ≤ qrun s f q ∧ ∀ b, pcl s q n b → ¬ P b := by
  constructor
  · intro h
    obtain ⟨h1, h2⟩ := qrun_ok h
    refine ⟨qrun_ge (fun j hj => ((okr_tk g hP).mp (h1 j hj)).1) (h2 (by omega)), ?_⟩
    rintro b ⟨j, hj, rfl⟩
    exact ((okr_tk g hP).mp (h1 j hj)).2
  · rintro ⟨h, h3⟩
    obtain ⟨h1, h2⟩ := qrun_ok h
    exact qrun_ge (s := tkS s P a b) (fun j hj => (okr_tk g hP).mpr ⟨h1 j hj, h3 _ ⟨j, hj, rfl⟩⟩) (h2 (by omega))
theorem stOK_tk {s : SH} (g : GS s) {P : Nat → Prop} (hP : ∀ b, P b → b / 8 < sH s ∧ b % 8 < sW s) {a b k q n : Nat} {X : Nat → Prop} : stOK (tkS s P a b) k q n X ↔ stOK s k q n (uX X P) := by
  constructor
  · rintro ⟨h1, h2, h3, h4⟩
    have h5 := (run_tk g hP h1.1).mp h3
    exact ⟨h1, h2, h5.1, fun c hc z => z.elim (h4 c hc) (h5.2 c hc)⟩
  · rintro ⟨h1, h2, h3, h4⟩
    exact ⟨h1, h2, (run_tk g hP h1.1).mpr ⟨h3, fun c hc z => h4 c hc (Or.inr z)⟩, fun c hc z => h4 c hc (Or.inl z)⟩
theorem plV_tk {s : SH} (g : GS s) {P : Nat → Prop} (hP : ∀ b, P b → b / 8 < sH s ∧ b % 8 < sW s) {a b : Nat} : ∀ {l : List (Nat × Nat)} {k : Nat} {X : Nat → Prop}, plV (tkS s P a b) k X l ↔ plV s k (uX X P) l
  | [], _, _ => Iff.rfl
  | (n, q) :: r, k, X => by
    show (stOK (tkS s P a b) k q n X ∧ plV (tkS s P a b) (k + n) (uX X (pcl s q n)) r) ↔ (stOK s k q n (uX X P) ∧ plV s (k + n) (uX (uX X P) (pcl s q n)) r)
    rw [stOK_tk g hP, plV_tk g hP, uX_comm X P]
theorem okP_tk {s : SH} (g : GS s) {P : Nat → Prop} (hP : ∀ b, P b → b / 8 < sH s ∧ b % 8 < sW s) {a b k c n q : Nat} {X : Nat → Prop} : okP (tkS s P a b) k X c n q ↔ okP s k (uX X P) c n q := by
  show (stOK (tkS s P a b) k q n X ∧ ∃ l, plV (tkS s P a b) (k + n) (uX X (pcl s q n)) l ∧ l.length + 1 ≤ c) ↔ (stOK s k q n (uX X P) ∧ ∃ l, plV s (k + n) (uX (uX X P) (pcl s q n)) l ∧ l.length + 1 ≤ c)
  rw [stOK_tk g hP, uX_comm X P]
  exact ⟨fun ⟨h1, l, h2, h3⟩ => ⟨h1, l, (plV_tk g hP).mp h2, h3⟩, fun ⟨h1, l, h2, h3⟩ => ⟨h1, l, (plV_tk g hP).mpr h2, h3⟩⟩
theorem GP_tk {s : SH} (g : GS s) {P : Nat → Prop} (hP : ∀ b, P b → b / 8 < sH s ∧ b % 8 < sW s) {a b : Nat} : ∀ {l : List (Nat × Nat)} {k c : Nat} {X : Nat → Prop}, GP (tkS s P a b) k X c l ↔ GP s k (uX X P) c l
  | [], _, _, _ => Iff.rfl
  | (n, q) :: r, k, c, X => by
    show (isPk (tkS s P a b) k X c n q ∧ GP (tkS s P a b) (k + n) (uX X (pcl s q n)) (c - 1) r) ↔ (isPk s k (uX X P) c n q ∧ GP s (k + n) (uX (uX X P) (pcl s q n)) (c - 1) r)
    rw [GP_tk g hP, uX_comm X P]
    refine and_congr ⟨fun ⟨h1, h2⟩ => ⟨(okP_tk g hP).mp h1, fun n2 q2 h3 => h2 n2 q2 ((okP_tk g hP).mpr h3)⟩, fun ⟨h1, h2⟩ => ⟨(okP_tk g hP).mpr h1, fun n2 q2 h3 => h2 n2 q2 ((okP_tk g hP).mp h3)⟩⟩ Iff.rfl
theorem BP_tk {s : SH} (g : GS s) {P : Nat → Prop} (hP : ∀ b, P b → b / 8 < sH s ∧ b % 8 < sW s) {a b : Nat} {l : List (Nat × Nat)} : BP (tkS s P a b) noA l ↔ BP s P l := by
  have e : uX noA P = P := funext fun c => propext ⟨fun z => z.elim (fun z => z.elim) id, Or.inr⟩
  constructor
  · rintro ⟨c, h1, h2, h3⟩
    rw [← e]
    exact ⟨c, fun l0 h0 => h1 l0 ((plV_tk g hP).mpr h0), (GP_tk g hP).mp h2, h3⟩
  · rintro ⟨c, h1, h2, h3⟩
    rw [← e] at h1 h2
    exact ⟨c, fun l0 h0 => h1 l0 ((plV_tk g hP).mp h0), (GP_tk g hP).mpr h2, h3⟩
theorem le0_no {x : Int32} (h : x ≤ 0) : ¬ 0 < x := fun z => by
  rw [Int32.le_iff_toInt_le] at h
  rw [Int32.lt_iff_toInt_lt] at z
  omega
theorem le0_yes {x : Int32} (h : ¬ x ≤ 0) : 0 < x := by
  rw [Int32.le_iff_toInt_le] at h
  rw [Int32.lt_iff_toInt_lt]
  omega
theorem cpy_no {s : SH} {X : Nat → Prop} (h : ¬ ∃ l, BP s X l ∧ l ≠ []) : ∀ m, cpy s m X = 0
  | 0 => rfl
  | m + 1 => cpy_f h
theorem cnt_full {X : Nat → Prop} {n : Nat} (h : n ≤ cnt X n) {i : Nat} (hi : i < n) : X i := Classical.byContradiction fun z => by
  have h1 := cnt_not (P := X) n
  have h2 := (cnt_ex (P := fun i => ¬ X i) n).mpr ⟨i, hi, z⟩
  omega
set_option maxHeartbeats 1500000 in
set_option maxRecDepth 100000 in
theorem s5_copies {d : Nat} {h : AH} {t : ST} (m : MM h t) : AC mX5_copies (d + 300) 0 0 [.ref 66] h (Qn (.int (nI (nCopies (tC t)))) t h) := by
  have c := m.1
  have g := m.2.1.1
  have r := m.2.2.1
  have hn := c.1
  have gw := g.1
  have gh := g.2.1
  have gl := g.2.2.2.2.2.1
  have gc := cells48 g
  refine AC.of (by decide) rfl (Nat.le_of_ble_eq_true rfl) (fun X => ?_)
  show AW X mX5_copies (d + 300) 0 0 0 [(0, .ref 66)] [] h (Qn (.int (nI (nCopies (tC t)))) t h)
  refine a_aload_n (pc := 0) (i := 0) dX5_copies_0 rfl rfl ?_
  refine a_iconst (pc := 1) (v := nI 0) dX5_copies_1 (by decide) ?_
  refine a_putI (pc := 2) (ci := 5) (k := 0) dX5_copies_2 (lf_RX5_64 rfl) (by decide) (Or.inl rfl) rfl (lt90 hn (shK_lt (show shK 66 = _ from rfl))) rfl ?_
  obtain ⟨H0, hH0⟩ : ∃ Hx, Hx = sI h 66 0 (nI 0) := ⟨_, rfl⟩
  have f0 : Fr [66] h H0 := by rw [hH0]; exact Fr.refl.sI (by simp)
  have k0 : ∀ j, j ≠ 0 → hI H0 66 j = hI h 66 j := fun j hj => by rw [hH0]; exact rd1 (by omega)
  have t0 : hI H0 66 0 = nI 0 := by rw [hH0]; exact rd2 ⟨rfl, rfl⟩
  refine a_heap (h' := H0) hH0.symm ?_
  have m0 : MM H0 t := m.scr f0 (by simp) (k0 2 (by omega)) (k0 7 (by omega)) (k0 12 (by omega))
  have c0 := m0.1
  have r0 := m0.2.2.1
  have hn0 := c0.1
  refine a_iconst (pc := 5) (v := nI 0) dX5_copies_5 (by decide) ?_
  refine a_istore_n (pc := 6) (i := 1) (ls' := [(0, .ref 66), (1, .int (nI 0))]) dX5_copies_6 rfl (by decide) rfl ?_
  refine a_aload_n (pc := 7) (i := 0) dX5_copies_7 rfl rfl ?_
  refine a_getR (pc := 8) (ci := 5) (k := 8) (b := 68) dX5_copies_8 (lf_RX5_17 rfl) (by decide) rfl rfl (lt90 hn0 (shK_lt (show shK 66 = _ from rfl))) c0.2.2.2.2.2.2.2.2.1.2.1 ?_
  refine a_aload_n (pc := 11) (i := 0) dX5_copies_11 rfl rfl ?_
  refine a_getR (pc := 12) (ci := 5) (k := 10) (b := 70) dX5_copies_12 (lf_RX5_23 rfl) (by decide) rfl rfl (lt90 hn0 (shK_lt (show shK 66 = _ from rfl))) c0.2.2.2.2.2.2.2.2.1.2.2.2.1 ?_
  refine a_wS0 (pc := 15) (as := [.ref 68, .ref 70]) dX5_copies_15 (lc_RX5_168 rfl) ceX5_copy (s5_copy (a := 68) (b := 70) hn0 rfl rfl (by decide)) rfl rfl (Nat.le_of_ble_eq_true rfl) (fun H1 f1 q1 => ?_)
  obtain ⟨s, hs⟩ : ∃ s, s = tC t := ⟨_, rfl⟩
  rw [← hs] at g r0 gw gh gl gc
  have LP : ∀ (fu : Nat) (v n a b : Nat) (Z : Nat → Prop) (H : AH), Fr (68 :: 70 :: SLm) H0 H → K24 H0 H → DM H 68 (tkS s Z a b) → (∀ j, j < 186 → hI H 70 j = hI H0 68 j) → (∀ b, Z b → b / 8 < sH s ∧ b % 8 < sW s) → 48 ≤ v + cnt Z 48 → (0 < bestR s → n + cpy s v Z = cpy s 48 noA) → (¬ 0 < bestR s → n = 0 ∧ Z = noA) → v < fu → AW X mX5_copies (d + 300) 0 0 18 [(0, .ref 66), (1, .int (nI n))] [] H (Qn (.int (nI (nCopies (tC t)))) t h) := by
    intro fu
    induction fu with
    | zero => intro v n a b Z H hf hk hd h70 hZ hv hn9 h00 hz; exact absurd hz (Nat.not_lt_zero _)
    | succ fu ih =>
      intro v n a b Z H hf hk hd h70 hZ hv hn9 h00 hz
      have c1 := c0.fr hf
      have hn1 := c1.1
      have gz : GS (tkS s Z a b) := GS_tk g
      refine a_aload_n (pc := 18) (i := 0) dX5_copies_18 rfl rfl ?_
      refine a_xV (pc := 19) (as := []) (b := 66) (ci := 5) dX5_copies_19 (lc_RX5_279 rfl) ceX5_layPlan rfl (lt90 hn1 (shK_lt (show shK 66 = _ from rfl))) (s5_layPlan (d := d + 227) c1 gz hd) rfl rfl (Nat.le_of_ble_eq_true rfl) LPR_n (fun x1 H2 q2 => ?_)
      obtain ⟨ex, ⟨f2, k2⟩, w2, pa2⟩ := q2
      subst ex
      have c2 := c1.fr f2
      have hn2 := c2.1
      have d2 := hd.fr f2 (by simp)
      have hfa : Fr (68 :: 70 :: SLm) H0 H2 := hf.trans (f2.mono (by intro a ha; simp at ha ⊢; omega))
      have ka : K24 H0 H2 := fun j h1 h2 => (k2 j h1 h2).trans (hk j h1 h2)
      have h702 : ∀ j, j < 186 → hI H2 70 j = hI H0 68 j := fun j hj => by rw [(f2.2.2 70 (by simp)).1]; exact h70 j hj
      refine a_if_le (pc := 22) (tgt := 35) dX5_copies_22 (by decide) (fun c22 => ?_) (fun c22 => ?_)
      · skip
        refine a_aload_n (pc := 35) (i := 0) dX5_copies_35 rfl rfl ?_
        refine a_getR (pc := 36) (ci := 5) (k := 10) (b := 70) dX5_copies_36 (lf_RX5_23 rfl) (by decide) rfl rfl (lt90 hn2 (shK_lt (show shK 66 = _ from rfl))) c2.2.2.2.2.2.2.2.2.1.2.2.2.1 ?_
        refine a_aload_n (pc := 39) (i := 0) dX5_copies_39 rfl rfl ?_
        refine a_getR (pc := 40) (ci := 5) (k := 8) (b := 68) dX5_copies_40 (lf_RX5_17 rfl) (by decide) rfl rfl (lt90 hn2 (shK_lt (show shK 66 = _ from rfl))) c2.2.2.2.2.2.2.2.2.1.2.1 ?_
        refine a_wS0 (pc := 43) (as := [.ref 70, .ref 68]) dX5_copies_43 (lc_RX5_168 rfl) ceX5_copy (s5_copy (a := 70) (b := 68) hn2 rfl rfl (by decide)) rfl rfl (Nat.le_of_ble_eq_true rfl) (fun H3 f3 q3 => ?_)
        have hans : n = nCopies s := by
          rcases Classical.em (0 < bestR s) with z | z
          · have h1 := hn9 z
            have h8 := (bestR_pos.mp z).1
            have hno : ¬ ∃ l, BP s Z l ∧ l ≠ [] := fun ⟨l, h2, h3⟩ => le0_no c22 (bestR_pos.mpr ⟨h8, l, (BP_tk g hZ).mpr h2, h3⟩)
            rw [cpy_no hno v] at h1
            rw [show nCopies s = _ from cif_t z]
            omega
          · rw [show nCopies s = _ from cif_f z]
            exact (h00 z).1
        have e66 : hI H3 66 = hI H2 66 := (f3.2.2 66 (by simp)).1
        have fz : Fr (68 :: 70 :: SLm) H0 H3 := hfa.trans (f3.mono (by simp))
        have r3 : DM H3 68 s := DM_cp (h := H0) (a := 68) g r0 (fun j hj => (q3 j hj).trans (h702 j hj))
        have m3 : MM H3 t := by
          have z := m0.cur (s := s) fz (by intro a ha; simp at ha; omega) (by rw [e66]; exact ka 2 (by omega) (by omega)) (by rw [e66]; exact ka 7 (by omega) (by omega)) (by rw [e66]; exact ka 12 (by omega) (by omega)) r3 g
          rw [hs] at z; exact z
        refine a_iload_n (pc := 46) (i := 1) dX5_copies_46 rfl rfl ?_
        exact a_ireturn (pc := 47) dX5_copies_47 rfl rfl (⟨by rw [hans, hs], m3, f0.fm.trans (fz.fm' (by intro a ha; simp at ha; omega))⟩)
      · obtain ⟨h8, l, hbp, hne⟩ := bestR_pos.mp (le0_yes c22)
        have h8 : sLen s ≤ 8 := h8
        have hbs := (BP_tk g hZ).mp hbp
        have pv := BP_V hbs
        have hbr : bestR (tkS s Z a b) = nI l.length := by rcases bestR_c (tkS s Z a b) with ⟨h1, -⟩ | ⟨-, h2, -, -⟩ | ⟨-, l2, h2, -, h4, -⟩; exact absurd h8 (by show ¬ sLen (tkS s Z a b) ≤ 8; omega); exact absurd ⟨l, hbp⟩ h2; rw [h4, BP_eq h2 hbp]
        refine a_aload_n (pc := 25) (i := 0) dX5_copies_25 rfl rfl ?_
        refine a_wV0 (pc := 26) (as := []) (b := 66) (ci := 5) dX5_copies_26 (lc_RX5_293 rfl) ceX5_cutPlan rfl (lt90 hn2 (shK_lt (show shK 66 = _ from rfl))) (s5_cutPlan (d := d + 296) (l := l) c2 g h8 d2 pv (pa2 h8 l hbp) (w2.trans hbr)) rfl rfl (Nat.le_of_ble_eq_true rfl) (fun H3 f3 d3 => ?_)
        have e66 : hI H3 66 = hI H2 66 := (f3.2.2 66 (by simp)).1
        have hZ2 : ∀ b, uX Z (plC s l) b → b / 8 < sH s ∧ b % 8 < sW s := fun b hb => hb.elim (hZ b) (plC_on g pv b)
        have hcell : ∃ b, b < 48 ∧ plC s l b ∧ ¬ Z b := by
          match l, hne, pv with
          | (n2, q2) :: r, _, pv =>
            have h1 : pcl s q2 n2 (qcell s (q2 + 0)) := ⟨0, by have := pv.1.1.1; omega, rfl⟩
            exact ⟨_, pcl_lt g pv.1.1.2 pv.1.2.2.1 h1, Or.inl h1, pv.1.2.2.2 _ h1⟩
        obtain ⟨bc, hb1, hb2, hb3⟩ := hcell
        have hcn : cnt Z 48 + 1 ≤ cnt (uX Z (plC s l)) 48 := cnt_lt (x := bc) hb1 (fun i _ hz => Or.inl hz) hb3 (Or.inr hb2)
        obtain ⟨v2, rfl⟩ : ∃ v2, v = v2 + 1 := ⟨v - 1, by
          rcases Nat.eq_zero_or_pos v with z | z
          · subst z; exact absurd (cnt_full (by omega) hb1) hb3
          · omega⟩
        have hpos : 0 < bestR s := Classical.byContradiction fun z => by
          have z2 := (h00 z).2
          rw [z2] at hbs
          exact z (bestR_pos.mpr ⟨h8, l, hbs, hne⟩)
        refine n_iinc (pc := 29) (k := 1) (ls' := [(0, .ref 66), (1, .int (nI (n + 1)))]) dX5_copies_29 rfl (by decide) (by decide) rfl ?_
        refine a_goto (pc := 32) (tgt := 18) dX5_copies_32 (by decide) ?_
        exact ih v2 (n + 1) _ _ (uX Z (plC s l)) H3 (hfa.trans (f3.mono (by simp))) (fun j h1 h2 => by rw [e66]; exact ka j h1 h2) d3 (fun j hj => by rw [(f3.2.2 70 (by simp)).1]; exact h702 j hj) hZ2 (by omega) (fun z => by
            have h1 := hn9 z
            rw [cpy_t hbs hne] at h1
            omega) (fun z => absurd hpos z) (by omega)
  have d0 : DM H1 68 (tkS s noA 0 0) := DM_tk0 (r0.fr f1 (by simp)) (fun _ z => z)
  exact LP 49 48 0 0 0 noA H1 (f1.mono (by simp)) (fun j _ _ => by rw [(f1.2.2 66 (by simp)).1]) d0 q1 (fun _ z => z.elim) (by omega) (fun _ => Nat.zero_add _) (fun _ => ⟨rfl, rfl⟩) (by omega)
