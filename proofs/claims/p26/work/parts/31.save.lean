/-! the class Planner: canSave, canSaveAt -/
theorem oi_t {z : Int} (h1 : -1000 ≤ z) (h2 : z ≤ 1000) : (Int32.ofInt z).toInt = z := Int32.toInt_ofInt_of_le (by omega) (by omega)
theorem oi_step {z : Int} {n : Nat} (h1 : -900 ≤ z) (h2 : z ≤ 900) (hn : n < 50) : Int32.ofInt z - nI n + nI 1 = Int32.ofInt (z - n + 1) := by
  apply Int32.toInt_inj.mp
  rw [Int32.toInt_add, Int32.toInt_sub, oi_t (by omega) (by omega), nI_toInt (by omega), nI_toInt (by omega), oi_t (by omega) (by omega)]
  unfold Int.bmod
  simp only []
  split <;> split <;> omega
theorem oi_le {z : Int} (h1 : -1000 ≤ z) (h2 : z ≤ 1000) : Int32.ofInt z ≤ 0 ↔ z ≤ 0 := by
  rw [Int32.le_iff_toInt_le, oi_t h1 h2]; exact Iff.rfl
theorem oi_gt {z : Int} (h1 : -1000 ≤ z) (h2 : z ≤ 1000) : 0 < Int32.ofInt z ↔ 0 < z := by
  rw [Int32.lt_iff_toInt_lt, oi_t h1 h2]; exact Iff.rfl
theorem oi_ltn {z : Int} {n : Nat} (h1 : -1000 ≤ z) (h2 : z ≤ 1000) (hn : n < 2 ^ 31) : nI n < Int32.ofInt z ↔ (n : Int) < z := by
  rw [Int32.lt_iff_toInt_lt, oi_t h1 h2, nI_toInt hn]
theorem qrun_len {s : SH} {k q n : Nat} (h : n ≤ qrun s k q) (hn : 0 < n) : k + n ≤ sLen s := by
  have h1 := (qrun_ok h).1 (n - 1) (by omega)
  rcases Nat.lt_or_ge (k + (n - 1)) (sLen s) with z | z
  · omega
  · exact absurd (h1.1.trans (cif_f (by omega))) h1.2.1
theorem qrun_8 {s : SH} (g : GS s) {k q : Nat} : qrun s k q ≤ 8 := by
  have := (runF_le (okr s k q) (sW s - q % 8) 0).2
  have gw := g.1
  show runF _ _ _ ≤ 8
  omega
theorem AA_step {A : Nat → Prop} {k a i : Nat} (h : k ≤ a) : ((A i ∨ (k ≤ i ∧ i < a)) ∨ i = a) ↔ (A i ∨ (k ≤ i ∧ i < a + 1)) := by
  constructor
  · rintro ((z | z) | z)
    · exact Or.inl z
    · exact Or.inr (by omega)
    · exact Or.inr (by omega)
  · rintro (z | z)
    · exact Or.inl (Or.inl z)
    · by_cases e : i = a
      · exact Or.inr e
      · exact Or.inl (Or.inr (by omega))
/-- a strip of two letters and more from letter a on, and the rest saves what it must -/
def AtQ (s : SH) (a : Nat) (A Y : Nat → Prop) (z : Int) (q n : Nat) : Prop := 2 ≤ n ∧ stOK s a q n Y ∧ PZ s (a + n) A (uX Y (pcl s q n)) (z - n + 1)
def At (s : SH) (a : Nat) (A Y : Nat → Prop) (z : Int) : Prop := ∃ q n, AtQ s a A Y z q n
theorem frS_ne {s : SH} (g : GS s) {k q n : Nat} {Y : Nat → Prop} (hq : q < 96) (hn : 0 < n) : mkL (frS s k q n Y) ≠ 0 ↔ (n ≤ qrun s k q ∧ ∀ b, pcl s q n b → ¬ Y b) := by
  constructor
  · intro h
    exact Classical.byContradiction fun z => h (frS_0 z)
  · intro h e
    have hp : pcl s q n (qcell s (q + 0)) := ⟨0, hn, rfl⟩
    exact mkL_eq0.mp e _ (by have := pcl_lt g hq h.1 hp; omega) ⟨h, hp⟩
theorem or_strip {s : SH} {k q n : Nat} {Y : Nat → Prop} (h : n ≤ qrun s k q ∧ ∀ b, pcl s q n b → ¬ Y b) : mkL Y ||| mkL (frS s k q n Y) = mkL (uX Y (pcl s q n)) := by
  rw [frS_1 h, mkL_or]; rfl
theorem PZ_SS {s : SH} (g : GS s) {k : Nat} {A Y : Nat → Prop} {z : Int} (hk : k ≤ sLen s) (ha : ∀ i, A i → i < k) (h : PZ s k A Y z) : SS s (fun i => i < sLen s ∧ (k ≤ i ∨ A i)) Y := by
  obtain ⟨l, h1, -⟩ := h
  exact (PA_SS g ha h1).mono (fun i hi => hi.2.elim (fun y => Or.inl ⟨y, hi.1⟩) Or.inr) (fun b hb => hb)
theorem SS_PZ {s : SH} {k : Nat} {A Y : Nat → Prop} {z : Int} (hk : k ≤ sLen s) (ha : ∀ i, A i → i < k) (h : SS s (fun i => i < sLen s ∧ (k ≤ i ∨ A i)) Y) (hz : z ≤ 0) : PZ s k A Y z := by
  obtain ⟨l, h1, h2⟩ := SS_PA (sLen s - k) (k := k) (A := A) (X := Y) (by omega) ha (h.mono (fun i hi => hi.elim (fun y => ⟨y.2, Or.inl y.1⟩) (fun y => ⟨by have := ha i y; omega, Or.inr y⟩)) (fun b hb => hb))
  exact ⟨l, h1, by omega⟩
theorem PZ_no {s : SH} (g : GS s) {f : Nat → Nat} (hf : MSB s f) {k a : Nat} {A Y : Nat → Prop} {z : Int} (ha : ∀ i, A i → i < k) (h0 : 0 < z) (hno : ∀ b, k ≤ b → b < a → ¬ At s b (fun i => A i ∨ (k ≤ i ∧ i < b)) Y z) (he : sLen s ≤ a ∨ (f a : Int) < z) : ¬ PZ s k A Y z := by
  rintro ⟨l, h1, h2⟩
  obtain ⟨b, q, n, b1, b2, b3, b4⟩ := PA_first g ha h1 h2 h0
  rcases Nat.lt_or_ge b a with y | y
  · exact hno b b1 y ⟨q, n, b2, b3, b4⟩
  · have h3 := b3.2.1
    rcases he with e | e
    · have := b3.1.1; omega
    · have m1 := MSB_PZ hf b4
      have m2 := (hf b (by have := b3.1.1; omega)).2 q n b3.1.2 b2 b3.2.2.1 h3
      have m3 := MSB_mono hf (k := a) (b - a) (by have := b3.1.1; omega)
      rw [show a + (b - a) = b by omega] at m3
      omega
set_option maxHeartbeats 4000000 in
set_option maxRecDepth 100000 in
theorem sp_canSaveAt {d : Nat} {h : AH} {s : SH} {f : Nat → Nat} (c : CB h) (g : GS s) (r : PRf h s f) {a : Nat} {A Y : Nat → Prop} {z : Int} (hal : a < sLen s) (hz : z ≤ 800 ∧ -(10 * (a : Int)) ≤ z) (IH : ∀ {k2 : Nat} {Y2 : Nat → Prop} {z2 : Int} {h2 : AH}, a + 2 ≤ k2 → k2 ≤ sLen s → (z2 ≤ 800 ∧ -(10 * (k2 : Int)) ≤ z2) → CB h2 → PRf h2 s f → AC mX1_canSave (d + 61) 0 0 [.ref 16, .int (nI k2), .int (nI (mkN A 8)), .long (mkL Y2), .int (Int32.ofInt z2)] h2 (Qf [17, 18, 19] (some (.int (bi (PZ s k2 A Y2 z2)))) h2 (fun h2 => True))) : AC mX1_canSaveAt (d + 62) 0 0 [.ref 16, .int (nI a), .int (nI (mkN A 8)), .long (mkL Y), .int (Int32.ofInt z)] h (Qf [17, 18, 19] (some (.int (bi (At s a A Y z)))) h (fun h2 => True)) := by
  have hn := c.1
  have gw := g.1
  have hL8 := r.1.2
  refine AC.of (by decide) rfl (Nat.le_of_ble_eq_true rfl) (fun X => ?_)
  show AW X mX1_canSaveAt (d + 62) 0 0 0 [(0, .ref 16), (1, .int (nI a)), (2, .int (nI (mkN A 8))), (3, .long (mkL Y)), (5, .int (Int32.ofInt z))] [] h (Qf [17, 18, 19] (some (.int (bi (At s a A Y z)))) h (fun h2 => True))
  have ha8 : a < 8 := by omega
  refine a_iload_n (pc := 0) (i := 1) dX1_canSaveAt_0 rfl rfl ?_
  refine n_if_lt (pc := 1) (tgt := 12) dX1_canSaveAt_1 (by decide) (by omega) ?_
  refine a_iload_n (pc := 4) (i := 1) dX1_canSaveAt_4 rfl rfl ?_
  refine a_aload_n (pc := 5) (i := 0) dX1_canSaveAt_5 rfl rfl ?_
  refine a_getI (pc := 6) (ci := 1) (k := 5) dX1_canSaveAt_6 (lf_RX1_58 rfl) (by decide) rfl rfl (lt90 hn (shK_lt (show shK 16 = _ from rfl))) ?_
  refine a_top (show (.int (hI h 16 5) : Value) = .int (nI (sLen s)) from congrArg Value.int r.1.1) ?_
  refine n_icmp_lt (pc := 9) (tgt := 14) dX1_canSaveAt_9 (by decide) (by omega) (by omega) (fun c9 => ?_) (fun c9 => ?_)
  · skip
    have LP : ∀ (fu : Nat) (q : Nat) (H : AH), q ≤ 96 → Fr [17, 18, 19] h H → (∀ q2 n2, q2 < q → ¬ AtQ s a A Y z q2 n2) → 96 - q < fu → AW X mX1_canSaveAt (d + 62) 0 0 17 [(0, .ref 16), (1, .int (nI a)), (2, .int (nI (mkN A 8))), (3, .long (mkL Y)), (5, .int (Int32.ofInt z)), (6, .int (nI q))] [] H (Qf [17, 18, 19] (some (.int (bi (At s a A Y z)))) h (fun h2 => True)) := by
      intro fu
      induction fu with
      | zero => intro q H hq hf hno hz; exact absurd hz (Nat.not_lt_zero _)
      | succ fu ih =>
        intro q H hq hf hno hz
        have ihO := ih
        have hc := c.fr hf
        have hr : PRf H s f := r.fr hf (congrFun (hf.2.2 16 (by simp)).1 5) (fun a h1 h2 => by simp; omega)
        have hn2 := hc.1
        refine a_iload (pc := 17) (i := 6) dX1_canSaveAt_17 rfl ?_
        refine a_bipush (pc := 19) (v := nI 96) dX1_canSaveAt_19 (by decide) ?_
        refine n_icmp_ge (pc := 21) (tgt := 97) dX1_canSaveAt_21 (by decide) (by omega) (by omega) (fun c21 => ?_) (fun c21 => ?_)
        · have e : q = 96 := by omega
          subst e
          refine a_iconst (pc := 97) (v := nI 0) dX1_canSaveAt_97 (by decide) ?_
          exact a_ireturn (pc := 98) dX1_canSaveAt_98 rfl rfl (⟨by rw [bi_f (fun ⟨q2, n2, y⟩ => hno q2 n2 y.2.1.1.2 y)]; rfl, hf, trivial⟩)
        · have hq8 := qrun_8 g (k := a) (q := q)
          have LQ : ∀ (fu : Nat) (n : Nat) (H : AH), n ≤ qrun s a q → Fr [17, 18, 19] h H → (∀ n2, n < n2 → ¬ AtQ s a A Y z q n2) → n < fu → AW X mX1_canSaveAt (d + 62) 0 0 35 [(0, .ref 16), (1, .int (nI a)), (2, .int (nI (mkN A 8))), (3, .long (mkL Y)), (5, .int (Int32.ofInt z)), (6, .int (nI q)), (7, .int (nI n))] [] H (Qf [17, 18, 19] (some (.int (bi (At s a A Y z)))) h (fun h2 => True)) := by
            intro fu
            induction fu with
            | zero => intro n H hnr hf hnn hz; exact absurd hz (Nat.not_lt_zero _)
            | succ fu ih =>
              intro n H hnr hf hnn hz
              have hc := c.fr hf
              have hr : PRf H s f := r.fr hf (congrFun (hf.2.2 16 (by simp)).1 5) (fun a h1 h2 => by simp; omega)
              have hn2 := hc.1
              refine a_iload (pc := 35) (i := 7) dX1_canSaveAt_35 rfl ?_
              refine a_iconst (pc := 37) (v := nI 2) dX1_canSaveAt_37 (by decide) ?_
              refine n_icmp_lt (pc := 38) (tgt := 91) dX1_canSaveAt_38 (by decide) (by omega) (by omega) (fun c38 => ?_) (fun c38 => ?_)
              · skip
                refine n_iinc (pc := 91) (k := 1) (ls' := [(0, .ref 16), (1, .int (nI a)), (2, .int (nI (mkN A 8))), (3, .long (mkL Y)), (5, .int (Int32.ofInt z)), (6, .int (nI (q + 1))), (7, .int (nI n))]) dX1_canSaveAt_91 rfl (by decide) (by decide) rfl ?_
                refine a_goto (pc := 94) (tgt := 17) dX1_canSaveAt_94 (by decide) ?_
                refine a_drop (ls' := [(0, .ref 16), (1, .int (nI a)), (2, .int (nI (mkN A 8))), (3, .long (mkL Y)), (5, .int (Int32.ofInt z)), (6, .int (nI (q + 1)))]) (by simp) ?_
                exact ihO (q + 1) H (by omega) hf (fun q2 n2 h2 y => by
      rcases Nat.lt_or_ge q2 q with w | w
      · exact hno q2 n2 w y
      · have e : q2 = q := by omega
        subst e
        exact hnn n2 (by have := y.1; omega) y) (by omega)
              · skip
                refine a_aload_n (pc := 41) (i := 0) dX1_canSaveAt_41 rfl rfl ?_
                refine a_iload_n (pc := 42) (i := 1) dX1_canSaveAt_42 rfl rfl ?_
                refine a_iload (pc := 43) (i := 6) dX1_canSaveAt_43 rfl ?_
                refine a_iload (pc := 45) (i := 7) dX1_canSaveAt_45 rfl ?_
                refine a_lload_n (pc := 47) (i := 3) dX1_canSaveAt_47 rfl rfl ?_
                refine a_vV1 (pc := 48) (as := [.int (nI a), .int (nI q), .int (nI n), .long (mkL Y)]) (b := 16) (ci := 1) (v := .long (mkL (frS s a q n Y))) (h' := H) dX1_canSaveAt_48 (lc_RX1_98 rfl) ceX1_freeStrip rfl (lt90 hn2 (shK_lt (show shK 16 = _ from rfl))) (sp_freeStrip hc g hr c9 c21 (by omega) (by omega)) rfl rfl (Nat.le_of_ble_eq_true rfl) rfl ?_
                refine a_lstore (pc := 51) (i := 8) (ls' := [(0, .ref 16), (1, .int (nI a)), (2, .int (nI (mkN A 8))), (3, .long (mkL Y)), (5, .int (Int32.ofInt z)), (6, .int (nI q)), (7, .int (nI n)), (8, .long (mkL (frS s a q n Y)))]) dX1_canSaveAt_51 (by decide) rfl ?_
                refine a_lload (pc := 53) (i := 8) dX1_canSaveAt_53 rfl ?_
                refine a_lconst (pc := 55) (v := 0) dX1_canSaveAt_55 (by decide) ?_
                refine a_lcmp (pc := 56) dX1_canSaveAt_56 ?_
                refine a_if_eq (pc := 57) (tgt := 85) dX1_canSaveAt_57 (by decide) (fun c57 => ?_) (fun c57 => ?_)
                · have hz0 := (lg_cmp_eq _ _).mp c57
                  refine n_idec (pc := 85) (ls' := [(0, .ref 16), (1, .int (nI a)), (2, .int (nI (mkN A 8))), (3, .long (mkL Y)), (5, .int (Int32.ofInt z)), (6, .int (nI q)), (7, .int (nI (n - 1))), (8, .long (mkL (frS s a q n Y)))]) dX1_canSaveAt_85 rfl (by omega) (by decide) rfl ?_
                  refine a_goto (pc := 88) (tgt := 35) dX1_canSaveAt_88 (by decide) ?_
                  refine a_drop (ls' := [(0, .ref 16), (1, .int (nI a)), (2, .int (nI (mkN A 8))), (3, .long (mkL Y)), (5, .int (Int32.ofInt z)), (6, .int (nI q)), (7, .int (nI (n - 1)))]) (by simp) ?_
                  exact ih (n - 1) H (by omega) hf (fun n2 h2 y => by
      rcases Nat.lt_or_ge n n2 with w | w
      · exact hnn n2 w y
      · have e : n2 = n := by omega
        subst e
        exact (frS_ne g c21 (by omega)).mpr ⟨y.2.1.2.2.1, y.2.1.2.2.2⟩ hz0) (by omega)
                · have hfr := (frS_ne g c21 (by omega)).mp (fun y => c57 ((lg_cmp_eq _ _).mpr y))
                  have hal := qrun_len hfr.1 (by omega)
                  have hst : stOK s a q n Y := ⟨⟨by omega, c21⟩, hal, hfr⟩
                  refine a_aload_n (pc := 60) (i := 0) dX1_canSaveAt_60 rfl rfl ?_
                  refine a_iload_n (pc := 61) (i := 1) dX1_canSaveAt_61 rfl rfl ?_
                  refine a_iload (pc := 62) (i := 7) dX1_canSaveAt_62 rfl ?_
                  refine n_iadd (pc := 64) dX1_canSaveAt_64 ?_
                  refine a_iload_n (pc := 65) (i := 2) dX1_canSaveAt_65 rfl rfl ?_
                  refine a_lload_n (pc := 66) (i := 3) dX1_canSaveAt_66 rfl rfl ?_
                  refine a_lload (pc := 67) (i := 8) dX1_canSaveAt_67 rfl ?_
                  refine a_lor (pc := 69) dX1_canSaveAt_69 ?_
                  refine a_top (show (.long ((mkL Y) ||| (mkL (frS s a q n Y))) : Value) = .long (mkL (uX Y (pcl s q n))) from congrArg Value.long (or_strip hfr)) ?_
                  refine a_iload (pc := 70) (i := 5) dX1_canSaveAt_70 rfl ?_
                  refine a_iload (pc := 72) (i := 7) dX1_canSaveAt_72 rfl ?_
                  refine a_isub (pc := 74) dX1_canSaveAt_74 ?_
                  refine a_iconst (pc := 75) (v := nI 1) dX1_canSaveAt_75 (by decide) ?_
                  refine a_iadd (pc := 76) dX1_canSaveAt_76 ?_
                  refine a_top (show (.int (((Int32.ofInt z) - (nI n)) + (nI 1)) : Value) = .int (Int32.ofInt (z - n + 1)) from congrArg Value.int (oi_step (by omega) (by omega) (by omega))) ?_
                  refine a_wV1 (pc := 77) (as := [.int (nI (a + n)), .int (nI (mkN A 8)), .long (mkL (uX Y (pcl s q n))), .int (Int32.ofInt (z - n + 1))]) (b := 16) (ci := 1) (v := .int (bi (PZ s (a + n) A (uX Y (pcl s q n)) (z - n + 1)))) dX1_canSaveAt_77 (lc_RX1_90 rfl) ceX1_canSave rfl (lt90 hn2 (shK_lt (show shK 16 = _ from rfl))) (IH (by omega) hal (by omega) hc hr) rfl rfl (Nat.le_of_ble_eq_true rfl) (fun H2 f2 r2 => ?_)
                  have f3 := hf.trans f2
                  refine b_if_eq (pc := 80) (tgt := 85) dX1_canSaveAt_80 (by decide) (fun c80 => ?_) (fun c80 => ?_)
                  · skip
                    refine n_idec (pc := 85) (ls' := [(0, .ref 16), (1, .int (nI a)), (2, .int (nI (mkN A 8))), (3, .long (mkL Y)), (5, .int (Int32.ofInt z)), (6, .int (nI q)), (7, .int (nI (n - 1))), (8, .long (mkL (frS s a q n Y)))]) dX1_canSaveAt_85 rfl (by omega) (by decide) rfl ?_
                    refine a_goto (pc := 88) (tgt := 35) dX1_canSaveAt_88 (by decide) ?_
                    refine a_drop (ls' := [(0, .ref 16), (1, .int (nI a)), (2, .int (nI (mkN A 8))), (3, .long (mkL Y)), (5, .int (Int32.ofInt z)), (6, .int (nI q)), (7, .int (nI (n - 1)))]) (by simp) ?_
                    exact ih (n - 1) H2 (by omega) f3 (fun n2 h2 y => by
      rcases Nat.lt_or_ge n n2 with w | w
      · exact hnn n2 w y
      · have e : n2 = n := by omega
        subst e
        exact c80 y.2.2) (by omega)
                  · skip
                    refine a_iconst (pc := 83) (v := nI 1) dX1_canSaveAt_83 (by decide) ?_
                    exact a_ireturn (pc := 84) dX1_canSaveAt_84 rfl rfl (⟨by rw [bi_t ⟨q, n, c38, hst, c80⟩]; rfl, f3, trivial⟩)
          refine a_aload_n (pc := 24) (i := 0) dX1_canSaveAt_24 rfl rfl ?_
          refine a_getR (pc := 25) (ci := 1) (k := 3) (b := 22) dX1_canSaveAt_25 (lf_RX1_27 rfl) (by decide) rfl rfl (lt90 hn2 (shK_lt (show shK 16 = _ from rfl))) hc.2.2.2.2.2.2.1.2.2.2.1 ?_
          refine a_iload_n (pc := 28) (i := 1) dX1_canSaveAt_28 rfl rfl ?_
          refine a_rald (pc := 29) (j := a) (b := (23 + a)) dX1_canSaveAt_29 rfl (lt90 hn2 (shK_lt (show shK 22 = _ from rfl))) rfl (by omega) (hc.2.2.2.2.2.2.2.1 a ha8) ?_
          refine a_iload (pc := 30) (i := 6) dX1_canSaveAt_30 rfl ?_
          refine a_iald (pc := 32) (j := q) dX1_canSaveAt_32 (shRow ha8) (lt90 hn2 (shK_lt (shRow ha8))) rfl (by omega) ?_
          refine a_top (show (.int (hI H (23 + a) q) : Value) = .int (nI (qrun s a q)) from congrArg Value.int (hr.2.2.2.1 a q c9 c21)) ?_
          refine a_istore (pc := 33) (i := 7) (ls' := [(0, .ref 16), (1, .int (nI a)), (2, .int (nI (mkN A 8))), (3, .long (mkL Y)), (5, .int (Int32.ofInt z)), (6, .int (nI q)), (7, .int (nI (qrun s a q)))]) dX1_canSaveAt_33 (by decide) rfl ?_
          exact LQ (qrun s a q + 1) (qrun s a q) H (Nat.le_refl _) hf (fun n2 h2 y => absurd y.2.1.2.2.1 (by omega)) (by omega)
    refine a_iconst (pc := 14) (v := nI 0) dX1_canSaveAt_14 (by decide) ?_
    refine a_istore (pc := 15) (i := 6) (ls' := [(0, .ref 16), (1, .int (nI a)), (2, .int (nI (mkN A 8))), (3, .long (mkL Y)), (5, .int (Int32.ofInt z)), (6, .int (nI 0))]) dX1_canSaveAt_15 (by decide) rfl ?_
    exact LP 97 0 h (by omega) Fr.refl (fun q2 n2 h2 => absurd h2 (Nat.not_lt_zero _)) (by omega)
  · exact absurd c9 (by omega)
set_option maxHeartbeats 4000000 in
set_option maxRecDepth 100000 in
theorem canSave_body {d : Nat} {h : AH} {s : SH} {f : Nat → Nat} (c : CB h) (g : GS s) (r : PRf h s f) {k : Nat} {A Y : Nat → Prop} {z : Int} (hk : k ≤ sLen s) (ha : ∀ i, A i → i < k) (hz : z ≤ 800 ∧ -(10 * (k : Int)) ≤ z) (HA : ∀ {a : Nat} {B : Nat → Prop} {h2 : AH}, k ≤ a → a < sLen s → (∀ i, B i → i < a) → CB h2 → PRf h2 s f → AC mX1_canSaveAt (d + 60) 0 0 [.ref 16, .int (nI a), .int (nI (mkN B 8)), .long (mkL Y), .int (Int32.ofInt z)] h2 (Qf [17, 18, 19] (some (.int (bi (At s a B Y z)))) h2 (fun h2 => True))) : AC mX1_canSave (d + 61) 0 0 [.ref 16, .int (nI k), .int (nI (mkN A 8)), .long (mkL Y), .int (Int32.ofInt z)] h (Qf [17, 18, 19] (some (.int (bi (PZ s k A Y z)))) h (fun h2 => True)) := by
  have hn := c.1
  have gw := g.1
  have hL8 := r.1.2
  refine AC.of (by decide) rfl (Nat.le_of_ble_eq_true rfl) (fun X => ?_)
  show AW X mX1_canSave (d + 61) 0 0 0 [(0, .ref 16), (1, .int (nI k)), (2, .int (nI (mkN A 8))), (3, .long (mkL Y)), (5, .int (Int32.ofInt z))] [] h (Qf [17, 18, 19] (some (.int (bi (PZ s k A Y z)))) h (fun h2 => True))
  refine a_aload_n (pc := 0) (i := 0) dX1_canSave_0 rfl rfl ?_
  refine a_iload_n (pc := 1) (i := 1) dX1_canSave_1 rfl rfl ?_
  refine a_iload_n (pc := 2) (i := 2) dX1_canSave_2 rfl rfl ?_
  refine a_lload_n (pc := 3) (i := 3) dX1_canSave_3 rfl rfl ?_
  refine a_wV1 (pc := 4) (as := [.int (nI k), .int (nI (mkN A 8)), .long (mkL Y)]) (b := 16) (ci := 1) (v := .int (bi (SS s (fun i => i < sLen s ∧ (k ≤ i ∨ A i)) Y))) dX1_canSave_4 (lc_RX1_86 rfl) ceX1_canSpell rfl (lt90 hn (shK_lt (show shK 16 = _ from rfl))) (sp_canSpell c g r hk) rfl rfl (Nat.le_of_ble_eq_true rfl) (fun h1 f1 r1 => ?_)
  have c1 := c.fr f1
  have p1 : PRf h1 s f := r.fr f1 (congrFun (f1.2.2 16 (by simp)).1 5) (fun a h1 h2 => by simp; omega)
  have hn1 := c1.1
  refine b_if_ne (pc := 7) (tgt := 12) dX1_canSave_7 (by decide) (fun c7 => ?_) (fun c7 => ?_)
  · skip
    have LP : ∀ (fu : Nat) (a : Nat) (H : AH), k ≤ a ∧ a ≤ sLen s → Fr [17, 18, 19] h H → (∀ b, k ≤ b → b < a → ¬ At s b (fun i => A i ∨ (k ≤ i ∧ i < b)) Y z) → sLen s - a < fu → AW X mX1_canSave (d + 61) 0 0 18 [(0, .ref 16), (1, .int (nI k)), (2, .int (nI (mkN A 8))), (3, .long (mkL Y)), (5, .int (Int32.ofInt z)), (6, .int (nI (mkN (fun i => A i ∨ (k ≤ i ∧ i < a)) 8))), (7, .int (nI a))] [] H (Qf [17, 18, 19] (some (.int (bi (PZ s k A Y z)))) h (fun h2 => True)) := by
      intro fu
      induction fu with
      | zero => intro a H hka hf hno hz; exact absurd hz (Nat.not_lt_zero _)
      | succ fu ih =>
        intro a H hka hf hno hz
        have hc := c.fr hf
        have hr : PRf H s f := r.fr hf (congrFun (hf.2.2 16 (by simp)).1 5) (fun a h1 h2 => by simp; omega)
        have hn2 := hc.1
        have hfa := hr.2.2.2.2.2.2 a
        refine a_iload (pc := 18) (i := 5) dX1_canSave_18 rfl ?_
        refine a_if_le (pc := 20) (tgt := 75) dX1_canSave_20 (by decide) (fun c20 => ?_) (fun c20 => ?_)
        · have hz0 := (oi_le (by omega) (by omega)).mp c20
          refine a_iload (pc := 75) (i := 5) dX1_canSave_75 rfl ?_
          refine a_if_gt (pc := 77) (tgt := 84) dX1_canSave_77 (by decide) (fun c77 => ?_) (fun c77 => ?_)
          · exact absurd ((oi_gt (by omega) (by omega)).mp c77) (by omega)
          · skip
            refine a_iconst (pc := 80) (v := nI 1) dX1_canSave_80 (by decide) ?_
            refine a_goto (pc := 81) (tgt := 85) dX1_canSave_81 (by decide) ?_
            exact a_ireturn (pc := 85) dX1_canSave_85 rfl rfl (⟨by rw [bi_t (SS_PZ hk ha c7 hz0)]; rfl, hf, trivial⟩)
        · have h0z : 0 < z := Int.lt_of_not_ge (fun y => c20 ((oi_le (by omega) (by omega)).mpr y))
          refine a_iload (pc := 23) (i := 7) dX1_canSave_23 rfl ?_
          refine a_aload_n (pc := 25) (i := 0) dX1_canSave_25 rfl rfl ?_
          refine a_getI (pc := 26) (ci := 1) (k := 5) dX1_canSave_26 (lf_RX1_58 rfl) (by decide) rfl rfl (lt90 hn2 (shK_lt (show shK 16 = _ from rfl))) ?_
          refine a_top (show (.int (hI H 16 5) : Value) = .int (nI (sLen s)) from congrArg Value.int hr.1.1) ?_
          refine n_icmp_ge (pc := 29) (tgt := 75) dX1_canSave_29 (by decide) (by omega) (by omega) (fun c29 => ?_) (fun c29 => ?_)
          · skip
            have hzno : ¬ PZ s k A Y z := PZ_no g r.2.2.2.2.2.1 ha h0z hno (Or.inl c29)
            refine a_iload (pc := 75) (i := 5) dX1_canSave_75 rfl ?_
            refine a_if_gt (pc := 77) (tgt := 84) dX1_canSave_77 (by decide) (fun c77 => ?_) (fun c77 => ?_)
            · skip
              refine a_iconst (pc := 84) (v := nI 0) dX1_canSave_84 (by decide) ?_
              exact a_ireturn (pc := 85) dX1_canSave_85 rfl rfl (⟨by rw [bi_f hzno]; rfl, hf, trivial⟩)
            · exact absurd ((oi_gt (by omega) (by omega)).mpr h0z) c77
          · skip
            refine a_aload_n (pc := 32) (i := 0) dX1_canSave_32 rfl rfl ?_
            refine a_getR (pc := 33) (ci := 1) (k := 4) (b := 31) dX1_canSave_33 (lf_RX1_30 rfl) (by decide) rfl rfl (lt90 hn2 (shK_lt (show shK 16 = _ from rfl))) hc.2.2.2.2.2.2.1.2.2.2.2.1 ?_
            refine a_iload (pc := 36) (i := 7) dX1_canSave_36 rfl ?_
            refine a_iald (pc := 38) (j := a) dX1_canSave_38 rfl (lt90 hn2 (shK_lt (show shK 31 = _ from rfl))) rfl (by omega) ?_
            refine a_top (show (.int (hI H 31 a) : Value) = .int (nI (f a)) from congrArg Value.int (hr.2.2.2.2.1 a (by omega))) ?_
            refine a_iload (pc := 39) (i := 5) dX1_canSave_39 rfl ?_
            refine a_icmp_lt (pc := 41) (tgt := 75) dX1_canSave_41 (by decide) (fun c41 => ?_) (fun c41 => ?_)
            · skip
              have hzno : ¬ PZ s k A Y z := PZ_no g r.2.2.2.2.2.1 ha h0z hno (Or.inr ((oi_ltn (by omega) (by omega) (by omega)).mp c41))
              refine a_iload (pc := 75) (i := 5) dX1_canSave_75 rfl ?_
              refine a_if_gt (pc := 77) (tgt := 84) dX1_canSave_77 (by decide) (fun c77 => ?_) (fun c77 => ?_)
              · skip
                refine a_iconst (pc := 84) (v := nI 0) dX1_canSave_84 (by decide) ?_
                exact a_ireturn (pc := 85) dX1_canSave_85 rfl rfl (⟨by rw [bi_f hzno]; rfl, hf, trivial⟩)
              · exact absurd ((oi_gt (by omega) (by omega)).mpr h0z) c77
            · skip
              refine a_aload_n (pc := 44) (i := 0) dX1_canSave_44 rfl rfl ?_
              refine a_iload (pc := 45) (i := 7) dX1_canSave_45 rfl ?_
              refine a_iload (pc := 47) (i := 6) dX1_canSave_47 rfl ?_
              refine a_lload_n (pc := 49) (i := 3) dX1_canSave_49 rfl rfl ?_
              refine a_iload (pc := 50) (i := 5) dX1_canSave_50 rfl ?_
              refine a_wV1 (pc := 52) (as := [.int (nI a), .int (nI (mkN (fun i => A i ∨ (k ≤ i ∧ i < a)) 8)), .long (mkL Y), .int (Int32.ofInt z)]) (b := 16) (ci := 1) (v := .int (bi (At s a (fun i => A i ∨ (k ≤ i ∧ i < a)) Y z))) dX1_canSave_52 (lc_RX1_102 rfl) ceX1_canSaveAt rfl (lt90 hn2 (shK_lt (show shK 16 = _ from rfl))) (HA (a := a) (B := (fun i => A i ∨ (k ≤ i ∧ i < a))) (h2 := H) hka.1 c29 (fun i hi => by rcases hi with y | y; have := ha i y; omega; omega) hc hr) rfl rfl (Nat.le_of_ble_eq_true rfl) (fun H2 f2 r2 => ?_)
              have f3 := hf.trans f2
              refine b_if_eq (pc := 55) (tgt := 60) dX1_canSave_55 (by decide) (fun c55 => ?_) (fun c55 => ?_)
              · skip
                refine a_iload (pc := 60) (i := 6) dX1_canSave_60 rfl ?_
                refine a_iconst (pc := 62) (v := nI 1) dX1_canSave_62 (by decide) ?_
                refine a_iload (pc := 63) (i := 7) dX1_canSave_63 rfl ?_
                refine a_ishl (pc := 65) dX1_canSave_65 ?_
                refine a_ior (pc := 66) dX1_canSave_66 ?_
                refine a_top (show (.int ((nI (mkN (fun i => A i ∨ (k ≤ i ∧ i < a)) 8)) ||| ((nI 1) <<< ((nI a) &&& 31))) : Value) = .int (nI (mkN (fun i => A i ∨ (k ≤ i ∧ i < a + 1)) 8)) from congrArg Value.int ((msk_or (by omega)).trans (congrArg nI (mkN_c 8 (fun i hi => AA_step hka.1))))) ?_
                refine a_istore (pc := 67) (i := 6) (ls' := [(0, .ref 16), (1, .int (nI k)), (2, .int (nI (mkN A 8))), (3, .long (mkL Y)), (5, .int (Int32.ofInt z)), (6, .int (nI (mkN (fun i => A i ∨ (k ≤ i ∧ i < a + 1)) 8))), (7, .int (nI a))]) dX1_canSave_67 (by decide) rfl ?_
                refine n_iinc (pc := 69) (k := 1) (ls' := [(0, .ref 16), (1, .int (nI k)), (2, .int (nI (mkN A 8))), (3, .long (mkL Y)), (5, .int (Int32.ofInt z)), (6, .int (nI (mkN (fun i => A i ∨ (k ≤ i ∧ i < a + 1)) 8))), (7, .int (nI (a + 1)))]) dX1_canSave_69 rfl (by decide) (by decide) rfl ?_
                refine a_goto (pc := 72) (tgt := 18) dX1_canSave_72 (by decide) ?_
                exact ih (a + 1) H2 (by omega) f3 (fun b h1 h2 => by
      rcases Nat.lt_or_ge b a with w | w
      · exact hno b h1 w
      · have e : b = a := by omega
        subst e
        exact c55) (by omega)
              · skip
                refine a_iconst (pc := 58) (v := nI 1) dX1_canSave_58 (by decide) ?_
                exact a_ireturn (pc := 59) dX1_canSave_59 rfl rfl (⟨by rw [bi_t (by obtain ⟨q, n, y1, y2, y3⟩ := c55; exact PZ_of (a - k) (by omega) ha y2 y3)]; rfl, f3, trivial⟩)
    refine a_iload_n (pc := 12) (i := 2) dX1_canSave_12 rfl rfl ?_
    refine a_istore (pc := 13) (i := 6) (ls' := [(0, .ref 16), (1, .int (nI k)), (2, .int (nI (mkN A 8))), (3, .long (mkL Y)), (5, .int (Int32.ofInt z)), (6, .int (nI (mkN A 8)))]) dX1_canSave_13 (by decide) rfl ?_
    refine a_iload_n (pc := 15) (i := 1) dX1_canSave_15 rfl rfl ?_
    refine a_istore (pc := 16) (i := 7) (ls' := [(0, .ref 16), (1, .int (nI k)), (2, .int (nI (mkN A 8))), (3, .long (mkL Y)), (5, .int (Int32.ofInt z)), (6, .int (nI (mkN A 8))), (7, .int (nI k))]) dX1_canSave_16 (by decide) rfl ?_
    refine a_locs (ls' := [(0, .ref 16), (1, .int (nI k)), (2, .int (nI (mkN A 8))), (3, .long (mkL Y)), (5, .int (Int32.ofInt z)), (6, .int (nI (mkN (fun i => A i ∨ (k ≤ i ∧ i < k)) 8))), (7, .int (nI k))]) (by rw [mkN_c (A := A) (B := (fun i => A i ∨ (k ≤ i ∧ i < k))) 8 (fun i hi => ⟨Or.inl, fun y => y.elim id (fun y => absurd y (by omega))⟩)]) ?_
    exact LP (sLen s - k + 1) k h1 ⟨Nat.le_refl _, hk⟩ f1 (fun b h1 h2 => absurd h1 (by omega)) (by omega)
  · skip
    refine a_iconst (pc := 10) (v := nI 0) dX1_canSave_10 (by decide) ?_
    exact a_ireturn (pc := 11) dX1_canSave_11 rfl rfl (⟨by rw [bi_f (fun y => c7 (PZ_SS g hk ha y))]; rfl, f1, trivial⟩)
theorem sp_canSave {d : Nat} {s : SH} {f : Nat → Nat} (g : GS s) : ∀ (m : Nat) {h : AH} {k : Nat} {A Y : Nat → Prop} {z : Int}, CB h → PRf h s f → sLen s ≤ k + m → k ≤ sLen s → (∀ i, A i → i < k) → (z ≤ 800 ∧ -(10 * (k : Int)) ≤ z) → AC mX1_canSave (d + 2 * m + 61) 0 0 [.ref 16, .int (nI k), .int (nI (mkN A 8)), .long (mkL Y), .int (Int32.ofInt z)] h (Qf [17, 18, 19] (some (.int (bi (PZ s k A Y z)))) h (fun h2 => True))
  | 0, h, k, A, Y, z, c, r, hm, hk, ha, hz => canSave_body (d := d) c g r hk ha hz (fun h1 h2 => absurd h2 (by omega))
  | m + 1, h, k, A, Y, z, c, r, hm, hk, ha, hz => canSave_body (d := d + 2 * m + 2) c g r hk ha hz (fun {a B h2} h1 h3 hB hc hr => sp_canSaveAt (d := d + 2 * m) hc g hr h3 ⟨hz.1, by omega⟩ (fun q1 q2 q3 q4 q5 => sp_canSave g m q4 q5 (by omega) q2 (fun i hi => by have := hB i hi; omega) q3))
