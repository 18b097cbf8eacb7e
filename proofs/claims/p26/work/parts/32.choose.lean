/-! the class Planner: chooseCut -/
/-- ends with a number n, and R n -/
def Qi (R : Nat → AH → Prop) : Res → AH → Prop := fun r h2 => ∃ n : Nat, r = .inl (some (.int (nI n))) ∧ R n h2
theorem Qi_nt {R : Nat → AH → Prop} : ∀ E h2, ¬ Qi R (.inr E) h2 := fun _ _ q => by obtain ⟨b, e, -⟩ := q; cases e
theorem ki_of {X : XT} {mt : MT} {d kc ks pc : Nat} {ls : List (Nat × Value)} {st : List Value} {Q : Res → AH → Prop} {R : Nat → AH → Prop} (kk : ∀ b h2, R b h2 → AW X mt d kc ks pc ls (.int (nI b) :: st) h2 Q) : ∀ v2 h2, Qi R (.inl v2) h2 → AW X mt d kc ks pc ls (v2.toList ++ st) h2 Q := by
  intro v2 h2 q
  obtain ⟨b, e1, e2⟩ := q
  cases e1
  exact kk b h2 e2
theorem hoki_of {R : Nat → AH → Prop} {h : AH} {P : Prop} (hR : ∀ b h2, R b h2 → hN h2 = hN h) : (∀ v2 h2, Qi R (.inl v2) h2 → hN h2 = hN h) ∨ P := Or.inl fun v2 h2 q => by obtain ⟨b, -, q2⟩ := q; exact hR b h2 q2
section RW32
variable {X : XT} {mt : MT} {d kc ks pc : Nat} {ls ls' : List (Nat × Value)} {st : List Value} {h : AH} {Q : Res → AH → Prop}
theorem a_zV {mt' : MT} {idx n b ci : Nat} {as stk : List Value} {R : Nat → AH → Prop} (hd : decode (mB mt) pc = .ok (.invokevirtual idx, 3)) (hl : Cond.methodLink (mN mt).cls idx (mN mt') ∈ lw_tb2 ∧ Cond.instanceMethod (mN mt') ∈ lw_tb2 ∧ Cond.selects (cR ci) (mN mt') (mN mt') ∈ lw_tb2) (hce : CE mt' n) (hs : shK b = some (.inl ci)) (hb : b < hN h) (hc' : AC mt' d 0 0 (.ref b :: as) h (Qi R)) (hn : as.length = n) (hstk : stk = as.reverse ++ .ref b :: st) (hst : (st.map fun v => v.category).sum ≤ 8) (hR : ∀ b h2, R b h2 → hN h2 = hN h) (kk : ∀ b h2, R b h2 → AW X mt (d + 1) kc ks (pc + 3) ls (.int (nI b) :: st) h2 Q) : AW X mt (d + 1) kc ks pc ls stk h Q :=
  a_callV (mc := 0) (ms := 0) hd hl hce hs hb hc' hn hstk hst Qi_nt (hoki_of hR) (ki_of kk)
theorem a_zVN {mt' : MT} {host : String} {idx n b ci : Nat} {as stk : List Value} {R : Nat → AH → Prop} (hd : decode (mB mt) pc = .ok (.invokevirtual idx, 3)) (hl : Cond.methodLinkNest (mN mt).cls idx (mN mt') host ∈ tables_1 ∧ Cond.instanceMethod (mN mt') ∈ lw_tb2 ∧ Cond.selects (cR ci) (mN mt') (mN mt') ∈ lw_tb2) (hce : CE mt' n) (hs : shK b = some (.inl ci)) (hb : b < hN h) (hc' : AC mt' d 0 0 (.ref b :: as) h (Qi R)) (hn : as.length = n) (hstk : stk = as.reverse ++ .ref b :: st) (hst : (st.map fun v => v.category).sum ≤ 8) (hR : ∀ b h2, R b h2 → hN h2 = hN h) (kk : ∀ b h2, R b h2 → AW X mt (d + 1) kc ks (pc + 3) ls (.int (nI b) :: st) h2 Q) : AW X mt (d + 1) kc ks pc ls stk h Q :=
  a_callVN (mc := 0) (ms := 0) hd hl hce hs hb hc' hn hstk hst Qi_nt (hoki_of hR) (ki_of kk)
end RW32
abbrev noA : Nat → Prop := fun _ => False
theorem PZ_E {s : SH} {k : Nat} {X : Nat → Prop} {z : Int} : PZ s k noA X z ↔ ∃ l, plV s k X l ∧ (l.length : Int) + z + k ≤ sLen s :=
  ⟨fun ⟨l, h1, h2⟩ => ⟨l, h1.1, h2⟩, fun ⟨l, h1, h2⟩ => ⟨l, ⟨h1, fun i => i, fun i hi => hi.elim, fun i j hi => hi.elim⟩, h2⟩⟩
/-- a first cut behind which c - 1 cuts are enough -/
def okP (s : SH) (k : Nat) (X : Nat → Prop) (c n q : Nat) : Prop := stOK s k q n X ∧ ∃ l, plV s (k + n) (uX X (pcl s q n)) l ∧ l.length + 1 ≤ c
def isPk (s : SH) (k : Nat) (X : Nat → Prop) (c n q : Nat) : Prop := okP s k X c n q ∧ ∀ n2 q2, okP s k X c n2 q2 → n2 < n ∨ (n2 = n ∧ q ≤ q2)
def GP (s : SH) : Nat → (Nat → Prop) → Nat → List (Nat × Nat) → Prop
  | k, _, _, [] => k = sLen s
  | k, X, c, (n, q) :: r => isPk s k X c n q ∧ GP s (k + n) (uX X (pcl s q n)) (c - 1) r
/-- the best plan -/
def BP (s : SH) (X : Nat → Prop) (l : List (Nat × Nat)) : Prop := ∃ c, (∀ l0, plV s 0 X l0 → c ≤ l0.length) ∧ GP s 0 X c l ∧ l.length = c
theorem GP_plV {s : SH} : ∀ {l : List (Nat × Nat)} {k : Nat} {X : Nat → Prop} {c : Nat}, GP s k X c l → plV s k X l ∧ l.length ≤ c
  | [], _, _, _, h => ⟨h, Nat.zero_le _⟩
  | (n, q) :: r, k, X, c, h => by
    obtain ⟨h1, h2⟩ := GP_plV h.2
    obtain ⟨l0, -, h3⟩ := h.1.1.2
    exact ⟨⟨h.1.1.1, h1⟩, by show r.length + 1 ≤ c; omega⟩
theorem isPk_eq {s : SH} {k : Nat} {X : Nat → Prop} {c n q n2 q2 : Nat} (h : isPk s k X c n q) (h2 : isPk s k X c n2 q2) : n = n2 ∧ q = q2 := by
  have a := h.2 n2 q2 h2.1
  have b := h2.2 n q h.1
  omega
theorem GP_eq {s : SH} : ∀ {l l2 : List (Nat × Nat)} {k : Nat} {X : Nat → Prop} {c : Nat}, GP s k X c l → GP s k X c l2 → l = l2
  | [], [], _, _, _, _, _ => rfl
  | [], (n, q) :: r, k, X, c, h, h2 => by
    have e : k = sLen s := h
    have := h2.1.1.1.2.1
    have := h2.1.1.1.1.1
    omega
  | (n, q) :: r, [], k, X, c, h, h2 => by
    have e : k = sLen s := h2
    have := h.1.1.1.2.1
    have := h.1.1.1.1.1
    omega
  | (n, q) :: r, (n2, q2) :: r2, k, X, c, h, h2 => by
    obtain ⟨rfl, rfl⟩ := isPk_eq h.1 h2.1
    rw [GP_eq h.2 h2.2]
theorem BP_eq {s : SH} {X : Nat → Prop} {l l2 : List (Nat × Nat)} (h : BP s X l) (h2 : BP s X l2) : l = l2 := by
  obtain ⟨c, a1, a2, a3⟩ := h
  obtain ⟨c2, b1, b2, b3⟩ := h2
  have e1 := a1 l2 (GP_plV b2).1
  have e2 := b1 l (GP_plV a2).1
  have e : c = c2 := by omega
  subst e
  exact GP_eq a2 b2
/-- the planner holds these cuts -/
def PH (h : AH) (s : SH) (l : List (Nat × Nat)) : Prop := hI h 16 8 = nI l.length ∧ hL h 16 9 = mkL (plC s l) ∧ ∀ i, i < l.length → hI h 32 i = nI (l.getD i (0, 0)).2 ∧ hI h 33 i = nI (l.getD i (0, 0)).1
theorem plC_app {s : SH} {n q : Nat} : ∀ (l : List (Nat × Nat)), plC s (l ++ [(n, q)]) = uX (plC s l) (pcl s q n)
  | [] => by funext b; exact propext ⟨fun h => h.elim Or.inr (fun z => z.elim), fun h => h.elim (fun z => z.elim) Or.inl⟩
  | (n2, q2) :: r => by
    show uX (pcl s q2 n2) (plC s (r ++ [(n, q)])) = uX (uX (pcl s q2 n2) (plC s r)) (pcl s q n)
    rw [plC_app r, uX_assoc]
set_option maxHeartbeats 1500000 in
set_option maxRecDepth 100000 in
theorem sp_chooseCut {d : Nat} {h : AH} {s : SH} {f : Nat → Nat} (c : CB h) (g : GS s) (r : PRf h s f) {k cc : Nat} {Y : Nat → Prop} {z : Int} {l1 : List (Nat × Nat)} (hk : k < sLen s) (hz : z = (sLen s : Int) - k - cc) (hcc : cc ≤ 8) (hl1 : l1.length ≤ k) (hph : PH h s l1) (hex : ∃ l0, plV s k Y l0 ∧ l0.length ≤ cc) : AC mX1_chooseCut (d + 78) 0 0 [.ref 16, .int (nI k), .long (mkL Y), .int (Int32.ofInt z)] h (Qi (fun n h2 => ∃ q, isPk s k Y cc n q ∧ Fr [16, 17, 18, 19, 32, 33] h h2 ∧ hI h2 16 5 = hI h 16 5 ∧ PH h2 s (l1 ++ [(n, q)]))) := by
  have hn := c.1
  have gw := g.1
  have hL8 := r.1.2
  refine AC.of (by decide) rfl (Nat.le_of_ble_eq_true rfl) (fun X => ?_)
  show AW X mX1_chooseCut (d + 78) 0 0 0 [(0, .ref 16), (1, .int (nI k)), (2, .long (mkL Y)), (4, .int (Int32.ofInt z))] [] h (Qi (fun n h2 => ∃ q, isPk s k Y cc n q ∧ Fr [16, 17, 18, 19, 32, 33] h h2 ∧ hI h2 16 5 = hI h 16 5 ∧ PH h2 s (l1 ++ [(n, q)])))
  have LP : ∀ (fu : Nat) (n : Nat) (H : AH), n ≤ sLen s - k → Fr [17, 18, 19] h H → (∀ n2 q2, n < n2 → ¬ okP s k Y cc n2 q2) → n < fu → AW X mX1_chooseCut (d + 78) 0 0 8 [(0, .ref 16), (1, .int (nI k)), (2, .long (mkL Y)), (4, .int (Int32.ofInt z)), (5, .int (nI n))] [] H (Qi (fun n h2 => ∃ q, isPk s k Y cc n q ∧ Fr [16, 17, 18, 19, 32, 33] h h2 ∧ hI h2 16 5 = hI h 16 5 ∧ PH h2 s (l1 ++ [(n, q)]))) := by
    intro fu
    induction fu with
    | zero => intro n H hnl hf hno hz; exact absurd hz (Nat.not_lt_zero _)
    | succ fu ih =>
      intro n H hnl hf hno hz
      have ihO := ih
      refine a_iload (pc := 8) (i := 5) dX1_chooseCut_8 rfl ?_
      refine a_iconst (pc := 10) (v := nI 1) dX1_chooseCut_10 (by decide) ?_
      refine n_icmp_lt (pc := 11) (tgt := 133) dX1_chooseCut_11 (by decide) (by omega) (by omega) (fun c11 => ?_) (fun c11 => ?_)
      · exfalso
        obtain ⟨l0, e1, e2⟩ := hex
        cases l0 with
        | nil => exact absurd (show k = sLen s from e1) (by omega)
        | cons w r0 => exact hno w.1 w.2 (by have := e1.1.1.1; omega) ⟨e1.1, r0, e1.2, e2⟩
      · skip
        have LQ : ∀ (fu : Nat) (q : Nat) (H : AH), q ≤ 96 → Fr [17, 18, 19] h H → (∀ q2, q2 < q → ¬ okP s k Y cc n q2) → 96 - q < fu → AW X mX1_chooseCut (d + 78) 0 0 17 [(0, .ref 16), (1, .int (nI k)), (2, .long (mkL Y)), (4, .int (Int32.ofInt z)), (5, .int (nI n)), (6, .int (nI q))] [] H (Qi (fun n h2 => ∃ q, isPk s k Y cc n q ∧ Fr [16, 17, 18, 19, 32, 33] h h2 ∧ hI h2 16 5 = hI h 16 5 ∧ PH h2 s (l1 ++ [(n, q)]))) := by
          intro fu
          induction fu with
          | zero => intro q H hq hf hnq hz; exact absurd hz (Nat.not_lt_zero _)
          | succ fu ih =>
            intro q H hq hf hnq hz
            have hc := c.fr hf
            have hr : PRf H s f := r.fr hf (congrFun (hf.2.2 16 (by simp)).1 5) (fun a h1 h2 => by simp; omega)
            have hn2 := hc.1
            have h16 := hf.2.2 16 (by simp)
            have hcu : hI H 16 8 = nI l1.length := (congrFun h16.1 8).trans hph.1
            refine a_iload (pc := 17) (i := 6) dX1_chooseCut_17 rfl ?_
            refine a_bipush (pc := 19) (v := nI 96) dX1_chooseCut_19 (by decide) ?_
            refine n_icmp_ge (pc := 21) (tgt := 127) dX1_chooseCut_21 (by decide) (by omega) (by omega) (fun c21 => ?_) (fun c21 => ?_)
            · skip
              refine n_idec (pc := 127) (ls' := [(0, .ref 16), (1, .int (nI k)), (2, .long (mkL Y)), (4, .int (Int32.ofInt z)), (5, .int (nI (n - 1))), (6, .int (nI q))]) dX1_chooseCut_127 rfl (by omega) (by decide) rfl ?_
              refine a_goto (pc := 130) (tgt := 8) dX1_chooseCut_130 (by decide) ?_
              refine a_drop (ls' := [(0, .ref 16), (1, .int (nI k)), (2, .long (mkL Y)), (4, .int (Int32.ofInt z)), (5, .int (nI (n - 1)))]) (by simp) ?_
              exact ihO (n - 1) H (by omega) hf (fun n2 q2 h2 y => by
      rcases Nat.lt_or_ge n n2 with w | w
      · exact hno n2 q2 w y
      · have e : n2 = n := by omega
        subst e
        exact hnq q2 (by have := y.1.1.2; omega) y) (by omega)
            · skip
              refine a_aload_n (pc := 24) (i := 0) dX1_chooseCut_24 rfl rfl ?_
              refine a_iload_n (pc := 25) (i := 1) dX1_chooseCut_25 rfl rfl ?_
              refine a_iload (pc := 26) (i := 6) dX1_chooseCut_26 rfl ?_
              refine a_iload (pc := 28) (i := 5) dX1_chooseCut_28 rfl ?_
              refine a_lload_n (pc := 30) (i := 2) dX1_chooseCut_30 rfl rfl ?_
              refine a_vV1 (pc := 31) (as := [.int (nI k), .int (nI q), .int (nI n), .long (mkL Y)]) (b := 16) (ci := 1) (v := .long (mkL (frS s k q n Y))) (h' := H) dX1_chooseCut_31 (lc_RX1_98 rfl) ceX1_freeStrip rfl (lt90 hn2 (shK_lt (show shK 16 = _ from rfl))) (sp_freeStrip hc g hr hk c21 (by omega) (by omega)) rfl rfl (Nat.le_of_ble_eq_true rfl) rfl ?_
              refine a_lstore (pc := 34) (i := 7) (ls' := [(0, .ref 16), (1, .int (nI k)), (2, .long (mkL Y)), (4, .int (Int32.ofInt z)), (5, .int (nI n)), (6, .int (nI q)), (7, .long (mkL (frS s k q n Y)))]) dX1_chooseCut_34 (by decide) rfl ?_
              refine a_lload (pc := 36) (i := 7) dX1_chooseCut_36 rfl ?_
              refine a_lconst (pc := 38) (v := 0) dX1_chooseCut_38 (by decide) ?_
              refine a_lcmp (pc := 39) dX1_chooseCut_39 ?_
              refine a_if_eq (pc := 40) (tgt := 121) dX1_chooseCut_40 (by decide) (fun c40 => ?_) (fun c40 => ?_)
              · have hz0 := (lg_cmp_eq _ _).mp c40
                refine n_iinc (pc := 121) (k := 1) (ls' := [(0, .ref 16), (1, .int (nI k)), (2, .long (mkL Y)), (4, .int (Int32.ofInt z)), (5, .int (nI n)), (6, .int (nI (q + 1))), (7, .long (mkL (frS s k q n Y)))]) dX1_chooseCut_121 rfl (by decide) (by decide) rfl ?_
                refine a_goto (pc := 124) (tgt := 17) dX1_chooseCut_124 (by decide) ?_
                refine a_drop (ls' := [(0, .ref 16), (1, .int (nI k)), (2, .long (mkL Y)), (4, .int (Int32.ofInt z)), (5, .int (nI n)), (6, .int (nI (q + 1)))]) (by simp) ?_
                exact ih (q + 1) H (by omega) hf (fun q2 h2 y => by
      rcases Nat.lt_or_ge q2 q with w | w
      · exact hnq q2 w y
      · have e : q2 = q := by omega
        subst e
        exact (frS_ne g c21 (by omega)).mpr ⟨y.1.2.2.1, y.1.2.2.2⟩ hz0) (by omega)
              · have hfr := (frS_ne g c21 (by omega)).mp (fun y => c40 ((lg_cmp_eq _ _).mpr y))
                have hst : stOK s k q n Y := ⟨⟨by omega, c21⟩, by omega, hfr⟩
                refine a_aload_n (pc := 43) (i := 0) dX1_chooseCut_43 rfl rfl ?_
                refine a_getI (pc := 44) (ci := 1) (k := 8) dX1_chooseCut_44 (lf_RX1_40 rfl) (by decide) rfl rfl (lt90 hn2 (shK_lt (show shK 16 = _ from rfl))) ?_
                refine a_top (show (.int (hI H 16 8) : Value) = .int (nI l1.length) from congrArg Value.int hcu) ?_
                refine a_bipush (pc := 47) (v := nI 8) dX1_chooseCut_47 (by decide) ?_
                refine n_icmp_ge (pc := 49) (tgt := 121) dX1_chooseCut_49 (by decide) (by omega) (by omega) (fun c49 => ?_) (fun c49 => ?_)
                · exact absurd c49 (by omega)
                · skip
                  refine a_aload_n (pc := 52) (i := 0) dX1_chooseCut_52 rfl rfl ?_
                  refine a_iload_n (pc := 53) (i := 1) dX1_chooseCut_53 rfl rfl ?_
                  refine a_iload (pc := 54) (i := 5) dX1_chooseCut_54 rfl ?_
                  refine n_iadd (pc := 56) dX1_chooseCut_56 ?_
                  refine a_iconst (pc := 57) (v := nI 0) dX1_chooseCut_57 (by decide) ?_
                  refine a_top (show (.int (nI 0) : Value) = .int (nI (mkN noA 8)) from congrArg Value.int msk_0) ?_
                  refine a_lload_n (pc := 58) (i := 2) dX1_chooseCut_58 rfl rfl ?_
                  refine a_lload (pc := 59) (i := 7) dX1_chooseCut_59 rfl ?_
                  refine a_lor (pc := 61) dX1_chooseCut_61 ?_
                  refine a_top (show (.long ((mkL Y) ||| (mkL (frS s k q n Y))) : Value) = .long (mkL (uX Y (pcl s q n))) from congrArg Value.long (or_strip hfr)) ?_
                  refine a_iload (pc := 62) (i := 4) dX1_chooseCut_62 rfl ?_
                  refine a_iload (pc := 64) (i := 5) dX1_chooseCut_64 rfl ?_
                  refine a_isub (pc := 66) dX1_chooseCut_66 ?_
                  refine a_iconst (pc := 67) (v := nI 1) dX1_chooseCut_67 (by decide) ?_
                  refine a_iadd (pc := 68) dX1_chooseCut_68 ?_
                  refine a_top (show (.int (((Int32.ofInt z) - (nI n)) + (nI 1)) : Value) = .int (Int32.ofInt (z - n + 1)) from congrArg Value.int (oi_step (by omega) (by omega) (by omega))) ?_
                  refine a_wV1 (pc := 69) (as := [.int (nI (k + n)), .int (nI (mkN noA 8)), .long (mkL (uX Y (pcl s q n))), .int (Int32.ofInt (z - n + 1))]) (b := 16) (ci := 1) (v := .int (bi (PZ s (k + n) noA (uX Y (pcl s q n)) (z - n + 1)))) dX1_chooseCut_69 (lc_RX1_90 rfl) ceX1_canSave rfl (lt90 hn2 (shK_lt (show shK 16 = _ from rfl))) (sp_canSave (d := d) g 8 hc hr (by omega) (by omega) (fun i hi => hi.elim) (by omega)) rfl rfl (Nat.le_of_ble_eq_true rfl) (fun H2 f2 r2 => ?_)
                  have f3 := hf.trans f2
                  refine b_if_eq (pc := 72) (tgt := 121) dX1_chooseCut_72 (by decide) (fun c72 => ?_) (fun c72 => ?_)
                  · skip
                    refine n_iinc (pc := 121) (k := 1) (ls' := [(0, .ref 16), (1, .int (nI k)), (2, .long (mkL Y)), (4, .int (Int32.ofInt z)), (5, .int (nI n)), (6, .int (nI (q + 1))), (7, .long (mkL (frS s k q n Y)))]) dX1_chooseCut_121 rfl (by decide) (by decide) rfl ?_
                    refine a_goto (pc := 124) (tgt := 17) dX1_chooseCut_124 (by decide) ?_
                    refine a_drop (ls' := [(0, .ref 16), (1, .int (nI k)), (2, .long (mkL Y)), (4, .int (Int32.ofInt z)), (5, .int (nI n)), (6, .int (nI (q + 1)))]) (by simp) ?_
                    exact ih (q + 1) H2 (by omega) f3 (fun q2 h2 y => by
      rcases Nat.lt_or_ge q2 q with w | w
      · exact hnq q2 w y
      · have e : q2 = q := by omega
        subst e
        exact c72 (PZ_E.mpr (by obtain ⟨l0, y1, y2⟩ := y.2; exact ⟨l0, y1, by omega⟩))) (by omega)
                  · have hok : okP s k Y cc n q := ⟨hst, by obtain ⟨l0, y1, y2⟩ := PZ_E.mp c72; exact ⟨l0, y1, by omega⟩⟩
                    have hpk : isPk s k Y cc n q := ⟨hok, fun n2 q2 y => by
                      rcases Nat.lt_trichotomy n2 n with w | w | w
                      · exact Or.inl w
                      · subst w
                        exact Or.inr ⟨rfl, Nat.le_of_not_lt (fun v => hnq q2 v y)⟩
                      · exact absurd y (hno n2 q2 w)⟩
                    have hc3 := hc.fr f2
                    have hn3 := hc3.1
                    have k16 := f3.2.2 16 (by simp)
                    have k32 := (f3.2.2 32 (by simp)).1
                    have k33 := (f3.2.2 33 (by simp)).1
                    have hcu3 : hI H2 16 8 = nI l1.length := (congrFun k16.1 8).trans hph.1
                    have hce3 : hL H2 16 9 = mkL (plC s l1) := (congrFun k16.2 9).trans hph.2.1
                    refine a_aload_n (pc := 75) (i := 0) dX1_chooseCut_75 rfl rfl ?_
                    refine a_getR (pc := 76) (ci := 1) (k := 6) (b := 32) dX1_chooseCut_76 (lf_RX1_34 rfl) (by decide) rfl rfl (lt90 hn3 (shK_lt (show shK 16 = _ from rfl))) hc3.2.2.2.2.2.2.1.2.2.2.2.2.1 ?_
                    refine a_aload_n (pc := 79) (i := 0) dX1_chooseCut_79 rfl rfl ?_
                    refine a_getI (pc := 80) (ci := 1) (k := 8) dX1_chooseCut_80 (lf_RX1_40 rfl) (by decide) rfl rfl (lt90 hn3 (shK_lt (show shK 16 = _ from rfl))) ?_
                    refine a_top (show (.int (hI H2 16 8) : Value) = .int (nI l1.length) from congrArg Value.int ((show _ = _ from by simp (disch := omega) only [rd1]).trans hcu3)) ?_
                    refine a_iload (pc := 83) (i := 6) dX1_chooseCut_83 rfl ?_
                    refine a_iast (pc := 85) (j := l1.length) dX1_chooseCut_85 rfl (lt90 hn3 (shK_lt (show shK 32 = _ from rfl))) rfl (by omega) ?_
                    refine a_aload_n (pc := 86) (i := 0) dX1_chooseCut_86 rfl rfl ?_
                    refine a_getR (pc := 87) (ci := 1) (k := 7) (b := 33) dX1_chooseCut_87 (lf_RX1_37 rfl) (by decide) rfl rfl (lt90 hn3 (shK_lt (show shK 16 = _ from rfl))) hc3.2.2.2.2.2.2.1.2.2.2.2.2.2 ?_
                    refine a_aload_n (pc := 90) (i := 0) dX1_chooseCut_90 rfl rfl ?_
                    refine a_getI (pc := 91) (ci := 1) (k := 8) dX1_chooseCut_91 (lf_RX1_40 rfl) (by decide) rfl rfl (lt90 hn3 (shK_lt (show shK 16 = _ from rfl))) ?_
                    refine a_top (show (.int (hI (sI H2 32 l1.length (nI q)) 16 8) : Value) = .int (nI l1.length) from congrArg Value.int ((show _ = _ from by simp (disch := omega) only [rd1]).trans hcu3)) ?_
                    refine a_iload (pc := 94) (i := 5) dX1_chooseCut_94 rfl ?_
                    refine a_iast (pc := 96) (j := l1.length) dX1_chooseCut_96 rfl (lt90 hn3 (shK_lt (show shK 33 = _ from rfl))) rfl (by omega) ?_
                    refine a_aload_n (pc := 97) (i := 0) dX1_chooseCut_97 rfl rfl ?_
                    refine a_dup (pc := 98) dX1_chooseCut_98 rfl ?_
                    refine a_getI (pc := 99) (ci := 1) (k := 8) dX1_chooseCut_99 (lf_RX1_40 rfl) (by decide) rfl rfl (lt90 hn3 (shK_lt (show shK 16 = _ from rfl))) ?_
                    refine a_top (show (.int (hI (sI (sI H2 32 l1.length (nI q)) 33 l1.length (nI n)) 16 8) : Value) = .int (nI l1.length) from congrArg Value.int ((show _ = _ from by simp (disch := omega) only [rd1]).trans hcu3)) ?_
                    refine a_iconst (pc := 102) (v := nI 1) dX1_chooseCut_102 (by decide) ?_
                    refine n_iadd (pc := 103) dX1_chooseCut_103 ?_
                    refine a_putI (pc := 104) (ci := 1) (k := 8) dX1_chooseCut_104 (lf_RX1_40 rfl) (by decide) (Or.inl rfl) rfl (lt90 hn3 (shK_lt (show shK 16 = _ from rfl))) rfl ?_
                    refine a_aload_n (pc := 107) (i := 0) dX1_chooseCut_107 rfl rfl ?_
                    refine a_dup (pc := 108) dX1_chooseCut_108 rfl ?_
                    refine a_getL (pc := 109) (ci := 1) (k := 9) dX1_chooseCut_109 (lf_RX1_82 rfl) (by decide) rfl rfl (lt90 hn3 (shK_lt (show shK 16 = _ from rfl))) ?_
                    refine a_top (show (.long (hL (sI (sI (sI H2 32 l1.length (nI q)) 33 l1.length (nI n)) 16 8 (nI (l1.length + 1))) 16 9) : Value) = .long (mkL (plC s l1)) from congrArg Value.long hce3) ?_
                    refine a_lload (pc := 112) (i := 7) dX1_chooseCut_112 rfl ?_
                    refine a_lor (pc := 114) dX1_chooseCut_114 ?_
                    refine a_top (show (.long ((mkL (plC s l1)) ||| (mkL (frS s k q n Y))) : Value) = .long (mkL (plC s (l1 ++ [(n, q)]))) from congrArg Value.long (show _ = _ from by rw [frS_1 hfr, mkL_or, plC_app]; rfl)) ?_
                    refine a_putL (pc := 115) (ci := 1) (k := 9) dX1_chooseCut_115 (lf_RX1_82 rfl) (by decide) rfl rfl (lt90 hn3 (shK_lt (show shK 16 = _ from rfl))) rfl ?_
                    refine a_iload (pc := 118) (i := 5) dX1_chooseCut_118 rfl ?_
                    obtain ⟨HF, hHF⟩ : ∃ H, H = sL (sI (sI (sI H2 32 l1.length (nI q)) 33 l1.length (nI n)) 16 8 (nI (l1.length + 1))) 16 9 (mkL (plC s (l1 ++ [(n, q)]))) := ⟨_, rfl⟩
                    have fF : Fr [16, 17, 18, 19, 32, 33] h HF := by rw [hHF]; exact ((((f3.mono (by intro a ha; simp at ha ⊢; omega)).sI (by simp)).sI (by simp)).sI (by simp)).sL (by simp)
                    have e5 : hI HF 16 5 = hI h 16 5 := by rw [hHF]; simp (disch := omega) only [rd1, rd2, rd3, rd4, rd5, rd6, rd7, hI_sL, hL_sI, hL_rI]; exact congrFun k16.1 5
                    have hPH : PH HF s (l1 ++ [(n, q)]) := by
                      rw [hHF]
                      refine ⟨by simp (disch := omega) only [rd1, rd2, rd3, rd4, rd5, rd6, rd7, hI_sL, hL_sI, hL_rI]; rw [List.length_append]; rfl, by simp (disch := omega) only [rd1, rd2, rd3, rd4, rd5, rd6, rd7, hI_sL, hL_sI, hL_rI], fun i hi => ?_⟩
                      rw [List.length_append] at hi
                      have hi : i < l1.length + 1 := hi
                      rcases Nat.lt_or_ge i l1.length with w | w
                      · rw [List.getD_eq_getElem?_getD, List.getElem?_append_left w, ← List.getD_eq_getElem?_getD]
                        simp (disch := omega) only [rd1, rd2, rd3, rd4, rd5, rd6, rd7, hI_sL, hL_sI, hL_rI]
                        rw [k32, k33]; exact hph.2.2 i w
                      · have e : i = l1.length := by omega
                        subst e
                        rw [List.getD_eq_getElem?_getD, List.getElem?_append_right (Nat.le_refl _), Nat.sub_self]
                        simp (disch := omega) only [rd1, rd2, rd3, rd4, rd5, rd6, rd7, hI_sL, hL_sI, hL_rI]
                        exact ⟨rfl, rfl⟩
                    refine a_heap (h' := HF) hHF.symm ?_
                    exact a_ireturn (pc := 120) dX1_chooseCut_120 rfl rfl (⟨n, rfl, q, hpk, fF, e5, hPH⟩)
        refine a_iconst (pc := 14) (v := nI 0) dX1_chooseCut_14 (by decide) ?_
        refine a_istore (pc := 15) (i := 6) (ls' := [(0, .ref 16), (1, .int (nI k)), (2, .long (mkL Y)), (4, .int (Int32.ofInt z)), (5, .int (nI n)), (6, .int (nI 0))]) dX1_chooseCut_15 (by decide) rfl ?_
        exact LQ 97 0 H (by omega) hf (fun q2 h2 => absurd h2 (Nat.not_lt_zero _)) (by omega)
  refine a_aload_n (pc := 0) (i := 0) dX1_chooseCut_0 rfl rfl ?_
  refine a_getI (pc := 1) (ci := 1) (k := 5) dX1_chooseCut_1 (lf_RX1_58 rfl) (by decide) rfl rfl (lt90 hn (shK_lt (show shK 16 = _ from rfl))) ?_
  refine a_top (show (.int (hI h 16 5) : Value) = .int (nI (sLen s)) from congrArg Value.int r.1.1) ?_
  refine a_iload_n (pc := 4) (i := 1) dX1_chooseCut_4 rfl rfl ?_
  refine n_isub (pc := 5) dX1_chooseCut_5 (by omega) ?_
  refine a_istore (pc := 6) (i := 5) (ls' := [(0, .ref 16), (1, .int (nI k)), (2, .long (mkL Y)), (4, .int (Int32.ofInt z)), (5, .int (nI ((sLen s) - k)))]) dX1_chooseCut_6 (by decide) rfl ?_
  refine a_locs (ls' := [(0, .ref 16), (1, .int (nI k)), (2, .long (mkL Y)), (4, .int (Int32.ofInt z)), (5, .int (nI (sLen s - k)))]) rfl ?_
  exact LP (sLen s + 1) (sLen s - k) h (Nat.le_refl _) Fr.refl (fun n2 q2 h2 y => by have := y.1.2.1; omega) (by omega)
