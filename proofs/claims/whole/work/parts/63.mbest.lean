/-! the class LetterCutsModel: the best plan -/
theorem min_ex {P : List (Nat × Nat) → Prop} : ∀ (n : Nat) (l : List (Nat × Nat)), l.length ≤ n → P l → ∃ l0, P l0 ∧ ∀ l1, P l1 → l0.length ≤ l1.length
  | n, l, hl, hp => by
    rcases Classical.em (∃ l2, P l2 ∧ l2.length < l.length) with ⟨l2, h1, h2⟩ | h
    · match n, hl with
      | 0, hl => omega
      | n + 1, hl => exact min_ex n l2 (by omega) h1
    · exact ⟨l, hp, fun l1 h1 => Nat.le_of_not_lt fun z => h ⟨l1, h1, z⟩⟩
theorem no_miss {s : SH} (g : GS s) : nMiss s = 0 ↔ ∃ l, plV s 0 noA l := by
  rw [← nMf_miss g, nMf_0]
  constructor
  · intro h
    obtain ⟨l, h1, -⟩ := SS_PA (s := s) (sLen s) (k := 0) (A := noA) (X := noA) (by omega) (fun i hi => hi.elim) (h.mono (fun i hi => hi.elim (fun z => ⟨Nat.zero_le _, z.2⟩) (fun z => z.elim)) (fun _ z => z))
    exact ⟨l, h1.1⟩
  · rintro ⟨l, h⟩
    exact (PA_SS g (A := noA) (fun i hi => hi.elim) ⟨h, SS_none fun _ z => z⟩).mono (fun i hi => Or.inl hi) (fun _ z => z)
def PByR (h : AH) (s : SH) (m : Nat) (b : Prop) (h2 : AH) : Prop := (Fr SPm h h2 ∧ K25 h h2) ∧ (b ↔ ∃ l, plV s 0 noA l ∧ l.length = m) ∧ (b → ∃ l, GE s 0 noA l ∧ l.length = m ∧ PAm h2 s 0 l)
theorem PByR_n {h : AH} {s : SH} {m : Nat} : ∀ b h2, PByR h s m b h2 → hN h2 = hN h := fun b h2 q => q.1.1.1
set_option maxHeartbeats 1500000 in
set_option maxRecDepth 100000 in
theorem s5_plansBy {d m : Nat} {f : Nat → Nat} {h : AH} {s : SH} (c : CB h) (g : GS s) (r : DM h 68 s) (h8 : sLen s ≤ 8) (hm : m ≤ 8) (nm : NDm h s f ∧ MTm h s) : AC mX5_plansBy (d + 71) 0 0 [.ref 66, .int (nI m)] h (Qb (PByR h s m)) := by
  have hn := c.1
  have gw := g.1
  have gh := g.2.1
  have gl := g.2.2.2.2.2.1
  have gc := cells48 g
  refine AC.of (by decide) rfl (Nat.le_of_ble_eq_true rfl) (fun X => ?_)
  show AW X mX5_plansBy (d + 71) 0 0 0 [(0, .ref 66), (1, .int (nI m))] [] h (Qb (PByR h s m))
  obtain ⟨nd, mt⟩ := nm
  refine a_aload_n (pc := 0) (i := 0) dX5_plansBy_0 rfl rfl ?_
  refine a_lconst (pc := 1) (v := 0) dX5_plansBy_1 (by decide) ?_
  refine a_putL (pc := 2) (ci := 5) (k := 17) dX5_plansBy_2 (lf_RX5_197 rfl) (by decide) rfl rfl (lt90 hn (shK_lt (show shK 66 = _ from rfl))) rfl ?_
  refine a_aload_n (pc := 5) (i := 0) dX5_plansBy_5 rfl rfl ?_
  refine a_iconst (pc := 6) (v := nI 0) dX5_plansBy_6 (by decide) ?_
  refine a_putI (pc := 7) (ci := 5) (k := 25) dX5_plansBy_7 (lf_RX5_238 rfl) (by decide) (Or.inl rfl) rfl (lt90 hn (shK_lt (show shK 66 = _ from rfl))) rfl ?_
  obtain ⟨H0, hH0⟩ : ∃ Hx, Hx = sI (sL h 66 17 0) 66 25 (nI 0) := ⟨_, rfl⟩
  have f0 : Fr [66] h H0 := by rw [hH0]; exact (Fr.refl.sL (by simp)).sI (by simp)
  have tk0 : TKm H0 s noA := by unfold TKm; rw [hH0, hL_sI, rd6 ⟨rfl, rfl⟩]; exact (mkL_eq0.mpr (fun i _ z => z.2)).symm
  have k0 : K25 h H0 := fun j hj => by rw [hH0, rd1 (by omega)]; rfl
  have v0 : hI H0 66 25 = nI 0 := by rw [hH0]; exact rd2 ⟨rfl, rfl⟩
  refine a_heap (h' := H0) hH0.symm ?_
  have LP : ∀ (fu : Nat) (i : Nat) (H : AH), i ≤ 4096 → Fr [87] H0 H → (∀ j, j < i → hL H 87 j = 0) → 4096 - i < fu → AW X mX5_plansBy (d + 71) 0 0 12 [(0, .ref 66), (1, .int (nI m)), (2, .int (nI i))] [] H (Qb (PByR h s m)) := by
    intro fu
    induction fu with
    | zero => intro i H hi hf h00 hz; exact absurd hz (Nat.not_lt_zero _)
    | succ fu ih =>
      intro i H hi hf h00 hz
      have hfa : Fr [66, 87] h H := (f0.mono (by simp)).trans (hf.mono (by simp))
      have c1 := c.fr hfa
      have hn1 := c1.1
      refine a_iload_n (pc := 12) (i := 2) dX5_plansBy_12 rfl rfl ?_
      refine a_sipush (pc := 13) (v := nI 4096) dX5_plansBy_13 (by decide) ?_
      refine n_icmp_ge (pc := 16) (tgt := 32) dX5_plansBy_16 (by decide) (by omega) (by omega) (fun c16 => ?_) (fun c16 => ?_)
      · have e66 : hI H 66 = hI H0 66 := (hf.2.2 66 (by simp)).1
        have tk1 : TKm H s noA := tk0.fr hf (by simp)
        have vi1 : VIm H s m := ⟨0, by omega, by rw [e66]; exact v0, Nat.le_of_eq (cnt_none _ fun j hj z => z (h00 j (by omega))), fun j hj z => absurd (h00 j (by omega)) z⟩
        have pp : PPre H s f m noA := ⟨c1, r.fr hfa (by simp), ⟨⟨nd.1, fun k hk => by rw [(hfa.2.2 82 (by simp)).1]; exact nd.2.1 k hk, nd.2.2⟩, fun k hk => by rw [(hfa.2.2 86 (by simp)).2]; exact mt k hk⟩, tk1, vi1⟩
        refine a_aload_n (pc := 32) (i := 0) dX5_plansBy_32 rfl rfl ?_
        refine a_iconst (pc := 33) (v := nI 0) dX5_plansBy_33 (by decide) ?_
        refine a_iconst (pc := 34) (v := nI 0) dX5_plansBy_34 (by decide) ?_
        refine a_iload_n (pc := 35) (i := 1) dX5_plansBy_35 rfl rfl ?_
        refine a_yV (pc := 36) (as := [.int (nI 0), .int (nI 0), .int (nI m)]) (b := 66) (ci := 5) dX5_plansBy_36 (lc_RX5_233 rfl) ceX5_plans rfl (lt90 hn1 (shK_lt (show shK 66 = _ from rfl))) (s5_plans (D := d) g h8 hm 8 (by omega) pp (Nat.zero_le _) (Nat.zero_le _)) rfl rfl (Nat.le_of_ble_eq_true rfl) PRes_n (fun bb H2 q2 => ?_)
        obtain ⟨⟨f2, k2⟩, -, -, -, iff2, win2⟩ := q2
        exact a_ireturn (pc := 39) dX5_plansBy_39 rfl (bi_nb _) (⟨bb, rfl, ⟨(hfa.mono (by intro a ha; simp at ha ⊢; omega)).trans f2, fun j hj => by rw [k2 j hj, e66]; exact k0 j hj⟩, iff2, win2⟩)
      · skip
        refine a_aload_n (pc := 19) (i := 0) dX5_plansBy_19 rfl rfl ?_
        refine a_getR (pc := 20) (ci := 5) (k := 23) (b := 87) dX5_plansBy_20 (lf_RX5_54 rfl) (by decide) rfl rfl (lt90 hn1 (shK_lt (show shK 66 = _ from rfl))) c1.2.2.2.2.2.2.2.2.1.2.2.2.2.2.2.2.2.2.2.2.2.1 ?_
        refine a_iload_n (pc := 23) (i := 2) dX5_plansBy_23 rfl rfl ?_
        refine a_lconst (pc := 24) (v := 0) dX5_plansBy_24 (by decide) ?_
        refine a_last (pc := 25) (j := i) dX5_plansBy_25 rfl (lt90 hn1 (shK_lt (show shK 87 = _ from rfl))) rfl (by omega) ?_
        refine n_iinc (pc := 26) (k := 1) (ls' := [(0, .ref 66), (1, .int (nI m)), (2, .int (nI (i + 1)))]) dX5_plansBy_26 rfl (by decide) (by decide) rfl ?_
        refine a_goto (pc := 29) (tgt := 12) dX5_plansBy_29 (by decide) ?_
        exact ih (i + 1) _ (by omega) (hf.sL (by simp)) (fun j hj => by
            by_cases e : j = i
            · rw [rd6 ⟨rfl, e⟩]
            · rw [rd5 (Or.inr e)]; exact h00 j (by omega)) (by omega)
  refine a_iconst (pc := 10) (v := nI 0) dX5_plansBy_10 (by decide) ?_
  refine a_istore_n (pc := 11) (i := 2) (ls' := [(0, .ref 66), (1, .int (nI m)), (2, .int (nI 0))]) dX5_plansBy_11 rfl (by decide) rfl ?_
  exact LP 4097 0 H0 (Nat.zero_le _) Fr.refl (fun j hj => absurd hj (by omega)) (by omega)
abbrev SLm : List Nat := [66, 80, 81, 82, 83, 84, 85, 86, 87]
def K24 (h h2 : AH) : Prop := ∀ j, j ≠ 24 → j ≠ 25 → hI h2 66 j = hI h 66 j
def LPR (h : AH) (s : SH) (x : Int32) (h2 : AH) : Prop := x = bestR s ∧ (Fr SLm h h2 ∧ K24 h h2) ∧ hI h2 66 24 = bestR s ∧ (sLen s ≤ 8 → ∀ l, BP s noA l → PAm h2 s 0 l)
theorem LPR_n {h : AH} {s : SH} : ∀ x h2, LPR h s x h2 → hN h2 = hN h := fun x h2 q => q.2.1.1.1
set_option maxHeartbeats 1500000 in
set_option maxRecDepth 100000 in
theorem s5_layPlan {d : Nat} {h : AH} {s : SH} (c : CB h) (g : GS s) (r : DM h 68 s) : AC mX5_layPlan (d + 72) 0 0 [.ref 66] h (Qx (LPR h s)) := by
  have hn := c.1
  have gw := g.1
  have gh := g.2.1
  have gl := g.2.2.2.2.2.1
  have gc := cells48 g
  refine AC.of (by decide) rfl (Nat.le_of_ble_eq_true rfl) (fun X => ?_)
  show AW X mX5_layPlan (d + 72) 0 0 0 [(0, .ref 66)] [] h (Qx (LPR h s))
  have hb8 : 8 < sLen s → bestR s = -2 := fun z => cif_t z
  have hbn : ¬ 8 < sLen s → bestR s = bestN s := fun z => cif_f z
  refine a_aload_n (pc := 0) (i := 0) dX5_layPlan_0 rfl rfl ?_
  refine a_aload_n (pc := 1) (i := 0) dX5_layPlan_1 rfl rfl ?_
  refine a_getR (pc := 2) (ci := 5) (k := 8) (b := 68) dX5_layPlan_2 (lf_RX5_17 rfl) (by decide) rfl rfl (lt90 hn (shK_lt (show shK 66 = _ from rfl))) c.2.2.2.2.2.2.2.2.1.2.1 ?_
  refine a_iconst (pc := 5) (v := nI 3) dX5_layPlan_5 (by decide) ?_
  refine a_iald (pc := 6) (j := 3) dX5_layPlan_6 rfl (lt90 hn (shK_lt (show shK 68 = _ from rfl))) rfl (by omega) ?_
  refine a_top (show (.int (hI h 68 3) : Value) = .int (nI (sLen s)) from congrArg Value.int r.1.2.2.2.1) ?_
  refine a_bipush (pc := 7) (v := nI 8) dX5_layPlan_7 (by decide) ?_
  refine n_icmp_le (pc := 9) (tgt := 17) dX5_layPlan_9 (by decide) (by omega) (by omega) (fun c9 => ?_) (fun c9 => ?_)
  · skip
    refine a_aload_n (pc := 17) (i := 0) dX5_layPlan_17 rfl rfl ?_
    refine a_wV1 (pc := 18) (as := []) (b := 66) (ci := 5) (v := .int (nI (nMiss s))) dX5_layPlan_18 (lc_RX5_241 rfl) ceX5_missingNow rfl (lt90 hn (shK_lt (show shK 66 = _ from rfl))) (s5_missingNow (d := d + 10) c g r) rfl rfl (Nat.le_of_ble_eq_true rfl) (fun H1 f1 e1 => ?_)
    have hmn : nMiss s ≤ 24 := by rw [← nMf_miss g]; exact Nat.le_trans (cnt_le _ _) (by omega)
    have c1 := c.fr f1
    have hn1 := c1.1
    have r1 := r.fr f1 (by simp)
    have fs1 : Fr SLm h H1 := f1.mono (by intro a ha; simp at ha ⊢; omega)
    have k1 : K24 h H1 := fun j _ _ => by rw [e1]
    refine n_if_le (pc := 21) (tgt := 28) dX5_layPlan_21 (by decide) (by omega) (fun c21 => ?_) (fun c21 => ?_)
    · obtain ⟨l0, hl0⟩ := (no_miss g).mp c21
      refine a_iconst (pc := 28) (v := nI 0) dX5_layPlan_28 (by decide) ?_
      refine a_putI (pc := 29) (ci := 5) (k := 24) dX5_layPlan_29 (lf_RX5_244 rfl) (by decide) (Or.inl rfl) rfl (lt90 hn1 (shK_lt (show shK 66 = _ from rfl))) rfl ?_
      obtain ⟨H2, hH2⟩ : ∃ Hx, Hx = sI H1 66 24 (nI 0) := ⟨_, rfl⟩
      have f2 : Fr [66] H1 H2 := by rw [hH2]; exact Fr.refl.sI (by simp)
      have fs2 : Fr SLm h H2 := fs1.trans (f2.mono (by intro a ha; simp at ha ⊢; omega))
      have k2 : K24 h H2 := fun j h1 h2 => by rw [hH2, rd1 (by omega)]; exact k1 j h1 h2
      have w2 : hI H2 66 24 = nI 0 := by rw [hH2]; exact rd2 ⟨rfl, rfl⟩
      refine a_heap (h' := H2) hH2.symm ?_
      have c2 := c1.fr f2
      have hn2 := c2.1
      have r2 := r1.fr f2 (by simp)
      refine a_aload_n (pc := 32) (i := 0) dX5_layPlan_32 rfl rfl ?_
      refine a_getI (pc := 33) (ci := 5) (k := 24) dX5_layPlan_33 (lf_RX5_244 rfl) (by decide) rfl rfl (lt90 hn2 (shK_lt (show shK 66 = _ from rfl))) ?_
      refine a_top (show (.int (hI H2 66 24) : Value) = .int (nI 0) from congrArg Value.int w2) ?_
      refine n_if_lt (pc := 36) (tgt := 48) dX5_layPlan_36 (by decide) (by omega) ?_
      refine a_aload_n (pc := 39) (i := 0) dX5_layPlan_39 rfl rfl ?_
      refine a_getR (pc := 40) (ci := 5) (k := 8) (b := 68) dX5_layPlan_40 (lf_RX5_17 rfl) (by decide) rfl rfl (lt90 hn2 (shK_lt (show shK 66 = _ from rfl))) c2.2.2.2.2.2.2.2.2.1.2.1 ?_
      refine a_iconst (pc := 43) (v := nI 3) dX5_layPlan_43 (by decide) ?_
      refine a_iald (pc := 44) (j := 3) dX5_layPlan_44 rfl (lt90 hn2 (shK_lt (show shK 68 = _ from rfl))) rfl (by omega) ?_
      refine a_top (show (.int (hI H2 68 3) : Value) = .int (nI (sLen s)) from congrArg Value.int r2.1.2.2.2.1) ?_
      refine n_if_ne (pc := 45) (tgt := 53) dX5_layPlan_45 (by decide) (by omega) (fun c45 => ?_) (fun c45 => ?_)
      · skip
        refine a_aload_n (pc := 53) (i := 0) dX5_layPlan_53 rfl rfl ?_
        refine a_wV0 (pc := 54) (as := []) (b := 66) (ci := 5) dX5_layPlan_54 (lc_RX5_247 rfl) ceX5_layNeeded rfl (lt90 hn2 (shK_lt (show shK 66 = _ from rfl))) (s5_layNeeded (d := d + 64) c2 g r2 (by omega)) rfl rfl (Nat.le_of_ble_eq_true rfl) (fun H3 f3 q3 => ?_)
        obtain ⟨⟨f, nd⟩, mt⟩ := q3
        have c3 := c2.fr f3
        have hn3 := c3.1
        have r3 := r2.fr f3 (by simp)
        have e3 : hI H3 66 = hI H2 66 := (f3.2.2 66 (by simp)).1
        have fs3 : Fr SLm h H3 := fs2.trans (f3.mono (by intro a ha; simp at ha ⊢; omega))
        obtain ⟨lb, hlb, hmin⟩ := min_ex (P := plV s 0 noA) l0.length l0 (Nat.le_refl _) hl0
        have hlb8 := plV_le hlb
        have hf0 := NB_le nd.1 hlb
        refine a_aload_n (pc := 57) (i := 0) dX5_layPlan_57 rfl rfl ?_
        refine a_aload_n (pc := 58) (i := 0) dX5_layPlan_58 rfl rfl ?_
        refine a_getR (pc := 59) (ci := 5) (k := 18) (b := 82) dX5_layPlan_59 (lf_RX5_38 rfl) (by decide) rfl rfl (lt90 hn3 (shK_lt (show shK 66 = _ from rfl))) c3.2.2.2.2.2.2.2.2.1.2.2.2.2.2.2.2.1 ?_
        refine a_iconst (pc := 62) (v := nI 0) dX5_layPlan_62 (by decide) ?_
        refine a_iald (pc := 63) (j := 0) dX5_layPlan_63 rfl (lt90 hn3 (shK_lt (show shK 82 = _ from rfl))) rfl (by omega) ?_
        refine a_top (show (.int (hI H3 82 0) : Value) = .int (nI (f 0)) from congrArg Value.int (nd.2.1 0 (Nat.zero_le _))) ?_
        refine a_putI (pc := 64) (ci := 5) (k := 24) dX5_layPlan_64 (lf_RX5_244 rfl) (by decide) (Or.inl rfl) rfl (lt90 hn3 (shK_lt (show shK 66 = _ from rfl))) rfl ?_
        obtain ⟨H4, hH4⟩ : ∃ Hx, Hx = sI H3 66 24 (nI (f 0)) := ⟨_, rfl⟩
        have f4 : Fr SPm H3 H4 := by rw [hH4]; exact Fr.refl.sI (by simp)
        have w4 : hI H4 66 24 = nI (f 0) := by rw [hH4]; exact rd2 ⟨rfl, rfl⟩
        have k4 : K24 h H4 := fun j h1 h2 => by rw [hH4, rd1 (by omega), e3]; exact k2 j h1 h2
        refine a_heap (h' := H4) hH4.symm ?_
        have LP : ∀ (fu : Nat) (m : Nat) (H : AH), m ≤ lb.length → Fr SPm H3 H → K24 h H → hI H 66 24 = nI m → lb.length - m < fu → AW X mX5_layPlan (d + 72) 0 0 67 [(0, .ref 66)] [] H (Qx (LPR h s)) := by
          intro fu
          induction fu with
          | zero => intro m H hm hf hk hw hz; exact absurd hz (Nat.not_lt_zero _)
          | succ fu ih =>
            intro m H hm hf hk hw hz
            have c5 := c3.fr hf
            have hn5 := c5.1
            have r5 := r3.fr hf (by simp)
            have nd5 : NDm H s f ∧ MTm H s := ⟨⟨nd.1, fun k hk => by rw [(hf.2.2 82 (by simp)).1]; exact nd.2.1 k hk, nd.2.2⟩, fun k hk => by rw [(hf.2.2 86 (by simp)).2]; exact mt k hk⟩
            refine a_aload_n (pc := 67) (i := 0) dX5_layPlan_67 rfl rfl ?_
            refine a_aload_n (pc := 68) (i := 0) dX5_layPlan_68 rfl rfl ?_
            refine a_getI (pc := 69) (ci := 5) (k := 24) dX5_layPlan_69 (lf_RX5_244 rfl) (by decide) rfl rfl (lt90 hn5 (shK_lt (show shK 66 = _ from rfl))) ?_
            refine a_top (show (.int (hI H 66 24) : Value) = .int (nI m) from congrArg Value.int hw) ?_
            refine a_yV (pc := 72) (as := [.int (nI m)]) (b := 66) (ci := 5) dX5_layPlan_72 (lc_RX5_250 rfl) ceX5_plansBy rfl (lt90 hn5 (shK_lt (show shK 66 = _ from rfl))) (s5_plansBy (d := d) c5 g r5 (by omega) (by omega) nd5) rfl rfl (Nat.le_of_ble_eq_true rfl) PByR_n (fun bb H6 q6 => ?_)
            obtain ⟨⟨f6, k6⟩, iff6, win6⟩ := q6
            have c6 := c5.fr f6
            have hn6 := c6.1
            have w6 : hI H6 66 24 = nI m := (k6 24 (by omega)).trans hw
            have hk6 : K24 h H6 := fun j h1 h2 => (k6 j h2).trans (hk j h1 h2)
            refine b_if_ne (pc := 75) (tgt := 91) dX5_layPlan_75 (by decide) (fun c75 => ?_) (fun c75 => ?_)
            · obtain ⟨l, g1, g2, g3⟩ := win6 c75
              have hbp : BP s noA l := GE_BP (fun l1 h1 => by have := hmin l1 h1; rw [g2]; omega) g1
              have hbr : bestR s = nI m := by rw [hbn (by omega), show bestN s = _ from cif_t ⟨l, hbp⟩, bestL_eq hbp, g2]
              refine a_aload_n (pc := 91) (i := 0) dX5_layPlan_91 rfl rfl ?_
              refine a_getI (pc := 92) (ci := 5) (k := 24) dX5_layPlan_92 (lf_RX5_244 rfl) (by decide) rfl rfl (lt90 hn6 (shK_lt (show shK 66 = _ from rfl))) ?_
              refine a_top (show (.int (hI H6 66 24) : Value) = .int (nI m) from congrArg Value.int w6) ?_
              exact a_ireturn (pc := 95) dX5_layPlan_95 rfl rfl (⟨_, rfl, hbr.symm, ⟨fs3.trans ((hf.trans f6).mono (by intro a ha; simp at ha ⊢; omega)), hk6⟩, by rw [hbr]; exact w6, fun _ l2 h2 => by rw [BP_eq h2 hbp]; exact g3⟩)
            · have hlt : m < lb.length := by
                rcases Nat.lt_or_ge m lb.length with z | z
                · exact z
                · exact absurd (iff6.mpr ⟨lb, hlb, Nat.le_antisymm z hm⟩) c75
              refine a_aload_n (pc := 78) (i := 0) dX5_layPlan_78 rfl rfl ?_
              refine a_dup (pc := 79) dX5_layPlan_79 rfl ?_
              refine a_getI (pc := 80) (ci := 5) (k := 24) dX5_layPlan_80 (lf_RX5_244 rfl) (by decide) rfl rfl (lt90 hn6 (shK_lt (show shK 66 = _ from rfl))) ?_
              refine a_top (show (.int (hI H6 66 24) : Value) = .int (nI m) from congrArg Value.int w6) ?_
              refine a_iconst (pc := 83) (v := nI 1) dX5_layPlan_83 (by decide) ?_
              refine n_iadd (pc := 84) dX5_layPlan_84 ?_
              refine a_putI (pc := 85) (ci := 5) (k := 24) dX5_layPlan_85 (lf_RX5_244 rfl) (by decide) (Or.inl rfl) rfl (lt90 hn6 (shK_lt (show shK 66 = _ from rfl))) rfl ?_
              refine a_goto (pc := 88) (tgt := 67) dX5_layPlan_88 (by decide) ?_
              exact ih (m + 1) _ hlt ((hf.trans f6).sI (by simp)) (fun j h1 h2 => by rw [rd1 (by omega)]; exact hk6 j h1 h2) (rd2 ⟨rfl, rfl⟩) (Nat.lt_of_lt_of_le (Nat.sub_lt_sub_left hlt (Nat.lt_succ_self m)) (Nat.le_of_lt_succ hz))
        exact LP (lb.length + 1) (f 0) H4 hf0 f4 k4 w4 (by omega)
      · have hbp : BP s noA [] := ⟨0, fun _ _ => Nat.zero_le _, c45.symm, rfl⟩
        have hbr : bestR s = nI 0 := by rw [hbn (by omega), show bestN s = _ from cif_t ⟨[], hbp⟩, bestL_eq hbp]; rfl
        refine a_aload_n (pc := 48) (i := 0) dX5_layPlan_48 rfl rfl ?_
        refine a_getI (pc := 49) (ci := 5) (k := 24) dX5_layPlan_49 (lf_RX5_244 rfl) (by decide) rfl rfl (lt90 hn2 (shK_lt (show shK 66 = _ from rfl))) ?_
        refine a_top (show (.int (hI H2 66 24) : Value) = .int (nI 0) from congrArg Value.int w2) ?_
        exact a_ireturn (pc := 52) dX5_layPlan_52 rfl rfl (⟨_, rfl, hbr.symm, ⟨fs2, k2⟩, by rw [hbr]; exact w2, fun _ l2 h2 => by rw [BP_eq h2 hbp]; exact fun i hi => absurd hi (Nat.not_lt_zero _)⟩)
    · have hno : ¬ ∃ l, plV s 0 noA l := fun z => by have := (no_miss g).mpr z; omega
      have hbr : bestR s = -1 := by rw [hbn (by omega)]; exact cif_f (fun ⟨l, hl⟩ => hno ⟨l, BP_V hl⟩)
      refine a_iconst (pc := 24) (v := (-1)) dX5_layPlan_24 (by decide) ?_
      refine a_goto (pc := 25) (tgt := 29) dX5_layPlan_25 (by decide) ?_
      refine a_putI (pc := 29) (ci := 5) (k := 24) dX5_layPlan_29 (lf_RX5_244 rfl) (by decide) (Or.inl rfl) rfl (lt90 hn1 (shK_lt (show shK 66 = _ from rfl))) rfl ?_
      refine a_aload_n (pc := 32) (i := 0) dX5_layPlan_32 rfl rfl ?_
      refine a_getI (pc := 33) (ci := 5) (k := 24) dX5_layPlan_33 (lf_RX5_244 rfl) (by decide) rfl rfl (lt90 hn1 (shK_lt (show shK 66 = _ from rfl))) ?_
      refine a_top (show (.int (hI (sI H1 66 24 ((-1))) 66 24) : Value) = .int (-1) from congrArg Value.int (rd2 ⟨rfl, rfl⟩)) ?_
      refine a_if_lt (pc := 36) (tgt := 48) dX5_layPlan_36 (by decide) (fun c36 => ?_) (fun c36 => ?_)
      · skip
        refine a_aload_n (pc := 48) (i := 0) dX5_layPlan_48 rfl rfl ?_
        refine a_getI (pc := 49) (ci := 5) (k := 24) dX5_layPlan_49 (lf_RX5_244 rfl) (by decide) rfl rfl (lt90 hn1 (shK_lt (show shK 66 = _ from rfl))) ?_
        refine a_top (show (.int (hI (sI H1 66 24 ((-1))) 66 24) : Value) = .int (-1) from congrArg Value.int (rd2 ⟨rfl, rfl⟩)) ?_
        exact a_ireturn (pc := 52) dX5_layPlan_52 rfl rfl (⟨_, rfl, hbr.symm, ⟨fs1.trans (Fr.refl.sI (by simp)), fun j h1 h2 => by rw [rd1 (by omega)]; exact k1 j h1 h2⟩, by rw [hbr]; exact rd2 ⟨rfl, rfl⟩, fun _ l2 h2 => absurd ⟨l2, BP_V h2⟩ hno⟩)
      · exact absurd (by decide) c36
  · skip
    refine a_bipush (pc := 12) (v := (-2)) dX5_layPlan_12 (by decide) ?_
    refine a_goto (pc := 14) (tgt := 29) dX5_layPlan_14 (by decide) ?_
    refine a_putI (pc := 29) (ci := 5) (k := 24) dX5_layPlan_29 (lf_RX5_244 rfl) (by decide) (Or.inl rfl) rfl (lt90 hn (shK_lt (show shK 66 = _ from rfl))) rfl ?_
    refine a_aload_n (pc := 32) (i := 0) dX5_layPlan_32 rfl rfl ?_
    refine a_getI (pc := 33) (ci := 5) (k := 24) dX5_layPlan_33 (lf_RX5_244 rfl) (by decide) rfl rfl (lt90 hn (shK_lt (show shK 66 = _ from rfl))) ?_
    refine a_top (show (.int (hI (sI h 66 24 ((-2))) 66 24) : Value) = .int (-2) from congrArg Value.int (rd2 ⟨rfl, rfl⟩)) ?_
    refine a_if_lt (pc := 36) (tgt := 48) dX5_layPlan_36 (by decide) (fun c36 => ?_) (fun c36 => ?_)
    · skip
      refine a_aload_n (pc := 48) (i := 0) dX5_layPlan_48 rfl rfl ?_
      refine a_getI (pc := 49) (ci := 5) (k := 24) dX5_layPlan_49 (lf_RX5_244 rfl) (by decide) rfl rfl (lt90 hn (shK_lt (show shK 66 = _ from rfl))) ?_
      refine a_top (show (.int (hI (sI h 66 24 ((-2))) 66 24) : Value) = .int (-2) from congrArg Value.int (rd2 ⟨rfl, rfl⟩)) ?_
      exact a_ireturn (pc := 52) dX5_layPlan_52 rfl rfl (⟨_, rfl, (hb8 c9).symm, ⟨Fr.refl.sI (by simp), fun j h1 h2 => by rw [rd1 (by omega)]⟩, by rw [hb8 c9]; exact rd2 ⟨rfl, rfl⟩, fun z => absurd z (by omega)⟩)
    · exact absurd (by decide) c36
