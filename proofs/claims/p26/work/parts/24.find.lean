/-! the class Matching -/
/-- ends with a truth b, and R b -/
def Qb (R : Prop → AH → Prop) : Res → AH → Prop := fun r h2 => ∃ b : Prop, r = .inl (some (.int (bi b))) ∧ R b h2
theorem Qb_nt {R : Prop → AH → Prop} : ∀ E h2, ¬ Qb R (.inr E) h2 := fun _ _ q => by obtain ⟨b, e, -⟩ := q; cases e
theorem kb_of {X : XT} {mt : MT} {d kc ks pc : Nat} {ls : List (Nat × Value)} {st : List Value} {Q : Res → AH → Prop} {R : Prop → AH → Prop} (kk : ∀ b h2, R b h2 → AW X mt d kc ks pc ls (.int (bi b) :: st) h2 Q) : ∀ v2 h2, Qb R (.inl v2) h2 → AW X mt d kc ks pc ls (v2.toList ++ st) h2 Q := by
  intro v2 h2 q
  obtain ⟨b, e1, e2⟩ := q
  cases e1
  exact kk b h2 e2
theorem hokb_of {R : Prop → AH → Prop} {h : AH} {P : Prop} (hR : ∀ b h2, R b h2 → hN h2 = hN h) : (∀ v2 h2, Qb R (.inl v2) h2 → hN h2 = hN h) ∨ P := Or.inl fun v2 h2 q => by obtain ⟨b, -, q2⟩ := q; exact hR b h2 q2
section RW24
variable {X : XT} {mt : MT} {d kc ks pc : Nat} {ls ls' : List (Nat × Value)} {st : List Value} {h : AH} {Q : Res → AH → Prop}
theorem a_yV {mt' : MT} {idx n b ci : Nat} {as stk : List Value} {R : Prop → AH → Prop} (hd : decode (mB mt) pc = .ok (.invokevirtual idx, 3)) (hl : Cond.methodLink (mN mt).cls idx (mN mt') ∈ lw_tb2 ∧ Cond.instanceMethod (mN mt') ∈ lw_tb2 ∧ Cond.selects (cR ci) (mN mt') (mN mt') ∈ lw_tb2) (hce : CE mt' n) (hs : shK b = some (.inl ci)) (hb : b < hN h) (hc' : AC mt' d 0 0 (.ref b :: as) h (Qb R)) (hn : as.length = n) (hstk : stk = as.reverse ++ .ref b :: st) (hst : (st.map fun v => v.category).sum ≤ 8) (hR : ∀ b h2, R b h2 → hN h2 = hN h) (kk : ∀ b h2, R b h2 → AW X mt (d + 1) kc ks (pc + 3) ls (.int (bi b) :: st) h2 Q) : AW X mt (d + 1) kc ks pc ls stk h Q :=
  a_callV (mc := 0) (ms := 0) hd hl hce hs hb hc' hn hstk hst Qb_nt (hokb_of hR) (kb_of kk)
theorem a_yVN {mt' : MT} {host : String} {idx n b ci : Nat} {as stk : List Value} {R : Prop → AH → Prop} (hd : decode (mB mt) pc = .ok (.invokevirtual idx, 3)) (hl : Cond.methodLinkNest (mN mt).cls idx (mN mt') host ∈ tables_1 ∧ Cond.instanceMethod (mN mt') ∈ lw_tb2 ∧ Cond.selects (cR ci) (mN mt') (mN mt') ∈ lw_tb2) (hce : CE mt' n) (hs : shK b = some (.inl ci)) (hb : b < hN h) (hc' : AC mt' d 0 0 (.ref b :: as) h (Qb R)) (hn : as.length = n) (hstk : stk = as.reverse ++ .ref b :: st) (hst : (st.map fun v => v.category).sum ≤ 8) (hR : ∀ b h2, R b h2 → hN h2 = hN h) (kk : ∀ b h2, R b h2 → AW X mt (d + 1) kc ks (pc + 3) ls (.int (bi b) :: st) h2 Q) : AW X mt (d + 1) kc ks pc ls stk h Q :=
  a_callVN (mc := 0) (ms := 0) hd hl hce hs hb hc' hn hstk hst Qb_nt (hokb_of hR) (kb_of kk)
end RW24
def shMt (m : Nat) : Prop := m = 13 ∨ m = 17
theorem shMt_sh {m : Nat} (h : shMt m) : shK m = some (.inl 0) ∧ shK (m + 1) = some (.inr (3, 24)) ∧ shK (m + 2) = some (.inr (0, 48)) := by
  rcases h with rfl | rfl <;> exact ⟨rfl, rfl, rfl⟩
theorem CB.m {h : AH} (c : CB h) {m : Nat} (hm : shMt m) : hR h m 0 = some (m + 1) ∧ hR h m 1 = some (m + 2) := by
  rcases hm with rfl | rfl
  · exact c.2.2.2.2.1
  · exact c.2.2.2.2.2.1
def enc : Option Nat → Int32
  | none => -1
  | some v => nI v
theorem enc_m1 {w : Option Nat} (h : ∀ v, w = some v → v < 24) : enc w = -1 ↔ w = none := by
  cases w with
  | none => exact ⟨fun _ => rfl, fun _ => rfl⟩
  | some v =>
    refine ⟨fun e => ?_, fun e => by cases e⟩
    have h1 := h v rfl
    have e : nI v = -1 := e
    exact absurd (show nI v < 0 by rw [e]; decide) (nI_pos (by omega))
/-- the object at m holds these choices, these cells tried, these holders -/
def MS (h : AH) (m g : Nat) (C : Nat → Nat → Prop) (T : Nat → Prop) (W : Nat → Option Nat) : Prop := hL h m 3 = mkL T ∧ (∀ j, j ≤ g → hL h (m + 1) j = mkL (C j)) ∧ ∀ c, c < 48 → hI h (m + 2) c = enc (W c)
def FP (m g u p : Nat) (C : Nat → Nat → Prop) (T : Nat → Prop) (W : Nat → Option Nat) (h : AH) : Prop := (CB h ∧ g < 24 ∧ u ≤ g) ∧ MW g C W ∧ (∀ c, W c = some u → T c) ∧ p ≤ cnt (fun c => T c ∧ W c ≠ none) 48 ∧ MS h m g C T W
def FR (m g u : Nat) (C : Nat → Nat → Prop) (T : Nat → Prop) (W : Nat → Option Nat) (h : AH) (b : Prop) (h2 : AH) : Prop := ∃ T2 W2, Fr [m, m + 2] h h2 ∧ hI h2 m = hI h m ∧ MS h2 m g C T2 W2 ∧ (b → TT C T W u W2) ∧ (¬ b → W2 = W ∧ FT C T W u T2)
theorem FR_n {m g u : Nat} {C : Nat → Nat → Prop} {T : Nat → Prop} {W : Nat → Option Nat} {h : AH} : ∀ b h2, FR m g u C T W h b h2 → hN h2 = hN h := fun b h2 ⟨_, _, f, _⟩ => f.1
theorem MS_wset {h : AH} {m g i u : Nat} {C : Nat → Nat → Prop} {T : Nat → Prop} {W : Nat → Option Nat} (s : MS h m g C T W) : MS (sI h (m + 2) i (nI u)) m g C T (wset W i u) := ⟨s.1, s.2.1, fun c hc => by
  rw [hI_sI]
  by_cases e : c = i
  · rw [if_pos ⟨rfl, e⟩, e, wset_eq]; rfl
  · rw [if_neg (fun z => e z.2), wset_ne e]; exact s.2.2 c hc⟩
theorem row_ne {h : AH} {m i : Nat} {x : Int32} : hI (sI h (m + 2) i x) m = hI h m := up2_row (by omega)
set_option maxHeartbeats 4000000 in
set_option maxRecDepth 100000 in
theorem sp_canMove {d k m g u p : Nat} {C : Nat → Nat → Prop} {T : Nat → Prop} {W : Nat → Option Nat} {h : AH} (hm : shMt m) (hpk : p + 1 + k = 24) (hp : FP m g u (p + 1) C T W h) (IH : FP m g u (p + 1) C T W h → AC mX0_findCell d 0 0 [.ref m, .int (nI u), .int (nI (p + 1))] h (Qb (FR m g u C T W h))) : AC mX0_canMove (d + 1) 0 0 [.ref m, .int (nI u), .int (nI p)] h (Qb (FR m g u C T W h)) := by
  have hn := hp.1.1.1
  have hg := hp.1.2.1
  have hu := hp.1.2.2
  have hk := shMt_sh hm
  refine AC.of (by decide) rfl (Nat.le_of_ble_eq_true rfl) (fun X => ?_)
  show AW X mX0_canMove (d + 1) 0 0 0 [(0, .ref m), (1, .int (nI u)), (2, .int (nI p))] [] h (Qb (FR m g u C T W h))
  refine a_iload_n (pc := 0) (i := 2) dX0_canMove_0 rfl rfl ?_
  refine a_bipush (pc := 1) (v := nI 24) dX0_canMove_1 (by decide) ?_
  refine n_icmp_ge (pc := 3) (tgt := 21) dX0_canMove_3 (by decide) (by omega) (by omega) (fun c3 => ?_) (fun c3 => ?_)
  · exact absurd c3 (by omega)
  · skip
    refine a_aload_n (pc := 6) (i := 0) dX0_canMove_6 rfl rfl ?_
    refine a_iload_n (pc := 7) (i := 1) dX0_canMove_7 rfl rfl ?_
    refine a_iload_n (pc := 8) (i := 2) dX0_canMove_8 rfl rfl ?_
    refine a_iconst (pc := 9) (v := nI 1) dX0_canMove_9 (by decide) ?_
    refine n_iadd (pc := 10) dX0_canMove_10 ?_
    refine a_yV (pc := 11) (as := [.int (nI u), .int (nI (p + 1))]) (b := m) (ci := 0) dX0_canMove_11 (lc_RX0_33 rfl) ceX0_findCell hk.1 (lt90 hn (shK_lt hk.1)) (IH hp) rfl rfl (Nat.le_of_ble_eq_true rfl) FR_n (fun b1 h2 q2 => ?_)
    refine b_if_eq (pc := 14) (tgt := 21) dX0_canMove_14 (by decide) (fun c14 => ?_) (fun c14 => ?_)
    · skip
      refine a_iconst (pc := 21) (v := nI 0) dX0_canMove_21 (by decide) ?_
      exact a_ireturn (pc := 22) dX0_canMove_22 rfl rfl (⟨b1, by rw [bi_f c14]; rfl, q2⟩)
    · skip
      refine a_iconst (pc := 17) (v := nI 1) dX0_canMove_17 (by decide) ?_
      refine a_goto (pc := 18) (tgt := 22) dX0_canMove_18 (by decide) ?_
      exact a_ireturn (pc := 22) dX0_canMove_22 rfl rfl (⟨b1, by rw [bi_t c14]; rfl, q2⟩)
set_option maxHeartbeats 4000000 in
set_option maxRecDepth 100000 in
theorem sp_findCell {d m : Nat} (hm : shMt m) : ∀ (k : Nat) {g u p : Nat} {C : Nat → Nat → Prop} {T : Nat → Prop} {W : Nat → Option Nat} {h : AH}, p + k = 24 → FP m g u p C T W h → AC mX0_findCell (d + 2 * k) 0 0 [.ref m, .int (nI u), .int (nI p)] h (Qb (FR m g u C T W h))
  | 0, g, u, p, C, T, W, h, hpk, hp => absurd (Nat.le_trans hp.2.2.2.1 (held_le hp.2.1)) (by have := hp.1.2.1; omega)
  | k + 1, g, u, p, C, T, W, h, hpk, hp => by
    have hn := hp.1.1.1
    have hg := hp.1.2.1
    have hu := hp.1.2.2
    have hk := shMt_sh hm
    have IH := @sp_findCell d m hm k
    show AC mX0_findCell (d + 2 * k + 1 + 1) 0 0 [.ref m, .int (nI u), .int (nI p)] h (Qb (FR m g u C T W h))
    refine AC.of (by decide) rfl (Nat.le_of_ble_eq_true rfl) (fun X => ?_)
    show AW X mX0_findCell (d + 2 * k + 1 + 1) 0 0 0 [(0, .ref m), (1, .int (nI u)), (2, .int (nI p))] [] h (Qb (FR m g u C T W h))
    have LP : ∀ (fu : Nat) (i : Nat) (T2 : Nat → Prop) (H : AH), i ≤ 48 → Fr [m, m + 2] h H → hI H m = hI h m → MS H m g C T2 W → FLo C T W u i T2 → 48 - i < fu → AW X mX0_findCell (d + 2 * k + 1 + 1) 0 0 14 [(0, .ref m), (1, .int (nI u)), (2, .int (nI p)), (3, .int (nI i))] [] H (Qb (FR m g u C T W h)) := by
      intro fu
      induction fu with
      | zero => intro i T2 H hi hf hgv hs hl hz; exact absurd hz (Nat.not_lt_zero _)
      | succ fu ih =>
        intro i T2 H hi hf hgv hs hl hz
        have hc := hp.1.1.fr hf
        have hn2 := hc.1
        refine a_iload_n (pc := 14) (i := 3) dX0_findCell_14 rfl rfl ?_
        refine a_bipush (pc := 15) (v := nI 48) dX0_findCell_15 (by decide) ?_
        refine n_icmp_ge (pc := 17) (tgt := 98) dX0_findCell_17 (by decide) (by omega) (by omega) (fun c17 => ?_) (fun c17 => ?_)
        · have e : i = 48 := by omega
          subst e
          refine a_iconst (pc := 98) (v := nI 0) dX0_findCell_98 (by decide) ?_
          exact a_ireturn (pc := 99) dX0_findCell_99 rfl rfl (⟨False, by rw [bi_f id]; rfl, T2, W, hf, hgv, hs, fun z => z.elim, fun _ => ⟨rfl, hl⟩⟩)
        · skip
          refine a_lconst (pc := 20) (v := 1) dX0_findCell_20 (by decide) ?_
          refine a_iload_n (pc := 21) (i := 3) dX0_findCell_21 rfl rfl ?_
          refine a_lshl (pc := 22) dX0_findCell_22 ?_
          refine a_top (show (.long (1 <<< ((nI i).toInt64 &&& 63)) : Value) = .long (mkL (fun b => b = i)) from congrArg Value.long (mkL_shl (by omega))) ?_
          refine a_lstore (pc := 23) (i := 4) (ls' := [(0, .ref m), (1, .int (nI u)), (2, .int (nI p)), (3, .int (nI i)), (4, .long (mkL (fun b => b = i)))]) dX0_findCell_23 (by decide) rfl ?_
          refine a_aload_n (pc := 25) (i := 0) dX0_findCell_25 rfl rfl ?_
          refine a_getR (pc := 26) (ci := 0) (k := 0) (b := m + 1) dX0_findCell_26 (lf_RX0_9 rfl) (by decide) rfl hk.1 (lt90 hn2 (shK_lt hk.1)) (hc.m hm).1 ?_
          refine a_iload_n (pc := 29) (i := 1) dX0_findCell_29 rfl rfl ?_
          refine a_lald (pc := 30) (j := u) dX0_findCell_30 hk.2.1 (lt90 hn2 (shK_lt hk.2.1)) rfl (by omega) ?_
          refine a_top (show (.long (hL H (m + 1) u) : Value) = .long (mkL (C u)) from congrArg Value.long (hs.2.1 u hu)) ?_
          refine a_aload_n (pc := 31) (i := 0) dX0_findCell_31 rfl rfl ?_
          refine a_getL (pc := 32) (ci := 0) (k := 3) dX0_findCell_32 (lf_RX0_29 rfl) (by decide) rfl hk.1 (lt90 hn2 (shK_lt hk.1)) ?_
          refine a_top (show (.long (hL H m 3) : Value) = .long (mkL T2) from congrArg Value.long hs.1) ?_
          refine a_ldc2 (pc := 35) (v := (-1)) dX0_findCell_35 (lj_RX0_37 rfl) ?_
          refine a_lxor (pc := 38) dX0_findCell_38 ?_
          refine a_top (show (.long ((mkL T2) ^^^ ((-1))) : Value) = .long (mkL (fun b => ¬ T2 b)) from congrArg Value.long (mkL_not _)) ?_
          refine a_land (pc := 39) dX0_findCell_39 ?_
          refine a_top (show (.long ((mkL (C u)) &&& (mkL (fun b => ¬ T2 b))) : Value) = .long (mkL (fun b => C u b ∧ ¬ T2 b)) from congrArg Value.long (mkL_and _ _)) ?_
          refine a_lload (pc := 40) (i := 4) dX0_findCell_40 rfl ?_
          refine a_land (pc := 42) dX0_findCell_42 ?_
          refine a_top (show (.long ((mkL (fun b => C u b ∧ ¬ T2 b)) &&& (mkL (fun b => b = i))) : Value) = .long (mkL (fun b => (C u b ∧ ¬ T2 b) ∧ b = i)) from congrArg Value.long (mkL_and _ _)) ?_
          refine a_lconst (pc := 43) (v := 0) dX0_findCell_43 (by decide) ?_
          refine a_lcmp (pc := 44) dX0_findCell_44 ?_
          refine a_if_eq (pc := 45) (tgt := 92) dX0_findCell_45 (by decide) (fun c45 => ?_) (fun c45 => ?_)
          · skip
            refine n_iinc (pc := 92) (k := 1) (ls' := [(0, .ref m), (1, .int (nI u)), (2, .int (nI p)), (3, .int (nI (i + 1))), (4, .long (mkL (fun b => b = i)))]) dX0_findCell_92 rfl (by decide) (by decide) rfl ?_
            refine a_goto (pc := 95) (tgt := 14) dX0_findCell_95 (by decide) ?_
            refine a_drop (ls' := [(0, .ref m), (1, .int (nI u)), (2, .int (nI p)), (3, .int (nI (i + 1)))]) (by simp) ?_
            exact ih (i + 1) T2 H (by omega) hf hgv hs (FLo_skip hl (fun q => Classical.byContradiction fun z => mkL_eq0.mp ((lg_cmp_eq _ _).mp c45) i (by omega) ⟨⟨q, z⟩, rfl⟩)) (by omega)
          · have hcu : C u i ∧ ¬ T2 i := Classical.byContradiction fun z => c45 ((lg_cmp_eq _ _).mpr (mkL_eq0.mpr (fun b _ q => z (q.2 ▸ q.1))))
            refine a_aload_n (pc := 48) (i := 0) dX0_findCell_48 rfl rfl ?_
            refine a_dup (pc := 49) dX0_findCell_49 rfl ?_
            refine a_getL (pc := 50) (ci := 0) (k := 3) dX0_findCell_50 (lf_RX0_29 rfl) (by decide) rfl hk.1 (lt90 hn2 (shK_lt hk.1)) ?_
            refine a_top (show (.long (hL H m 3) : Value) = .long (mkL T2) from congrArg Value.long hs.1) ?_
            refine a_lload (pc := 53) (i := 4) dX0_findCell_53 rfl ?_
            refine a_lor (pc := 55) dX0_findCell_55 ?_
            refine a_top (show (.long ((mkL T2) ||| (mkL (fun b => b = i))) : Value) = .long (mkL (fun b => T2 b ∨ b = i)) from congrArg Value.long (mkL_or _ _)) ?_
            refine a_putL (pc := 56) (ci := 0) (k := 3) dX0_findCell_56 (lf_RX0_29 rfl) (by decide) rfl hk.1 (lt90 hn2 (shK_lt hk.1)) rfl ?_
            obtain ⟨H1, hH1⟩ : ∃ H1, H1 = sL H m 3 (mkL (fun b => T2 b ∨ b = i)) := ⟨_, rfl⟩
            have hf1 : Fr [m, m + 2] h H1 := by rw [hH1]; exact hf.sL (by simp)
            have hg1 : hI H1 m = hI h m := by rw [hH1]; exact hgv
            have hs1 : MS H1 m g C (fun b => T2 b ∨ b = i) W := by rw [hH1]; exact ⟨by rw [hL_sL, if_pos ⟨rfl, rfl⟩], fun j hj => by rw [hL_sL, if_neg (by omega)]; exact hs.2.1 j hj, hs.2.2⟩
            refine a_heap (h' := H1) hH1.symm ?_
            have hc1 := hp.1.1.fr hf1
            have hn3 := hc1.1
            refine a_aload_n (pc := 59) (i := 0) dX0_findCell_59 rfl rfl ?_
            refine a_getR (pc := 60) (ci := 0) (k := 1) (b := m + 2) dX0_findCell_60 (lf_RX0_15 rfl) (by decide) rfl hk.1 (lt90 hn3 (shK_lt hk.1)) (hc1.m hm).2 ?_
            refine a_iload_n (pc := 63) (i := 3) dX0_findCell_63 rfl rfl ?_
            refine a_iald (pc := 64) (j := i) dX0_findCell_64 hk.2.2 (lt90 hn3 (shK_lt hk.2.2)) rfl (by omega) ?_
            refine a_top (show (.int (hI H1 (m + 2) i) : Value) = .int (enc (W i)) from congrArg Value.int (hs1.2.2 i c17)) ?_
            refine a_iconst (pc := 65) (v := (-1)) dX0_findCell_65 (by decide) ?_
            refine a_icmp_eq (pc := 66) (tgt := 83) dX0_findCell_66 (by decide) (fun c66 => ?_) (fun c66 => ?_)
            · have hw : W i = none := (enc_m1 (fun v hv => by have := (hp.2.1.2 i v hv).1.1; omega)).mp c66
              refine a_aload_n (pc := 83) (i := 0) dX0_findCell_83 rfl rfl ?_
              refine a_getR (pc := 84) (ci := 0) (k := 1) (b := m + 2) dX0_findCell_84 (lf_RX0_15 rfl) (by decide) rfl hk.1 (lt90 hn3 (shK_lt hk.1)) (hc1.m hm).2 ?_
              refine a_iload_n (pc := 87) (i := 3) dX0_findCell_87 rfl rfl ?_
              refine a_iload_n (pc := 88) (i := 1) dX0_findCell_88 rfl rfl ?_
              refine a_iast (pc := 89) (j := i) dX0_findCell_89 hk.2.2 (lt90 hn3 (shK_lt hk.2.2)) rfl (by omega) ?_
              refine a_iconst (pc := 90) (v := nI 1) dX0_findCell_90 (by decide) ?_
              exact a_ireturn (pc := 91) dX0_findCell_91 rfl rfl (⟨True, by rw [bi_t trivial]; rfl, _, wset W i u, hf1.sI (by simp), row_ne.trans hg1, MS_wset hs1, fun _ => TT_free hp.2.1 hp.2.2.1 (fun z => hcu.2 (hl.1 i z)) c17 hcu.1 hw, fun z => absurd trivial z⟩)
            · obtain ⟨v, hv⟩ : ∃ v, W i = some v := Option.ne_none_iff_exists'.mp (fun z => c66 ((enc_m1 (fun v hv => by have := (hp.2.1.2 i v hv).1.1; omega)).mpr z))
              have hvg := (hp.2.1.2 i v hv).1.1
              have hp1 : FP m g v (p + 1) C (fun b => T2 b ∨ b = i) W H1 := ⟨⟨hc1, hg, Nat.le_of_lt hvg⟩, hp.2.1, fun c hc2 => Or.inr (hp.2.1.1 c i v hc2 hv), Nat.le_trans (Nat.succ_le_succ hp.2.2.2.1) (cnt_lt c17 (fun b _ q => ⟨Or.inl (hl.1 b q.1), q.2⟩) (fun q => hcu.2 (hl.1 i q.1)) ⟨Or.inr rfl, by rw [hv]; exact Option.some_ne_none v⟩), hs1⟩
              refine a_aload_n (pc := 69) (i := 0) dX0_findCell_69 rfl rfl ?_
              refine a_aload_n (pc := 70) (i := 0) dX0_findCell_70 rfl rfl ?_
              refine a_getR (pc := 71) (ci := 0) (k := 1) (b := m + 2) dX0_findCell_71 (lf_RX0_15 rfl) (by decide) rfl hk.1 (lt90 hn3 (shK_lt hk.1)) (hc1.m hm).2 ?_
              refine a_iload_n (pc := 74) (i := 3) dX0_findCell_74 rfl rfl ?_
              refine a_iald (pc := 75) (j := i) dX0_findCell_75 hk.2.2 (lt90 hn3 (shK_lt hk.2.2)) rfl (by omega) ?_
              refine a_top (show (.int (hI H1 (m + 2) i) : Value) = .int (nI v) from congrArg Value.int ((hs1.2.2 i c17).trans (by rw [hv]; rfl))) ?_
              refine a_iload_n (pc := 76) (i := 2) dX0_findCell_76 rfl rfl ?_
              refine a_yV (pc := 77) (as := [.int (nI v), .int (nI p)]) (b := m) (ci := 0) dX0_findCell_77 (lc_RX0_39 rfl) ceX0_canMove hk.1 (lt90 hn3 (shK_lt hk.1)) (sp_canMove (d := d + 2 * k) (k := k) hm (by omega) hp1 (fun q => IH (by omega) q)) rfl rfl (Nat.le_of_ble_eq_true rfl) FR_n (fun b1 H2 q2 => ?_)
              obtain ⟨T3, W3, f3, g3, s3, t3, n3⟩ := q2
              have hc3 := hc1.fr f3
              have hn4 := hc3.1
              refine b_if_eq (pc := 80) (tgt := 92) dX0_findCell_80 (by decide) (fun c80 => ?_) (fun c80 => ?_)
              · obtain ⟨e3, ft⟩ := n3 c80
                subst e3
                refine n_iinc (pc := 92) (k := 1) (ls' := [(0, .ref m), (1, .int (nI u)), (2, .int (nI p)), (3, .int (nI (i + 1))), (4, .long (mkL (fun b => b = i)))]) dX0_findCell_92 rfl (by decide) (by decide) rfl ?_
                refine a_goto (pc := 95) (tgt := 14) dX0_findCell_95 (by decide) ?_
                refine a_drop (ls' := [(0, .ref m), (1, .int (nI u)), (2, .int (nI p)), (3, .int (nI (i + 1)))]) (by simp) ?_
                exact ih (i + 1) T3 H2 (by omega) (hf1.trans f3) (g3.trans hg1) s3 (FLo_step hl c17 hv ft) (by omega)
              · skip
                refine a_aload_n (pc := 83) (i := 0) dX0_findCell_83 rfl rfl ?_
                refine a_getR (pc := 84) (ci := 0) (k := 1) (b := m + 2) dX0_findCell_84 (lf_RX0_15 rfl) (by decide) rfl hk.1 (lt90 hn4 (shK_lt hk.1)) (hc3.m hm).2 ?_
                refine a_iload_n (pc := 87) (i := 3) dX0_findCell_87 rfl rfl ?_
                refine a_iload_n (pc := 88) (i := 1) dX0_findCell_88 rfl rfl ?_
                refine a_iast (pc := 89) (j := i) dX0_findCell_89 hk.2.2 (lt90 hn4 (shK_lt hk.2.2)) rfl (by omega) ?_
                refine a_iconst (pc := 90) (v := nI 1) dX0_findCell_90 (by decide) ?_
                exact a_ireturn (pc := 91) dX0_findCell_91 rfl rfl (⟨True, by rw [bi_t trivial]; rfl, T3, wset W3 i u, (hf1.trans f3).sI (by simp), row_ne.trans (g3.trans hg1), MS_wset s3, fun _ => TT_move (T1 := fun b => T2 b ∨ b = i) hp.2.1 hp.2.2.1 (fun b hb => Or.inl (hl.1 b hb)) (fun z => hcu.2 (hl.1 i z)) (Or.inr rfl) c17 hcu.1 hv (t3 c80), fun z => absurd trivial z⟩)
    refine a_iload_n (pc := 0) (i := 1) dX0_findCell_0 rfl rfl ?_
    refine n_if_lt (pc := 1) (tgt := 10) dX0_findCell_1 (by decide) (by omega) ?_
    refine a_iload_n (pc := 4) (i := 1) dX0_findCell_4 rfl rfl ?_
    refine a_bipush (pc := 5) (v := nI 24) dX0_findCell_5 (by decide) ?_
    refine n_icmp_lt (pc := 7) (tgt := 12) dX0_findCell_7 (by decide) (by omega) (by omega) (fun c7 => ?_) (fun c7 => ?_)
    · skip
      refine a_iconst (pc := 12) (v := nI 0) dX0_findCell_12 (by decide) ?_
      refine a_istore_n (pc := 13) (i := 3) (ls' := [(0, .ref m), (1, .int (nI u)), (2, .int (nI p)), (3, .int (nI 0))]) dX0_findCell_13 rfl (by decide) rfl ?_
      exact LP 49 0 T h (by omega) Fr.refl rfl hp.2.2.2.2 FLo_0 (by omega)
    · exact absurd c7 (by omega)
