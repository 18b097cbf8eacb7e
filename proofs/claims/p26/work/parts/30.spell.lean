/-! the class Planner: freeStrip, canSpell -/
/-- the planner stands ready for s -/
def PRf (h : AH) (s : SH) (f : Nat → Nat) : Prop := (hI h 16 5 = nI (sLen s) ∧ sLen s ≤ 8) ∧ (∀ q, q < 96 → hL h 21 q = mkL (fun b => qhas s q ∧ b = qcell s q)) ∧ (∀ k, k < sLen s → hL h 20 k = mkL (dMs s k)) ∧ (∀ k q, k < sLen s → q < 96 → hI h (23 + k) q = nI (qrun s k q)) ∧ (∀ k, k ≤ sLen s → hI h 31 k = nI (f k)) ∧ MSB s f ∧ ∀ k, f k < 1000
theorem PRf.fr {S : List Nat} {h h2 : AH} {s : SH} {f : Nat → Nat} (r : PRf h s f) (fr : Fr S h h2) (h5 : hI h2 16 5 = hI h 16 5) (hs : ∀ a, 20 ≤ a → a ≤ 31 → a ∉ S) : PRf h2 s f := by
  obtain ⟨⟨r1, r9⟩, r2, r3, r4, r5, r6⟩ := r
  have hL8 := r9
  refine ⟨⟨h5.trans r1, r9⟩, fun q hq => ?_, fun k hk => ?_, fun k q hk hq => ?_, fun k hk => ?_, r6⟩
  · rw [(fr.2.2 21 (hs _ (by omega) (by omega))).2]; exact r2 q hq
  · rw [(fr.2.2 20 (hs _ (by omega) (by omega))).2]; exact r3 k hk
  · rw [(fr.2.2 (23 + k) (hs _ (by omega) (by omega))).1]; exact r4 k q hk hq
  · rw [(fr.2.2 31 (hs _ (by omega) (by omega))).1]; exact r5 k hk
theorem shRow {k : Nat} (h : k < 8) : shK (23 + k) = some (.inr (0, 96)) := by
  rcases (show k = 0 ∨ k = 1 ∨ k = 2 ∨ k = 3 ∨ k = 4 ∨ k = 5 ∨ k = 6 ∨ k = 7 by omega) with rfl | rfl | rfl | rfl | rfl | rfl | rfl | rfl <;> rfl
/-- the strip, if it is one and free -/
def frS (s : SH) (k q n : Nat) (X : Nat → Prop) : Nat → Prop := fun b => (n ≤ qrun s k q ∧ ∀ b, pcl s q n b → ¬ X b) ∧ pcl s q n b
theorem frS_0 {s : SH} {k q n : Nat} {X : Nat → Prop} (h : ¬ (n ≤ qrun s k q ∧ ∀ b, pcl s q n b → ¬ X b)) : mkL (frS s k q n X) = 0 := mkL_eq0.mpr fun _ _ z => h z.1
theorem frS_1 {s : SH} {k q n : Nat} {X : Nat → Prop} (h : n ≤ qrun s k q ∧ ∀ b, pcl s q n b → ¬ X b) : mkL (frS s k q n X) = mkL (pcl s q n) := mkL_c fun _ _ => ⟨fun z => z.2, fun z => ⟨h, z⟩⟩
theorem pcl_step {s : SH} {q i : Nat} (hh : qhas s (q + i)) : mkL (pcl s q i) ||| mkL (fun b => qhas s (q + i) ∧ b = qcell s (q + i)) = mkL (pcl s q (i + 1)) := by
  rw [mkL_or]
  refine mkL_c fun b _ => ⟨fun z => ?_, fun ⟨j, h1, h2⟩ => ?_⟩
  · rcases z with ⟨j, h1, h2⟩ | e
    · exact ⟨j, by omega, h2⟩
    · exact ⟨i, by omega, e.2⟩
  · rcases Nat.lt_or_ge j i with z | z
    · exact Or.inl ⟨j, z, h2⟩
    · exact Or.inr ⟨hh, (show j = i by omega) ▸ h2⟩
theorem pcl_0 {s : SH} {q : Nat} : mkL (pcl s q 0) = 0 := mkL_eq0.mpr fun i _ ⟨q, h1, _⟩ => absurd h1 (by omega)
theorem pcl_lt {s : SH} (g : GS s) {k q n b : Nat} (hq : q < 96) (hr : n ≤ qrun s k q) (h : pcl s q n b) : b < 48 := by
  obtain ⟨j, hj, rfl⟩ := h
  obtain ⟨-, h2⟩ := qrun_ok hr
  have h3 := h2 (by omega)
  have gw := g.1
  unfold qcell
  split <;> omega
/-- a mask of letters -/
theorem tst8 : ∀ x : Fin 256, ∀ k : Fin 8, ((nI x.val &&& (nI 1 <<< (nI k.val &&& 31)) = 0) ↔ x.val.testBit k.val = false) ∧ (nI x.val ||| (nI 1 <<< (nI k.val &&& 31))) = nI (x.val ||| 2 ^ k.val) := by decide +kernel
theorem msk_in {A : Nat → Prop} {k : Nat} (hk : k < 8) : (nI (mkN A 8) &&& (nI 1 <<< (nI k &&& 31)) = 0) ↔ ¬ A k := by
  have h := (tst8 ⟨mkN A 8, mkN_lt A 8⟩ ⟨k, hk⟩).1
  refine h.trans ?_
  show (mkN A 8).testBit k = false ↔ ¬ A k
  have h2 := mkN_bit A 8 k
  constructor
  · intro e z; rw [h2.mpr ⟨hk, z⟩] at e; cases e
  · intro z; cases e : (mkN A 8).testBit k
    · rfl
    · exact absurd (h2.mp e).2 z
theorem mkN_c {A B : Nat → Prop} : ∀ n, (∀ i, i < n → (A i ↔ B i)) → mkN A n = mkN B n
  | 0, _ => rfl
  | n + 1, h => by
    show mkN A n + bN (A n) * 2 ^ n = mkN B n + bN (B n) * 2 ^ n
    rw [mkN_c n (fun i hi => h i (by omega)), bN_c (h n (by omega))]
theorem msk_or {A : Nat → Prop} {k : Nat} (hk : k < 8) : nI (mkN A 8) ||| (nI 1 <<< (nI k &&& 31)) = nI (mkN (fun i => A i ∨ i = k) 8) := by
  have h : nI (mkN A 8) ||| (nI 1 <<< (nI k &&& 31)) = nI (mkN A 8 ||| 2 ^ k) := (tst8 ⟨mkN A 8, mkN_lt A 8⟩ ⟨k, hk⟩).2
  rw [h]
  congr 1
  apply Nat.eq_of_testBit_eq
  intro i
  rw [Nat.testBit_or, Nat.testBit_two_pow]
  rw [Bool.eq_iff_iff, Bool.or_eq_true, decide_eq_true_iff, mkN_bit, mkN_bit]
  constructor
  · rintro (⟨h1, h2⟩ | h1)
    · exact ⟨h1, Or.inl h2⟩
    · exact ⟨by omega, Or.inr h1.symm⟩
  · rintro ⟨h1, h2 | h2⟩
    · exact Or.inl ⟨h1, h2⟩
    · exact Or.inr h2.symm
theorem msk_0 : nI 0 = nI (mkN (fun _ => False) 8) := by
  have e : mkN (fun _ => False) 8 = 0 := by
    apply Nat.eq_of_testBit_eq
    intro i
    rw [Nat.zero_testBit]
    cases h : (mkN (fun _ => False) 8).testBit i
    · rfl
    · exact ((mkN_bit (fun _ => False) 8 i).mp h).2.elim
  rw [e]
/-- letters by the numbers that the matching gives them -/
def CPR (O : Nat → Prop) (D : Nat → Nat → Prop) (i g : Nat) (C : Nat → Nat → Prop) : Prop := g = cnt O i ∧ ∀ k, k < i → O k → C (cnt O k) = D k
theorem cnt_le_mono {O : Nat → Prop} {i : Nat} : ∀ {j : Nat}, i ≤ j → cnt O i ≤ cnt O j
  | 0, h => by rw [show i = 0 by omega]; exact Nat.le_refl _
  | j + 1, h => by
    rcases Nat.lt_or_ge i (j + 1) with z | z
    · exact Nat.le_trans (cnt_le_mono (show i ≤ j by omega)) (Nat.le_add_right _ _)
    · rw [show i = j + 1 by omega]; exact Nat.le_refl _
theorem cnt_lt_of {O : Nat → Prop} {i j : Nat} (h : i < j) (hi : O i) : cnt O i < cnt O j := by
  have := cnt_le_mono (O := O) (show i + 1 ≤ j from h)
  rw [cnt_yes hi] at this
  omega
theorem cnt_inv {O : Nat → Prop} {j : Nat} : ∀ {i : Nat}, j < cnt O i → ∃ k, k < i ∧ O k ∧ cnt O k = j
  | 0, h => absurd h (Nat.not_lt_zero _)
  | i + 1, h => by
    rcases Classical.em (O i) with z | z
    · rw [cnt_yes z] at h
      rcases Nat.lt_or_ge j (cnt O i) with y | y
      · obtain ⟨k, h1, h2⟩ := cnt_inv y; exact ⟨k, by omega, h2⟩
      · exact ⟨i, by omega, z, by omega⟩
    · rw [cnt_no z] at h
      obtain ⟨k, h1, h2⟩ := cnt_inv h; exact ⟨k, by omega, h2⟩
theorem CPR_no {O : Nat → Prop} {D C : Nat → Nat → Prop} {i g : Nat} (h : CPR O D i g C) (hi : ¬ O i) : CPR O D (i + 1) g C := ⟨h.1.trans (cnt_no hi).symm, fun k hk ho => h.2 k (by
  rcases Nat.lt_or_ge k i with z | z
  · exact z
  · exact absurd ((show k = i by omega) ▸ ho) hi) ho⟩
theorem CPR_yes {O : Nat → Prop} {D C : Nat → Nat → Prop} {i g : Nat} (h : CPR O D i g C) (hi : O i) : CPR O D (i + 1) (g + 1) (cset C g (D i)) := by
  refine ⟨by rw [cnt_yes hi, h.1], fun k hk ho => ?_⟩
  rcases Nat.lt_or_ge k i with z | z
  · have := cnt_lt_of z ho
    rw [cset_ne (by rw [h.1]; omega)]; exact h.2 k z ho
  · have e : k = i := by omega
    subst e; rw [← h.1, cset_eq]
theorem cwP_lt {s : SH} {x : Int32} {b : Nat} (g : GS s) (h : cwP s x b) : b < 48 := by
  obtain ⟨q, h1, h2, rfl⟩ := h
  have h3 := qhas_of_lt h2.2.1
  have gw := g.1
  have h4 := h3.2
  unfold qcell
  split <;> omega
theorem CPR_SD {s : SH} (g0 : GS s) {O X : Nat → Prop} {C : Nat → Nat → Prop} {i g : Nat} (h : CPR O (fun k b => dMs s k b ∧ ¬ X b) i g C) : SD g C ↔ SS s (fun k => k < i ∧ O k) X := by
  constructor
  · rintro ⟨f, f1, f2⟩
    refine ⟨fun k => f (cnt O k), fun k hk => ?_, fun k1 k2 h1 h2 e => ?_⟩
    · have h3 := f1 (cnt O k) (by rw [h.1]; exact cnt_lt_of hk.1 hk.2)
      rw [h.2 k hk.1 hk.2] at h3
      exact h3.2
    · have h3 := f2 _ _ (by rw [h.1]; exact cnt_lt_of h1.1 h1.2) (by rw [h.1]; exact cnt_lt_of h2.1 h2.2) e
      rcases Nat.lt_trichotomy k1 k2 with z | z | z
      · have := cnt_lt_of z h1.2; omega
      · exact z
      · have := cnt_lt_of z h2.2; omega
  · rintro ⟨f, f1, f2⟩
    have key : ∀ j, ∃ k, j < g → k < i ∧ O k ∧ cnt O k = j := fun j => by
      rcases Nat.lt_or_ge j g with z | z
      · rw [h.1] at z; obtain ⟨k, hk⟩ := cnt_inv z; exact ⟨k, fun _ => hk⟩
      · exact ⟨0, fun z2 => absurd z2 (by omega)⟩
    refine ⟨fun j => f (Classical.choose (key j)), fun j hj => ?_, fun a b ha hb e => ?_⟩
    · obtain ⟨k1, k2, k3⟩ := Classical.choose_spec (key j) hj
      have h4 := f1 _ ⟨k1, k2⟩
      refine ⟨cwP_lt g0 h4.1, ?_⟩
      have h5 := h.2 _ k1 k2
      rw [k3] at h5
      rw [h5]; exact h4
    · obtain ⟨k1, k2, k3⟩ := Classical.choose_spec (key a) ha
      obtain ⟨m1, m2, m3⟩ := Classical.choose_spec (key b) hb
      have e2 := f2 _ _ ⟨k1, k2⟩ ⟨m1, m2⟩ e
      rw [← k3, ← m3, e2]
set_option maxHeartbeats 4000000 in
set_option maxRecDepth 100000 in
theorem sp_freeStrip {d : Nat} {h : AH} {s : SH} {f : Nat → Nat} (c : CB h) (g : GS s) (r : PRf h s f) {k q n : Nat} {Y : Nat → Prop} (hk : k < sLen s) (hq : q < 96) (hn1 : 0 < n) (hn9 : n < 100) : AC mX1_freeStrip (d + 1) 0 0 [.ref 16, .int (nI k), .int (nI q), .int (nI n), .long (mkL Y)] h (Qe (some (.long (mkL (frS s k q n Y)))) h) := by
  have hn := c.1
  have gw := g.1
  have hL8 := r.1.2
  refine AC.of (by decide) rfl (Nat.le_of_ble_eq_true rfl) (fun X => ?_)
  show AW X mX1_freeStrip (d + 1) 0 0 0 [(0, .ref 16), (1, .int (nI k)), (2, .int (nI q)), (3, .int (nI n)), (4, .long (mkL Y))] [] h (Qe (some (.long (mkL (frS s k q n Y)))) h)
  have hk8 : k < 8 := by omega
  refine a_iload_n (pc := 0) (i := 1) dX1_freeStrip_0 rfl rfl ?_
  refine n_if_lt (pc := 1) (tgt := 34) dX1_freeStrip_1 (by decide) (by omega) ?_
  refine a_iload_n (pc := 4) (i := 1) dX1_freeStrip_4 rfl rfl ?_
  refine a_bipush (pc := 5) (v := nI 8) dX1_freeStrip_5 (by decide) ?_
  refine n_icmp_ge (pc := 7) (tgt := 34) dX1_freeStrip_7 (by decide) (by omega) (by omega) (fun c7 => ?_) (fun c7 => ?_)
  · exact absurd c7 (by omega)
  · skip
    refine a_iload_n (pc := 10) (i := 2) dX1_freeStrip_10 rfl rfl ?_
    refine n_if_lt (pc := 11) (tgt := 34) dX1_freeStrip_11 (by decide) (by omega) ?_
    refine a_iload_n (pc := 14) (i := 2) dX1_freeStrip_14 rfl rfl ?_
    refine a_iload_n (pc := 15) (i := 3) dX1_freeStrip_15 rfl rfl ?_
    refine n_iadd (pc := 16) dX1_freeStrip_16 ?_
    refine a_bipush (pc := 17) (v := nI 96) dX1_freeStrip_17 (by decide) ?_
    refine n_icmp_gt (pc := 19) (tgt := 34) dX1_freeStrip_19 (by decide) (by omega) (by omega) (fun c19 => ?_) (fun c19 => ?_)
    · skip
      refine a_lconst (pc := 34) (v := 0) dX1_freeStrip_34 (by decide) ?_
      exact a_lreturn (pc := 35) dX1_freeStrip_35 rfl (⟨by rw [frS_0 (fun z => by have := (qrun_ok z.1).2 hn1; omega)], rfl⟩)
    · skip
      refine a_aload_n (pc := 22) (i := 0) dX1_freeStrip_22 rfl rfl ?_
      refine a_getR (pc := 23) (ci := 1) (k := 3) (b := 22) dX1_freeStrip_23 (lf_RX1_27 rfl) (by decide) rfl rfl (lt90 hn (shK_lt (show shK 16 = _ from rfl))) c.2.2.2.2.2.2.1.2.2.2.1 ?_
      refine a_iload_n (pc := 26) (i := 1) dX1_freeStrip_26 rfl rfl ?_
      refine a_rald (pc := 27) (j := k) (b := (23 + k)) dX1_freeStrip_27 rfl (lt90 hn (shK_lt (show shK 22 = _ from rfl))) rfl (by omega) (c.2.2.2.2.2.2.2.1 k hk8) ?_
      refine a_iload_n (pc := 28) (i := 2) dX1_freeStrip_28 rfl rfl ?_
      refine a_iald (pc := 29) (j := q) dX1_freeStrip_29 (shRow hk8) (lt90 hn (shK_lt (shRow hk8))) rfl (by omega) ?_
      refine a_top (show (.int (hI h (23 + k) q) : Value) = .int (nI (qrun s k q)) from congrArg Value.int (r.2.2.2.1 k q hk hq)) ?_
      refine a_iload_n (pc := 30) (i := 3) dX1_freeStrip_30 rfl rfl ?_
      have hrl : qrun s k q < 100 := by have := (runF_le (okr s k q) (sW s - q % 8) 0).2; show runF _ _ _ < 100; omega
      refine n_icmp_ge (pc := 31) (tgt := 36) dX1_freeStrip_31 (by decide) (by omega) (by omega) (fun c31 => ?_) (fun c31 => ?_)
      · have hok := qrun_ok c31
        have hqn := hok.2 hn1
        have LP : ∀ (fu : Nat) (i : Nat), i ≤ n → n - i < fu → AW X mX1_freeStrip (d + 1) 0 0 42 [(0, .ref 16), (1, .int (nI k)), (2, .int (nI q)), (3, .int (nI n)), (4, .long (mkL Y)), (6, .long (mkL (pcl s q i))), (8, .int (nI i))] [] h (Qe (some (.long (mkL (frS s k q n Y)))) h) := by
          intro fu
          induction fu with
          | zero => intro i hi hz; exact absurd hz (Nat.not_lt_zero _)
          | succ fu ih =>
            intro i hi hz
            refine a_iload (pc := 42) (i := 8) dX1_freeStrip_42 rfl ?_
            refine a_iload_n (pc := 44) (i := 3) dX1_freeStrip_44 rfl rfl ?_
            refine n_icmp_ge (pc := 45) (tgt := 68) dX1_freeStrip_45 (by decide) (by omega) (by omega) (fun c45 => ?_) (fun c45 => ?_)
            · have e : i = n := by omega
              subst e
              refine a_lload (pc := 68) (i := 6) dX1_freeStrip_68 rfl ?_
              refine a_lload (pc := 70) (i := 4) dX1_freeStrip_70 rfl ?_
              refine a_land (pc := 72) dX1_freeStrip_72 ?_
              refine a_top (show (.long ((mkL (pcl s q i)) &&& (mkL Y)) : Value) = .long (mkL (fun b => pcl s q i b ∧ Y b)) from congrArg Value.long (mkL_and _ _)) ?_
              refine a_lconst (pc := 73) (v := 0) dX1_freeStrip_73 (by decide) ?_
              refine a_lcmp (pc := 74) dX1_freeStrip_74 ?_
              refine a_if_ne (pc := 75) (tgt := 83) dX1_freeStrip_75 (by decide) (fun c75 => ?_) (fun c75 => ?_)
              · skip
                refine a_lconst (pc := 83) (v := 0) dX1_freeStrip_83 (by decide) ?_
                exact a_lreturn (pc := 84) dX1_freeStrip_84 rfl (⟨by rw [frS_0 (fun z => c75 ((lg_cmp_eq _ _).mpr (mkL_eq0.mpr (fun b _ y => z.2 b y.1 y.2))))], rfl⟩)
              · have hfree : ∀ b, pcl s q i b → ¬ Y b := fun b hb hx => mkL_eq0.mp ((lg_cmp_eq _ _).mp c75) b (by have := pcl_lt g hq c31 hb; omega) ⟨hb, hx⟩
                refine a_lload (pc := 78) (i := 6) dX1_freeStrip_78 rfl ?_
                refine a_goto (pc := 80) (tgt := 84) dX1_freeStrip_80 (by decide) ?_
                exact a_lreturn (pc := 84) dX1_freeStrip_84 rfl (⟨by rw [frS_1 ⟨c31, hfree⟩], rfl⟩)
            · have hh : qhas s (q + i) := qhas_of_lt (hok.1 i c45).2.1
              refine a_lload (pc := 48) (i := 6) dX1_freeStrip_48 rfl ?_
              refine a_aload_n (pc := 50) (i := 0) dX1_freeStrip_50 rfl rfl ?_
              refine a_getR (pc := 51) (ci := 1) (k := 2) (b := 21) dX1_freeStrip_51 (lf_RX1_22 rfl) (by decide) rfl rfl (lt90 hn (shK_lt (show shK 16 = _ from rfl))) c.2.2.2.2.2.2.1.2.2.1 ?_
              refine a_iload_n (pc := 54) (i := 2) dX1_freeStrip_54 rfl rfl ?_
              refine a_iload (pc := 55) (i := 8) dX1_freeStrip_55 rfl ?_
              refine n_iadd (pc := 57) dX1_freeStrip_57 ?_
              refine a_lald (pc := 58) (j := (q + i)) dX1_freeStrip_58 rfl (lt90 hn (shK_lt (show shK 21 = _ from rfl))) rfl (by omega) ?_
              refine a_top (show (.long (hL h 21 (q + i)) : Value) = .long (mkL (fun b => qhas s (q + i) ∧ b = qcell s (q + i))) from congrArg Value.long (r.2.1 (q + i) (by omega))) ?_
              refine a_lor (pc := 59) dX1_freeStrip_59 ?_
              refine a_top (show (.long ((mkL (pcl s q i)) ||| (mkL (fun b => qhas s (q + i) ∧ b = qcell s (q + i)))) : Value) = .long (mkL (pcl s q (i + 1))) from congrArg Value.long (pcl_step hh)) ?_
              refine a_lstore (pc := 60) (i := 6) (ls' := [(0, .ref 16), (1, .int (nI k)), (2, .int (nI q)), (3, .int (nI n)), (4, .long (mkL Y)), (6, .long (mkL (pcl s q (i + 1)))), (8, .int (nI i))]) dX1_freeStrip_60 (by decide) rfl ?_
              refine n_iinc (pc := 62) (k := 1) (ls' := [(0, .ref 16), (1, .int (nI k)), (2, .int (nI q)), (3, .int (nI n)), (4, .long (mkL Y)), (6, .long (mkL (pcl s q (i + 1)))), (8, .int (nI (i + 1)))]) dX1_freeStrip_62 rfl (by decide) (by decide) rfl ?_
              refine a_goto (pc := 65) (tgt := 42) dX1_freeStrip_65 (by decide) ?_
              exact ih (i + 1) (by omega) (by omega)
        refine a_lconst (pc := 36) (v := 0) dX1_freeStrip_36 (by decide) ?_
        refine a_lstore (pc := 37) (i := 6) (ls' := [(0, .ref 16), (1, .int (nI k)), (2, .int (nI q)), (3, .int (nI n)), (4, .long (mkL Y)), (6, .long 0)]) dX1_freeStrip_37 (by decide) rfl ?_
        refine a_iconst (pc := 39) (v := nI 0) dX1_freeStrip_39 (by decide) ?_
        refine a_istore (pc := 40) (i := 8) (ls' := [(0, .ref 16), (1, .int (nI k)), (2, .int (nI q)), (3, .int (nI n)), (4, .long (mkL Y)), (6, .long 0), (8, .int (nI 0))]) dX1_freeStrip_40 (by decide) rfl ?_
        refine a_locs (ls' := [(0, .ref 16), (1, .int (nI k)), (2, .int (nI q)), (3, .int (nI n)), (4, .long (mkL Y)), (6, .long (mkL (pcl s q 0))), (8, .int (nI 0))]) (by rw [pcl_0]) ?_
        exact LP (n + 1) 0 (by omega) (by omega)
      · skip
        refine a_lconst (pc := 34) (v := 0) dX1_freeStrip_34 (by decide) ?_
        exact a_lreturn (pc := 35) dX1_freeStrip_35 rfl (⟨by rw [frS_0 (fun z => absurd z.1 (by omega))], rfl⟩)
set_option maxHeartbeats 4000000 in
set_option maxRecDepth 100000 in
theorem sp_canSpell {d : Nat} {h : AH} {s : SH} {f : Nat → Nat} (c : CB h) (g : GS s) (r : PRf h s f) {k : Nat} {A Y : Nat → Prop} (hk : k ≤ sLen s) : AC mX1_canSpell (d + 60) 0 0 [.ref 16, .int (nI k), .int (nI (mkN A 8)), .long (mkL Y)] h (Qf [17, 18, 19] (some (.int (bi (SS s (fun i => i < sLen s ∧ (k ≤ i ∨ A i)) Y)))) h (fun h2 => True)) := by
  have hn := c.1
  have gw := g.1
  have hL8 := r.1.2
  refine AC.of (by decide) rfl (Nat.le_of_ble_eq_true rfl) (fun X => ?_)
  show AW X mX1_canSpell (d + 60) 0 0 0 [(0, .ref 16), (1, .int (nI k)), (2, .int (nI (mkN A 8))), (3, .long (mkL Y))] [] h (Qf [17, 18, 19] (some (.int (bi (SS s (fun i => i < sLen s ∧ (k ≤ i ∨ A i)) Y)))) h (fun h2 => True))
  have LP : ∀ (fu : Nat) (i : Nat) (H : AH) (m : Nat) (C : Nat → Nat → Prop), i ≤ sLen s → Fr [17, 18, 19] h H → ML H 17 m C → CPR (fun i => k ≤ i ∨ A i) (fun k b => dMs s k b ∧ ¬ Y b) i m C → sLen s - i < fu → AW X mX1_canSpell (d + 60) 0 0 10 [(0, .ref 16), (1, .int (nI k)), (2, .int (nI (mkN A 8))), (3, .long (mkL Y)), (5, .int (nI i))] [] H (Qf [17, 18, 19] (some (.int (bi (SS s (fun i => i < sLen s ∧ (k ≤ i ∨ A i)) Y)))) h (fun h2 => True)) := by
    intro fu
    induction fu with
    | zero => intro i H m C hi hf hm hcp hz; exact absurd hz (Nat.not_lt_zero _)
    | succ fu ih =>
      intro i H m C hi hf hm hcp hz
      have hc := c.fr hf
      have hr : PRf H s f := r.fr hf (congrFun (hf.2.2 16 (by simp)).1 5) (fun a h1 h2 => by simp; omega)
      have hn2 := hc.1
      have hml : m ≤ i := by rw [hcp.1]; exact cnt_le _ _
      refine a_iload (pc := 10) (i := 5) dX1_canSpell_10 rfl ?_
      refine a_aload_n (pc := 12) (i := 0) dX1_canSpell_12 rfl rfl ?_
      refine a_getI (pc := 13) (ci := 1) (k := 5) dX1_canSpell_13 (lf_RX1_58 rfl) (by decide) rfl rfl (lt90 hn2 (shK_lt (show shK 16 = _ from rfl))) ?_
      refine a_top (show (.int (hI H 16 5) : Value) = .int (nI (sLen s)) from congrArg Value.int hr.1.1) ?_
      refine n_icmp_ge (pc := 16) (tgt := 77) dX1_canSpell_16 (by decide) (by omega) (by omega) (fun c16 => ?_) (fun c16 => ?_)
      · have e : i = sLen s := by omega
        subst e
        refine a_iconst (pc := 77) (v := nI 1) dX1_canSpell_77 (by decide) ?_
        exact a_ireturn (pc := 78) dX1_canSpell_78 rfl rfl (⟨by rw [bi_t ((CPR_SD g hcp).mp hm.SD)]; rfl, hf, trivial⟩)
      · have hi8 : i < 8 := by omega
        refine a_iload (pc := 19) (i := 5) dX1_canSpell_19 rfl ?_
        refine a_iload_n (pc := 21) (i := 1) dX1_canSpell_21 rfl rfl ?_
        refine n_icmp_ge (pc := 22) (tgt := 34) dX1_canSpell_22 (by decide) (by omega) (by omega) (fun c22 => ?_) (fun c22 => ?_)
        · have ho : k ≤ i ∨ A i := Or.inl c22
          refine a_iconst (pc := 34) (v := nI 1) dX1_canSpell_34 (by decide) ?_
          refine a_goto (pc := 35) (tgt := 39) dX1_canSpell_35 (by decide) ?_
          refine a_istore (pc := 39) (i := 6) (ls' := [(0, .ref 16), (1, .int (nI k)), (2, .int (nI (mkN A 8))), (3, .long (mkL Y)), (5, .int (nI i)), (6, .int (nI 1))]) dX1_canSpell_39 (by decide) rfl ?_
          refine a_iload (pc := 41) (i := 6) dX1_canSpell_41 rfl ?_
          refine n_if_eq (pc := 43) (tgt := 71) dX1_canSpell_43 (by decide) (by omega) (fun c43 => ?_) (fun c43 => ?_)
          · exact absurd c43 (by decide)
          · skip
            refine a_aload_n (pc := 46) (i := 0) dX1_canSpell_46 rfl rfl ?_
            refine a_getR (pc := 47) (ci := 1) (k := 0) (b := 17) dX1_canSpell_47 (lf_RX1_12 rfl) (by decide) rfl rfl (lt90 hn2 (shK_lt (show shK 16 = _ from rfl))) hc.2.2.2.2.2.2.1.1 ?_
            refine a_aload_n (pc := 50) (i := 0) dX1_canSpell_50 rfl rfl ?_
            refine a_getR (pc := 51) (ci := 1) (k := 1) (b := 20) dX1_canSpell_51 (lf_RX1_18 rfl) (by decide) rfl rfl (lt90 hn2 (shK_lt (show shK 16 = _ from rfl))) hc.2.2.2.2.2.2.1.2.1 ?_
            refine a_iload (pc := 54) (i := 5) dX1_canSpell_54 rfl ?_
            refine a_lald (pc := 56) (j := i) dX1_canSpell_56 rfl (lt90 hn2 (shK_lt (show shK 20 = _ from rfl))) rfl (by omega) ?_
            refine a_top (show (.long (hL H 20 i) : Value) = .long (mkL (dMs s i)) from congrArg Value.long (hr.2.2.1 i c16)) ?_
            refine a_lload_n (pc := 57) (i := 3) dX1_canSpell_57 rfl rfl ?_
            refine a_ldc2 (pc := 58) (v := (-1)) dX1_canSpell_58 (lj_RX1_108 rfl) ?_
            refine a_lxor (pc := 61) dX1_canSpell_61 ?_
            refine a_top (show (.long ((mkL Y) ^^^ ((-1))) : Value) = .long (mkL (fun b => ¬ Y b)) from congrArg Value.long (mkL_not _)) ?_
            refine a_land (pc := 62) dX1_canSpell_62 ?_
            refine a_top (show (.long ((mkL (dMs s i)) &&& (mkL (fun b => ¬ Y b))) : Value) = .long (mkL ((fun k b => dMs s k b ∧ ¬ Y b) i)) from congrArg Value.long (mkL_and _ _)) ?_
            refine a_wVN1 (pc := 63) (as := [.long (mkL ((fun k b => dMs s k b ∧ ¬ Y b) i))]) (b := 17) (ci := 0) (v := .int (bi (SD (m + 1) (cset C m ((fun k b => dMs s k b ∧ ¬ Y b) i))))) dX1_canSpell_63 (lc_RX1_110 rfl) ceX0_give rfl (lt90 hn2 (shK_lt (show shK 17 = _ from rfl))) (sp_give (d := d + 10) hc (Or.inr rfl) (by omega) hm) rfl rfl (Nat.le_of_ble_eq_true rfl) (fun H2 f2 r2 => ?_)
            have f3 := hf.trans f2
            have cy := CPR_yes hcp ho
            refine b_if_ne (pc := 66) (tgt := 71) dX1_canSpell_66 (by decide) (fun c66 => ?_) (fun c66 => ?_)
            · skip
              refine n_iinc (pc := 71) (k := 1) (ls' := [(0, .ref 16), (1, .int (nI k)), (2, .int (nI (mkN A 8))), (3, .long (mkL Y)), (5, .int (nI (i + 1))), (6, .int (nI 1))]) dX1_canSpell_71 rfl (by decide) (by decide) rfl ?_
              refine a_goto (pc := 74) (tgt := 10) dX1_canSpell_74 (by decide) ?_
              refine a_drop (ls' := [(0, .ref 16), (1, .int (nI k)), (2, .int (nI (mkN A 8))), (3, .long (mkL Y)), (5, .int (nI (i + 1)))]) (by simp) ?_
              exact ih (i + 1) H2 (m + 1) _ (by omega) f3 (r2.1 c66) cy (by omega)
            · have hno : ¬ SS s (fun i => i < sLen s ∧ (k ≤ i ∨ A i)) Y := fun z => c66 ((CPR_SD g cy).mpr (z.mono (fun j hj => ⟨by omega, hj.2⟩) (fun b hb => hb)))
              refine a_iconst (pc := 69) (v := nI 0) dX1_canSpell_69 (by decide) ?_
              exact a_ireturn (pc := 70) dX1_canSpell_70 rfl rfl (⟨by rw [bi_f hno]; rfl, f3, trivial⟩)
        · skip
          refine a_iload_n (pc := 25) (i := 2) dX1_canSpell_25 rfl rfl ?_
          refine a_iconst (pc := 26) (v := nI 1) dX1_canSpell_26 (by decide) ?_
          refine a_iload (pc := 27) (i := 5) dX1_canSpell_27 rfl ?_
          refine a_ishl (pc := 29) dX1_canSpell_29 ?_
          refine a_iand (pc := 30) dX1_canSpell_30 ?_
          refine a_if_eq (pc := 31) (tgt := 38) dX1_canSpell_31 (by decide) (fun c31 => ?_) (fun c31 => ?_)
          · have ho : ¬ (k ≤ i ∨ A i) := fun z => z.elim (fun y => absurd y (by omega)) ((msk_in hi8).mp c31)
            refine a_iconst (pc := 38) (v := nI 0) dX1_canSpell_38 (by decide) ?_
            refine a_istore (pc := 39) (i := 6) (ls' := [(0, .ref 16), (1, .int (nI k)), (2, .int (nI (mkN A 8))), (3, .long (mkL Y)), (5, .int (nI i)), (6, .int (nI 0))]) dX1_canSpell_39 (by decide) rfl ?_
            refine a_iload (pc := 41) (i := 6) dX1_canSpell_41 rfl ?_
            refine n_if_eq (pc := 43) (tgt := 71) dX1_canSpell_43 (by decide) (by omega) (fun c43 => ?_) (fun c43 => ?_)
            · skip
              refine n_iinc (pc := 71) (k := 1) (ls' := [(0, .ref 16), (1, .int (nI k)), (2, .int (nI (mkN A 8))), (3, .long (mkL Y)), (5, .int (nI (i + 1))), (6, .int (nI 0))]) dX1_canSpell_71 rfl (by decide) (by decide) rfl ?_
              refine a_goto (pc := 74) (tgt := 10) dX1_canSpell_74 (by decide) ?_
              refine a_drop (ls' := [(0, .ref 16), (1, .int (nI k)), (2, .int (nI (mkN A 8))), (3, .long (mkL Y)), (5, .int (nI (i + 1)))]) (by simp) ?_
              exact ih (i + 1) H m C (by omega) hf hm (CPR_no hcp ho) (by omega)
            · exact absurd c43 (by decide)
          · have ho : k ≤ i ∨ A i := Or.inr (Classical.byContradiction fun z => c31 ((msk_in hi8).mpr z))
            refine a_iconst (pc := 34) (v := nI 1) dX1_canSpell_34 (by decide) ?_
            refine a_goto (pc := 35) (tgt := 39) dX1_canSpell_35 (by decide) ?_
            refine a_istore (pc := 39) (i := 6) (ls' := [(0, .ref 16), (1, .int (nI k)), (2, .int (nI (mkN A 8))), (3, .long (mkL Y)), (5, .int (nI i)), (6, .int (nI 1))]) dX1_canSpell_39 (by decide) rfl ?_
            refine a_iload (pc := 41) (i := 6) dX1_canSpell_41 rfl ?_
            refine n_if_eq (pc := 43) (tgt := 71) dX1_canSpell_43 (by decide) (by omega) (fun c43 => ?_) (fun c43 => ?_)
            · exact absurd c43 (by decide)
            · skip
              refine a_aload_n (pc := 46) (i := 0) dX1_canSpell_46 rfl rfl ?_
              refine a_getR (pc := 47) (ci := 1) (k := 0) (b := 17) dX1_canSpell_47 (lf_RX1_12 rfl) (by decide) rfl rfl (lt90 hn2 (shK_lt (show shK 16 = _ from rfl))) hc.2.2.2.2.2.2.1.1 ?_
              refine a_aload_n (pc := 50) (i := 0) dX1_canSpell_50 rfl rfl ?_
              refine a_getR (pc := 51) (ci := 1) (k := 1) (b := 20) dX1_canSpell_51 (lf_RX1_18 rfl) (by decide) rfl rfl (lt90 hn2 (shK_lt (show shK 16 = _ from rfl))) hc.2.2.2.2.2.2.1.2.1 ?_
              refine a_iload (pc := 54) (i := 5) dX1_canSpell_54 rfl ?_
              refine a_lald (pc := 56) (j := i) dX1_canSpell_56 rfl (lt90 hn2 (shK_lt (show shK 20 = _ from rfl))) rfl (by omega) ?_
              refine a_top (show (.long (hL H 20 i) : Value) = .long (mkL (dMs s i)) from congrArg Value.long (hr.2.2.1 i c16)) ?_
              refine a_lload_n (pc := 57) (i := 3) dX1_canSpell_57 rfl rfl ?_
              refine a_ldc2 (pc := 58) (v := (-1)) dX1_canSpell_58 (lj_RX1_108 rfl) ?_
              refine a_lxor (pc := 61) dX1_canSpell_61 ?_
              refine a_top (show (.long ((mkL Y) ^^^ ((-1))) : Value) = .long (mkL (fun b => ¬ Y b)) from congrArg Value.long (mkL_not _)) ?_
              refine a_land (pc := 62) dX1_canSpell_62 ?_
              refine a_top (show (.long ((mkL (dMs s i)) &&& (mkL (fun b => ¬ Y b))) : Value) = .long (mkL ((fun k b => dMs s k b ∧ ¬ Y b) i)) from congrArg Value.long (mkL_and _ _)) ?_
              refine a_wVN1 (pc := 63) (as := [.long (mkL ((fun k b => dMs s k b ∧ ¬ Y b) i))]) (b := 17) (ci := 0) (v := .int (bi (SD (m + 1) (cset C m ((fun k b => dMs s k b ∧ ¬ Y b) i))))) dX1_canSpell_63 (lc_RX1_110 rfl) ceX0_give rfl (lt90 hn2 (shK_lt (show shK 17 = _ from rfl))) (sp_give (d := d + 10) hc (Or.inr rfl) (by omega) hm) rfl rfl (Nat.le_of_ble_eq_true rfl) (fun H2 f2 r2 => ?_)
              have f3 := hf.trans f2
              have cy := CPR_yes hcp ho
              refine b_if_ne (pc := 66) (tgt := 71) dX1_canSpell_66 (by decide) (fun c66 => ?_) (fun c66 => ?_)
              · skip
                refine n_iinc (pc := 71) (k := 1) (ls' := [(0, .ref 16), (1, .int (nI k)), (2, .int (nI (mkN A 8))), (3, .long (mkL Y)), (5, .int (nI (i + 1))), (6, .int (nI 1))]) dX1_canSpell_71 rfl (by decide) (by decide) rfl ?_
                refine a_goto (pc := 74) (tgt := 10) dX1_canSpell_74 (by decide) ?_
                refine a_drop (ls' := [(0, .ref 16), (1, .int (nI k)), (2, .int (nI (mkN A 8))), (3, .long (mkL Y)), (5, .int (nI (i + 1)))]) (by simp) ?_
                exact ih (i + 1) H2 (m + 1) _ (by omega) f3 (r2.1 c66) cy (by omega)
              · have hno : ¬ SS s (fun i => i < sLen s ∧ (k ≤ i ∨ A i)) Y := fun z => c66 ((CPR_SD g cy).mpr (z.mono (fun j hj => ⟨by omega, hj.2⟩) (fun b hb => hb)))
                refine a_iconst (pc := 69) (v := nI 0) dX1_canSpell_69 (by decide) ?_
                exact a_ireturn (pc := 70) dX1_canSpell_70 rfl rfl (⟨by rw [bi_f hno]; rfl, f3, trivial⟩)
  refine a_aload_n (pc := 0) (i := 0) dX1_canSpell_0 rfl rfl ?_
  refine a_getR (pc := 1) (ci := 1) (k := 0) (b := 17) dX1_canSpell_1 (lf_RX1_12 rfl) (by decide) rfl rfl (lt90 hn (shK_lt (show shK 16 = _ from rfl))) c.2.2.2.2.2.2.1.1 ?_
  refine a_wVN0 (pc := 4) (as := []) (b := 17) (ci := 0) dX1_canSpell_4 (lc_RX1_105 rfl) ceX0_clear rfl (lt90 hn (shK_lt (show shK 17 = _ from rfl))) (sp_clear c (Or.inr rfl)) rfl rfl (Nat.le_of_ble_eq_true rfl) (fun H1 f1 r1 => ?_)
  refine a_iconst (pc := 7) (v := nI 0) dX1_canSpell_7 (by decide) ?_
  refine a_istore (pc := 8) (i := 5) (ls' := [(0, .ref 16), (1, .int (nI k)), (2, .int (nI (mkN A 8))), (3, .long (mkL Y)), (5, .int (nI 0))]) dX1_canSpell_8 (by decide) rfl ?_
  exact LP (sLen s + 1) 0 H1 0 (fun _ _ => False) (by omega) (f1.mono (by simp)) (r1 _) ⟨rfl, fun k hk => absurd hk (Nat.not_lt_zero _)⟩ (by omega)
