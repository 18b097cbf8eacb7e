/-! the law's Sheet: plan -/
/-- what the array best holds behind a plan -/
def PLb (h : AH) (k : Nat) (s : SH) (l : List (Nat × Nat)) : Prop := ∀ i, i < l.length → hI h (bstN k) i = nI (cds s l i) ∧ cds s l i < 100000
theorem PT_plan {s : SH} (g : GS s) {b2 : Option (List (Nat × Nat))} (t : PT s [] 0 none b2) : (∃ l, b2 = some l ∧ plV s 0 noA l ∧ BP s noA l) ∨ (b2 = none ∧ ¬ ∃ l, BP s noA l) := by
  obtain ⟨t1, t2, t3⟩ := t
  rcases t1 with rfl | ⟨l, h1, h2⟩
  · refine Or.inr ⟨rfl, fun ⟨l, hl⟩ => ?_⟩
    exact t3 l (BP_V hl) trivial
  · have h1 : plV s 0 noA l := h1
    have h2 : b2 = some l := h2
    subst h2
    exact Or.inl ⟨l, rfl, h1, min_BP g h1 (fun l2 h => t3 l2 h)⟩
theorem bestR_eq {s : SH} (h8 : sLen s ≤ 8) : (∀ l, BP s noA l → bestR s = nI l.length) ∧ ((¬ ∃ l, BP s noA l) → bestR s = -1) := by
  have e : bestR s = bestN s := cif_f (by omega)
  refine ⟨fun l hl => ?_, fun hn => ?_⟩
  · rw [e, show bestN s = _ from cif_t ⟨l, hl⟩, bestL_eq hl]
  · rw [e, show bestN s = _ from cif_f hn]
def QPl (k : Nat) (s : SH) (h : AH) : Res → AH → Prop := fun r h2 => r = .inl (some (.int (bestR s))) ∧ FrS k h h2 ∧ (sLen s ≤ 8 → ∀ l, BP s noA l → PLb h2 k s l)
set_option maxHeartbeats 1200000 in
set_option maxRecDepth 100000 in
theorem x_plan {d k gg : Nat} {h : AH} {s : SH} (l : LW h k gg s) : AC mX6_plan (d + 17) 0 0 [.ref (aN k)] h (QPl k s h) := by
  obtain ⟨⟨bs, pa, pn, pb, pg⟩, ⟨f0, f1, f4, f7, f8⟩, ⟨r9, r10, r5⟩, ⟨L, Z, rL, rZ, ⟨kL, pL⟩, ⟨kZ, pZ⟩, lin, siz⟩, ⟨M, rM, sM⟩, gon⟩ := id l
  have g := bs.1
  have gw := g.1
  have gh := g.2.1
  have gs := g.2.2.1
  have bw := bs.2.1
  have bh := bs.2.2.1
  have bl := bs.2.2.2
  have c12 := cells12 bs
  refine AC.of (by decide) rfl (Nat.le_of_ble_eq_true rfl) (fun X => ?_)
  show AW X mX6_plan (d + 17) 0 0 0 [(0, .ref (aN k))] [] h (QPl k s h)
  refine a_aload_n (pc := 0) (i := 0) dX6_plan_0 rfl rfl ?_
  refine a_bipush (pc := 1) (v := nI 99) dX6_plan_1 (by decide) ?_
  refine g_putI (pc := 3) (ci := 6) (k := 11) dX6_plan_3 (lf_RX6_108 rfl) (by decide) (Or.inl rfl) kd_a pa rfl ?_
  refine a_aload_n (pc := 6) (i := 0) dX6_plan_6 rfl rfl ?_
  refine a_lconst (pc := 7) (v := 0) dX6_plan_7 (by decide) ?_
  refine g_putL (pc := 8) (ci := 6) (k := 12) dX6_plan_8 (lf_RX6_115 rfl) (by decide) rfl kd_a pa rfl ?_
  obtain ⟨H0, hH0⟩ : ∃ Hx, Hx = sL (sI h (aN k) 11 (nI 99)) (aN k) 12 0 := ⟨_, rfl⟩
  refine a_heap (h' := H0) hH0.symm ?_
  have fs0 : FrS k h H0 := by rw [hH0]; exact FrS.fI.trans FrS.fL
  have l0 := l.frs fs0
  obtain ⟨⟨-, pa0, -⟩, -, -, -, ⟨M, rM0, sM0⟩, -⟩ := id l0
  refine a_aload_n (pc := 11) (i := 0) dX6_plan_11 rfl rfl ?_
  refine g_getR (pc := 12) (ci := 6) (k := 6) (b := M) dX6_plan_12 (lf_RX6_37 rfl) (by decide) rfl kd_a pa0 rM0 ?_
  refine g_vStr1 (pc := 15) (as := []) (b := M) (v := .int (nI ((msT s).length))) (h' := H0) dX6_plan_15 (lc_RX6_78 rfl) ceJ0_length_8abf5 sM0.ok (s_len (d := d + 15) sM0) rfl rfl (Nat.le_of_ble_eq_true rfl) rfl ?_
  refine a_top (show (.int (nI ((msT s).length)) : Value) = .int (nI (sLen s)) from by rw [msT_len]) ?_
  refine a_bipush (pc := 18) (v := nI 8) dX6_plan_18 (by decide) ?_
  refine n_icmp_le (pc := 20) (tgt := 26) dX6_plan_20 (by decide) (by omega) (by omega) (fun c20 => ?_) (fun c20 => ?_)
  · skip
    have h8 : sLen s ≤ 8 := by omega
    have t0 : TSt H0 k s [] none := by
      rw [hH0]
      refine ⟨by show hI (sI h (aN k) 11 (nI 99)) (aN k) 11 = _; rw [hI_sI, if_pos ⟨rfl, rfl⟩]; rfl, by rw [hL_sL, if_pos ⟨rfl, rfl⟩]; exact (mkL_eq0.mpr fun c _ z => z.2).symm, fun i hi => absurd hi (Nat.not_lt_zero i), fun m hm => by cases hm⟩
    refine a_aload_n (pc := 26) (i := 0) dX6_plan_26 rfl rfl ?_
    refine a_iconst (pc := 27) (v := nI 0) dX6_plan_27 (by decide) ?_
    refine a_iconst (pc := 28) (v := nI 0) dX6_plan_28 (by decide) ?_
    have hcall : AC mX6_tries (d + 16) 0 0 [.ref (aN k), .int (nI 0), .int (nI 0)] H0 (Qu (fun h2 => FrS k H0 h2 ∧ ∃ b2, TSt h2 k s [] b2 ∧ PT s [] 0 none b2)) := x_tries h8 8 (d := d + 8) (h := H0) (f := 0) (pre := []) (b := none) (by omega) l0 t0 (by omega) (by omega) (Nat.le_refl _)
    refine g_uV (pc := 29) (as := [.int (nI 0), .int (nI 0)]) (b := aN k) (ci := 6) dX6_plan_29 (lc_RX6_119 rfl) ceX6_tries kd_a pa0 hcall rfl rfl (Nat.le_of_ble_eq_true rfl) (fun h2 y => y.1.1) (fun H2 yH => ?_)
    obtain ⟨fs2, b2, t2, pt2⟩ := yH
    have pa2 : prN (hN H2) (aN k) := by rw [fs2.1]; exact pa0
    have hlb := t2.lb
    have e1 := bestR_eq h8
    have fs : FrS k h H2 := fs0.trans fs2
    have hpt := PT_plan g pt2
    refine a_aload_n (pc := 32) (i := 0) dX6_plan_32 rfl rfl ?_
    refine g_getI (pc := 33) (ci := 6) (k := 11) dX6_plan_33 (lf_RX6_108 rfl) (by decide) rfl kd_a pa2 ?_
    refine a_top (show (.int (hI H2 (aN k) 11) : Value) = .int (nI (lenB b2)) from congrArg Value.int t2.1) ?_
    refine a_bipush (pc := 36) (v := nI 99) dX6_plan_36 (by decide) ?_
    refine n_icmp_ne (pc := 38) (tgt := 45) dX6_plan_38 (by decide) (by omega) (by omega) (fun c38 => ?_) (fun c38 => ?_)
    · obtain ⟨l, el, hv, hb⟩ : ∃ l, b2 = some l ∧ plV s 0 noA l ∧ BP s noA l := by
        rcases hpt with z | ⟨z, -⟩
        · exact z
        · rw [z] at c38; exact absurd rfl c38
      refine a_aload_n (pc := 45) (i := 0) dX6_plan_45 rfl rfl ?_
      refine g_getI (pc := 46) (ci := 6) (k := 11) dX6_plan_46 (lf_RX6_108 rfl) (by decide) rfl kd_a pa2 ?_
      refine a_top (show (.int (hI H2 (aN k) 11) : Value) = .int (nI (lenB b2)) from congrArg Value.int t2.1) ?_
      have er : bestR s = nI (lenB b2) := by rw [e1.1 l hb, el]; rfl
      have hB : PLb H2 k s l := (t2.2.2.2 l el).2
      have hA : ∀ l2, BP s noA l2 → PLb H2 k s l2 := fun l2 hl2 => by have e := (bestL_eq hl2).symm.trans (bestL_eq hb); rw [e]; exact hB
      exact a_ireturn (pc := 49) dX6_plan_49 rfl rfl (⟨by rw [er], fs, fun _ => hA⟩)
    · have en : ¬ ∃ l, BP s noA l := by
        rcases hpt with ⟨l, rfl, z, -⟩ | ⟨-, z⟩
        · have := plV_le z; have c38 : l.length = 99 := c38; omega
        · exact z
      refine a_iconst (pc := 41) (v := (-1)) dX6_plan_41 (by decide) ?_
      refine a_goto (pc := 42) (tgt := 49) dX6_plan_42 (by decide) ?_
      have er := e1.2 en
      exact a_ireturn (pc := 49) dX6_plan_49 rfl rfl (⟨by rw [er], fs, fun _ l hl => absurd ⟨l, hl⟩ en⟩)
  · skip
    refine a_bipush (pc := 23) (v := (-2)) dX6_plan_23 (by decide) ?_
    have er : bestR s = -2 := cif_t (by omega)
    exact a_ireturn (pc := 25) dX6_plan_25 rfl rfl (⟨by rw [er], fs0, fun z => absurd z (by omega)⟩)
