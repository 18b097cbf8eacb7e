/-! the law's Sheet: cutsPlan -/
theorem tk_tk {s : SH} {P Q : Nat → Prop} {a b x y : Nat} : tkS (tkS s P a x) Q b y = tkS s (uX P Q) (a + b) (x + y) := by
  show (s.1, s.2.1, s.2.2.1, (fun c => (sGn s c ∨ P (8 * (c / sW s) + c % sW s)) ∨ Q (8 * (c / sW s) + c % sW s)), s.2.2.2.2.1, (sCu s + a + b, sTk s + x + y)) = (s.1, s.2.1, s.2.2.1, (fun c => sGn s c ∨ P (8 * (c / sW s) + c % sW s) ∨ Q (8 * (c / sW s) + c % sW s)), s.2.2.2.2.1, (sCu s + (a + b), sTk s + (x + y)))
  rw [show (fun c => (sGn s c ∨ P (8 * (c / sW s) + c % sW s)) ∨ Q (8 * (c / sW s) + c % sW s)) = (fun c => sGn s c ∨ P (8 * (c / sW s) + c % sW s) ∨ Q (8 * (c / sW s) + c % sW s)) from funext fun c => propext or_assoc, Nat.add_assoc, Nat.add_assoc]
theorem tk_0 {s : SH} : tkS s (plC s []) 0 (cnt (plC s []) 64) = s := by
  show (s.1, s.2.1, s.2.2.1, (fun c => sGn s c ∨ False), s.2.2.2.2.1, (sCu s + 0, sTk s + cnt (plC s []) 64)) = s
  rw [show (fun c => sGn s c ∨ False) = s.2.2.2.1 from funext fun c => propext ⟨fun z => z.resolve_right id, Or.inl⟩, cnt_none (P := plC s []) 64 (fun i _ z => z)]
  rfl
theorem cnt_un {P Q : Nat → Prop} : ∀ {n : Nat}, (∀ i, i < n → Q i → ¬ P i) → cnt (uX P Q) n = cnt P n + cnt Q n
  | 0, _ => rfl
  | n + 1, h => by
    have ih := cnt_un (P := P) (Q := Q) (n := n) (fun i hi => h i (by omega))
    simp only [cnt]
    rw [ih]
    rcases Classical.em (P n) with p | p
    · have q : ¬ Q n := fun z => h n (by omega) z p
      rw [bN_t p, bN_f q, bN_t (show uX P Q n from Or.inl p)]; omega
    · rcases Classical.em (Q n) with q | q
      · rw [bN_f p, bN_t q, bN_t (show uX P Q n from Or.inr q)]; omega
      · rw [bN_f p, bN_f q, bN_f (show ¬ uX P Q n from fun z => z.elim p q)]; omega
theorem cnt_is {c m : Nat} (h : c < m) : cnt (fun b => b = c) m = 1 := by
  rw [cnt_del (Q := fun b => b = c) rfl h, cnt_none m (fun i _ z => z.2 z.1)]
/-- a strip of n cells has n cells -/
theorem cnt_pcl {s : SH} (g : GS s) {q n : Nat} (hq : q < 96) (h8 : q % 8 + n ≤ sW s) (h6 : q % 48 / 8 < sH s) : cnt (pcl s q n) 64 = n := by
  have gw := g.1
  have gh := g.2.1
  induction n with
  | zero => exact cnt_none 64 (fun i _ ⟨j, hj, _⟩ => absurd hj (Nat.not_lt_zero j))
  | succ n ih =>
    have hin : ∀ i, i < n + 1 → qcell s (q + i) < 48 ∧ ∀ j, j < n + 1 → qcell s (q + i) = qcell s (q + j) → i = j := fun i hi => by
      refine ⟨by unfold qcell; split <;> omega, fun j hj he => ?_⟩
      unfold qcell at he
      split at he <;> split at he <;> omega
    have e := cnt_congr (P := pcl s q (n + 1)) (Q := uX (pcl s q n) (fun b => b = qcell s (q + n))) 64 (fun b _ => ⟨fun ⟨j, hj, e⟩ => by
      rcases (by omega : j < n ∨ j = n) with z | z
      · exact Or.inl ⟨j, z, e⟩
      · exact Or.inr (z ▸ e), fun z => z.elim (fun ⟨j, hj, e⟩ => ⟨j, by omega, e⟩) (fun e => ⟨n, by omega, e⟩)⟩)
    rw [e, cnt_un (fun b _ h1 ⟨j, hj, h2⟩ => by
      have h1 : b = qcell s (q + n) := h1
      have := (hin n (by omega)).2 j (by omega) (h1.symm.trans h2)
      omega), ih (by omega), cnt_is (by have := (hin n (by omega)).1; omega)]
theorem plC_take {s : SH} {l : List (Nat × Nat)} {i : Nat} (hi : i < l.length) : plC s (l.take (i + 1)) = uX (plC s (l.take i)) (pcl s (l.getD i (0, 0)).2 (l.getD i (0, 0)).1) := by
  rw [List.take_succ_eq_append_getElem hi, show l.getD i (0, 0) = l[i] by simp only [List.getD_eq_getElem?_getD, List.getElem?_eq_getElem hi, Option.getD_some]]
  exact plC_app (n := l[i].1) (q := l[i].2) _
theorem plV_at {s : SH} : ∀ {l : List (Nat × Nat)} {k : Nat} {X : Nat → Prop}, plV s k X l → ∀ i, i < l.length → ∃ k2, stOK s k2 (l.getD i (0, 0)).2 (l.getD i (0, 0)).1 (uX X (plC s (l.take i)))
  | [], _, _, _, i, hi => absurd hi (Nat.not_lt_zero i)
  | (n, q) :: r, k, X, h, 0, _ => ⟨k, by
    have h1 := h.1
    rw [show uX X (plC s (List.take 0 ((n, q) :: r))) = X from funext fun b => propext ⟨fun z => z.resolve_right id, Or.inl⟩]
    exact h1⟩
  | (n, q) :: r, k, X, h, i + 1, hi => by
    obtain ⟨k2, h2⟩ := plV_at h.2 i (by rw [List.length_cons] at hi; omega)
    refine ⟨k2, ?_⟩
    rw [show uX X (plC s (List.take (i + 1) ((n, q) :: r))) = uX (uX X (pcl s q n)) (plC s (List.take i r)) from funext fun b => propext or_assoc.symm]
    exact h2
noncomputable def tkL (s : SH) (l : List (Nat × Nat)) : SH := tkS s (plC s l) l.length (cnt (plC s l) 64)
theorem tkL_step {s : SH} (g : GS s) {l : List (Nat × Nat)} (hv : plV s 0 noA l) {i : Nat} (hi : i < l.length) : tkS (tkL s (l.take i)) (pcl s (l.getD i (0, 0)).2 (l.getD i (0, 0)).1) 1 (l.getD i (0, 0)).1 = tkL s (l.take (i + 1)) := by
  obtain ⟨k2, hs⟩ := plV_at hv i hi
  have h2 := stOK_has g hs
  have hc := cnt_pcl g hs.1.2 h2.2.2 h2.1.1
  unfold tkL
  rw [tk_tk, plC_take hi, cnt_un (fun b _ h1 h3 => hs.2.2.2 b h1 (Or.inr h3)), hc, List.length_take, List.length_take, Nat.min_eq_left (Nat.le_of_lt hi), Nat.min_eq_left hi]
set_option maxHeartbeats 1500000 in
set_option maxRecDepth 100000 in
theorem x_cutsPlan {d k gg : Nat} {h : AH} {s : SH} (l : LW h k gg s) {l0 : List (Nat × Nat)} (hv : plV s 0 noA l0) (hb : PLb h k s l0) (h8 : l0.length ≤ 8) : AC mX6_cutsPlan (d + 2) 0 0 [.ref (aN k), .int (nI l0.length)] h (Qu (fun h2 => LW h2 k gg (tkL s l0) ∧ Dq (SG k gg s) 0 h h2 ∧ hN h2 = hN h)) := by
  obtain ⟨⟨bs, pa, pn, pb, pg⟩, ⟨f0, f1, f4, f7, f8⟩, ⟨r9, r10, r5⟩, ⟨L, Z, rL, rZ, ⟨kL, pL⟩, ⟨kZ, pZ⟩, lin, siz⟩, ⟨M, rM, sM⟩, gon⟩ := id l
  have g := bs.1
  have gw := g.1
  have gh := g.2.1
  have gs := g.2.2.1
  have bw := bs.2.1
  have bh := bs.2.2.1
  have bl := bs.2.2.2
  have c12 := cells12 bs
  refine AC.of (by decide) rfl (Nat.le_of_ble_eq_true rfl) (fun X => ?_)
  show AW X mX6_cutsPlan (d + 2) 0 0 0 [(0, .ref (aN k)), (1, .int (nI l0.length))] [] h (Qu (fun h2 => LW h2 k gg (tkL s l0) ∧ Dq (SG k gg s) 0 h h2 ∧ hN h2 = hN h))
  have okB : ¬ SG k gg s (bstN k) := by
    rintro (z | z)
    · have := kd_a (k := k); rw [← z, kd_bst] at this; cases this
    · have := kd_gon (k := k) (g := gg) bs; rw [← z, kd_bst] at this; cases this
  refine a_iconst (pc := 0) (v := nI 0) dX6_cutsPlan_0 (by decide) ?_
  refine a_istore_n (pc := 1) (i := 2) (ls' := [(0, .ref (aN k)), (1, .int (nI l0.length)), (2, .int (nI 0))]) dX6_cutsPlan_1 rfl (by decide) rfl ?_
  have LP : ∀ (fu : Nat) (i : Nat) (H : AH), i ≤ l0.length → LW H k gg (tkL s (l0.take i)) → Dq (SG k gg s) 0 h H → hN H = hN h → l0.length - i < fu → AW X mX6_cutsPlan (d + 2) 0 0 2 [(0, .ref (aN k)), (1, .int (nI l0.length)), (2, .int (nI i))] [] H (Qu (fun h2 => LW h2 k gg (tkL s l0) ∧ Dq (SG k gg s) 0 h h2 ∧ hN h2 = hN h)) := by
    intro fu
    induction fu with
    | zero => intro i H hi hl hd hNe hz; exact absurd hz (Nat.not_lt_zero _)
    | succ fu ih =>
      intro i H hi hl hd hNe hz
      have pa2 : prN (hN H) (aN k) := by rw [hNe]; exact pa
      refine a_iload_n (pc := 2) (i := 2) dX6_cutsPlan_2 rfl rfl ?_
      refine a_iload_n (pc := 3) (i := 1) dX6_cutsPlan_3 rfl rfl ?_
      refine n_icmp_ge (pc := 4) (tgt := 35) dX6_cutsPlan_4 (by decide) (by omega) (by omega) (fun c4 => ?_) (fun c4 => ?_)
      · have ei : i = l0.length := by omega
        have el : LW H k gg (tkL s l0) := by rw [ei, List.take_length] at hl; exact hl
        exact a_return (pc := 35) dX6_cutsPlan_35 rfl (⟨rfl, el, hd, hNe⟩)
      · skip
        obtain ⟨k2, hs⟩ := plV_at hv i c4
        have h2 := stOK_has g hs
        have hn := hs.1
        obtain ⟨a1, a2, a3⟩ := q_pq g hs.1.2 h2.1
        have hst := tkL_step g hv c4
        obtain ⟨n, hn0⟩ : ∃ n, n = (l0.getD i (0, 0)).1 := ⟨_, rfl⟩
        obtain ⟨q, hq0⟩ : ∃ q, q = (l0.getD i (0, 0)).2 := ⟨_, rfl⟩
        have hb0 := hb i c4
        unfold cds at hb0
        rw [← hn0, ← hq0] at hb0 hst h2 hn
        rw [← hq0] at a1 a2 a3
        obtain ⟨sd, hsd0⟩ : ∃ sd, sd = q / 48 := ⟨_, rfl⟩
        obtain ⟨p, hp0⟩ : ∃ p, p = qpl s q := ⟨_, rfl⟩
        rw [← hsd0, ← hp0] at hb0 a3
        rw [← hsd0] at a1
        rw [← hp0] at a2
        have hbst : hI H (bstN k) i = nI (cdN n sd p) := by rw [(hd.2.2 (bstN k) pb okB).1]; exact hb0.1
        have hpm := (pq_ok g a1 a2).2.2.2.1
        rw [a3] at hpm
        refine a_aload_n (pc := 7) (i := 0) dX6_cutsPlan_7 rfl rfl ?_
        refine a_aload_n (pc := 8) (i := 0) dX6_cutsPlan_8 rfl rfl ?_
        refine a_iload_n (pc := 9) (i := 2) dX6_cutsPlan_9 rfl rfl ?_
        refine a_iconst (pc := 10) (v := nI 1) dX6_cutsPlan_10 (by decide) ?_
        refine g_vV1 (pc := 11) (as := [.int (nI i), .int (nI 1)]) (b := aN k) (ci := 6) (v := .int (nI (ofN (tkL s (l0.take i)) n sd p 1))) (h' := H) dX6_cutsPlan_11 (lc_RX6_125 rfl) ceX6_ofCut kd_a pa2 (x_ofCut (d := d) hl a1 a2 (i := i) (n := n) (w := 1) (by omega) (by omega) ⟨hn.1, h2.2.1⟩ hbst) rfl rfl (Nat.le_of_ble_eq_true rfl) rfl ?_
        refine a_top (show (.int (nI (ofN (tkL s (l0.take i)) n sd p 1)) : Value) = .int (nI sd) from rfl) ?_
        refine a_aload_n (pc := 14) (i := 0) dX6_cutsPlan_14 rfl rfl ?_
        refine a_iload_n (pc := 15) (i := 2) dX6_cutsPlan_15 rfl rfl ?_
        refine a_iconst (pc := 16) (v := nI 2) dX6_cutsPlan_16 (by decide) ?_
        refine g_vV1 (pc := 17) (as := [.int (nI i), .int (nI 2)]) (b := aN k) (ci := 6) (v := .int (nI (ofN (tkL s (l0.take i)) n sd p 2))) (h' := H) dX6_cutsPlan_17 (lc_RX6_125 rfl) ceX6_ofCut kd_a pa2 (x_ofCut (d := d) hl a1 a2 (i := i) (n := n) (w := 2) (by omega) (by omega) ⟨hn.1, h2.2.1⟩ hbst) rfl rfl (Nat.le_of_ble_eq_true rfl) rfl ?_
        refine a_top (show (.int (nI (ofN (tkL s (l0.take i)) n sd p 2)) : Value) = .int (nI p) from rfl) ?_
        refine a_aload_n (pc := 20) (i := 0) dX6_cutsPlan_20 rfl rfl ?_
        refine a_iload_n (pc := 21) (i := 2) dX6_cutsPlan_21 rfl rfl ?_
        refine a_iconst (pc := 22) (v := nI 0) dX6_cutsPlan_22 (by decide) ?_
        refine g_vV1 (pc := 23) (as := [.int (nI i), .int (nI 0)]) (b := aN k) (ci := 6) (v := .int (nI (ofN (tkL s (l0.take i)) n sd p 0))) (h' := H) dX6_cutsPlan_23 (lc_RX6_125 rfl) ceX6_ofCut kd_a pa2 (x_ofCut (d := d) hl a1 a2 (i := i) (n := n) (w := 0) (by omega) (by omega) ⟨hn.1, h2.2.1⟩ hbst) rfl rfl (Nat.le_of_ble_eq_true rfl) rfl ?_
        refine a_top (show (.int (nI (ofN (tkL s (l0.take i)) n sd p 0)) : Value) = .int (nI n) from rfl) ?_
        refine g_uV (pc := 26) (as := [.int (nI sd), .int (nI p), .int (nI n)]) (b := aN k) (ci := 6) dX6_cutsPlan_26 (lc_RX6_128 rfl) ceX6_cutsOff kd_a pa2 (x_cutsOff (d := d) hl a1 a2 (n := n) (by show p % sW s + n ≤ sW s; omega)) rfl rfl (Nat.le_of_ble_eq_true rfl) (fun h2 y => y.2.2) (fun H2 y2 => ?_)
        obtain ⟨y1, y3, y4⟩ := y2
        have y5 : LW H2 k gg (tkL s (l0.take (i + 1))) := by
          have y1 : LW H2 k gg (tkS (tkL s (l0.take i)) (pcl s (pq s sd p) n) 1 n) := y1
          rw [a3, hst] at y1
          exact y1
        refine n_iinc (pc := 29) (k := 1) (ls' := [(0, .ref (aN k)), (1, .int (nI l0.length)), (2, .int (nI (i + 1)))]) dX6_cutsPlan_29 rfl (by decide) (by decide) rfl ?_
        refine a_goto (pc := 32) (tgt := 2) dX6_cutsPlan_32 (by decide) ?_
        exact ih (i + 1) H2 (by omega) y5 (hd.trans y3) (y4.trans hNe) (by omega)
  exact LP (l0.length + 1) 0 h (by omega) (by rw [List.take_zero]; show LW h k gg (tkS s (plC s []) 0 (cnt (plC s []) 64)); rw [tk_0]; exact l) (Dq.refl (prN_68 pa)) rfl (by omega)
