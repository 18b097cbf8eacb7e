/-! the law's Sheet: cutsOff -/
def SG (k gg : Nat) (s : SH) : Nat → Prop := fun x => x = aN k ∨ x = gonN k gg s
theorem okS_SG {k gg : Nat} {s : SH} (b : BS s) : okS (SG k gg s) := okS_k (by
  rintro x (rfl | rfl)
  · exact Or.inr (Or.inl kd_a)
  · exact Or.inr (Or.inr (Or.inl ⟨_, kd_gon b⟩)))
theorem Fr.dq {S : List Nat} {h h2 : AH} (f : Fr S h h2) (hn : 68 ≤ hN h) : Dq (fun x => x ∈ S) 0 h h2 := ⟨by rw [f.1]; exact ⟨hn, rfl⟩, fun a ha => by rw [f.1]; exact ha, fun a _ hs => ⟨(f.2.2 a hs).1, (f.2.2 a hs).2, by rw [f.2.1]⟩⟩
theorem prN_68 {N k q : Nat} (h : prN N (nm k q)) : 68 ≤ N := by
  rcases Nat.lt_or_ge N 68 with z | z
  · have := (prN_low (Nat.le_of_lt z)).mp h
    unfold nm at this
    omega
  · exact z
def offP (s : SH) (sd p j c : Nat) : Prop := ∃ i, i < j ∧ c = clN s sd (p + i)
theorem off_pcl {s : SH} (g : GS s) {sd p n c : Nat} (hsd : sd < 2) (hp : p < sCells s) (hn : p % sW s + n ≤ sW s) (hc : c < sCells s) : offP s sd p n c ↔ pcl s (pq s sd p) n (8 * (c / sW s) + c % sW s) := by
  have e0 : 8 * (c / sW s) + c % sW s = pq s 0 c := by unfold pq; omega
  rw [e0]
  constructor
  · rintro ⟨i, hi, rfl⟩
    obtain ⟨u1, u2⟩ := row_in (j := i) g hp (by omega)
    exact ⟨i, hi, by rw [← u2 sd, qcell_pq g hsd u1]⟩
  · rintro ⟨i, hi, e⟩
    obtain ⟨u1, u2⟩ := row_in (j := i) g hp (by omega)
    rw [← u2 sd, qcell_pq g hsd u1] at e
    exact ⟨i, hi, (pq_inj g (by omega) (by omega) hc (clN_ok (sd := sd) g u1).1 e).2⟩
set_option maxHeartbeats 1500000 in
set_option maxRecDepth 100000 in
theorem x_cell0 {d k sd p : Nat} {h : AH} {s : SH} (hsd : sd < 2) (hp : p < sCells s) (g : GS s) (pa : prN (hN h) (aN k)) (f0 : hI h (aN k) 0 = nI (sW s)) : AC mX6_cell d 0 0 [.ref (aN k), .int (nI sd), .int (nI p)] h (Qe (some (.int (nI (clN s sd p)))) h) := by
  have gw := g.1
  have gh := g.2.1
  obtain ⟨p1, p2, p3⟩ := pl_ok g hp
  have hW : 0 < sW s := by omega
  have hp48 : p < 48 := Nat.lt_of_lt_of_le hp (Nat.mul_le_mul gw.2 gh.2)
  refine AC.of (by decide) rfl (Nat.le_of_ble_eq_true rfl) (fun X => ?_)
  show AW X mX6_cell d 0 0 0 [(0, .ref (aN k)), (1, .int (nI sd)), (2, .int (nI p))] [] h (Qe (some (.int (nI (clN s sd p)))) h)
  refine a_iload_n (pc := 0) (i := 1) dX6_cell_0 rfl rfl ?_
  refine n_if_ne (pc := 1) (tgt := 6) dX6_cell_1 (by decide) (by omega) (fun c1 => ?_) (fun c1 => ?_)
  · skip
    refine a_iload_n (pc := 6) (i := 2) dX6_cell_6 rfl rfl ?_
    refine a_aload_n (pc := 7) (i := 0) dX6_cell_7 rfl rfl ?_
    refine g_getI (pc := 8) (ci := 6) (k := 0) dX6_cell_8 (lf_RX6_7 rfl) (by decide) rfl kd_a pa ?_
    refine a_top (show (.int (hI h (aN k) 0) : Value) = .int (nI (sW s)) from congrArg Value.int f0) ?_
    refine n_idiv (pc := 11) dX6_cell_11 (by omega) (by omega) (by omega) ?_
    refine a_aload_n (pc := 12) (i := 0) dX6_cell_12 rfl rfl ?_
    refine g_getI (pc := 13) (ci := 6) (k := 0) dX6_cell_13 (lf_RX6_7 rfl) (by decide) rfl kd_a pa ?_
    refine a_top (show (.int (hI h (aN k) 0) : Value) = .int (nI (sW s)) from congrArg Value.int f0) ?_
    refine n_imul (pc := 16) dX6_cell_16 ?_
    refine a_aload_n (pc := 17) (i := 0) dX6_cell_17 rfl rfl ?_
    refine g_getI (pc := 18) (ci := 6) (k := 0) dX6_cell_18 (lf_RX6_7 rfl) (by decide) rfl kd_a pa ?_
    refine a_top (show (.int (hI h (aN k) 0) : Value) = .int (nI (sW s)) from congrArg Value.int f0) ?_
    refine n_iadd (pc := 21) dX6_cell_21 ?_
    refine a_iconst (pc := 22) (v := nI 1) dX6_cell_22 (by decide) ?_
    refine n_isub (pc := 23) dX6_cell_23 (by omega) ?_
    refine a_istore_n (pc := 24) (i := 3) (ls' := [(0, .ref (aN k)), (1, .int (nI sd)), (2, .int (nI p)), (3, .int (nI ((((p / (sW s)) * (sW s)) + (sW s)) - 1)))]) dX6_cell_24 rfl (by decide) rfl ?_
    refine a_iload_n (pc := 25) (i := 3) dX6_cell_25 rfl rfl ?_
    refine a_iload_n (pc := 26) (i := 2) dX6_cell_26 rfl rfl ?_
    refine a_aload_n (pc := 27) (i := 0) dX6_cell_27 rfl rfl ?_
    refine g_getI (pc := 28) (ci := 6) (k := 0) dX6_cell_28 (lf_RX6_7 rfl) (by decide) rfl kd_a pa ?_
    refine a_top (show (.int (hI h (aN k) 0) : Value) = .int (nI (sW s)) from congrArg Value.int f0) ?_
    refine n_irem (pc := 31) dX6_cell_31 (by omega) (by omega) (by omega) ?_
    refine n_isub (pc := 32) dX6_cell_32 (by omega) ?_
    refine a_top (show (.int (nI (((((p / (sW s)) * (sW s)) + (sW s)) - 1) - (p % (sW s)))) : Value) = .int (nI (clN s sd p)) from by unfold clN; rw [if_neg (by omega)]; congr 3; omega) ?_
    exact a_ireturn (pc := 33) dX6_cell_33 rfl rfl (⟨rfl, rfl⟩)
  · skip
    refine a_iload_n (pc := 4) (i := 2) dX6_cell_4 rfl rfl ?_
    refine a_top (show (.int (nI p) : Value) = .int (nI (clN s sd p)) from by unfold clN; rw [if_pos c1]) ?_
    exact a_ireturn (pc := 5) dX6_cell_5 rfl rfl (⟨rfl, rfl⟩)
set_option maxHeartbeats 1500000 in
set_option maxRecDepth 100000 in
theorem x_cutsOff {d k gg : Nat} {h : AH} {s : SH} (l : LW h k gg s) {sd p n : Nat} (hsd : sd < 2) (hp : p < sCells s) (hn : p % sW s + n ≤ sW s) : AC mX6_cutsOff (d + 1) 0 0 [.ref (aN k), .int (nI sd), .int (nI p), .int (nI n)] h (Qu (fun h2 => LW h2 k gg (tkS s (pcl s (pq s sd p) n) 1 n) ∧ Dq (SG k gg s) 0 h h2 ∧ hN h2 = hN h)) := by
  obtain ⟨⟨bs, pa, pn, pb, pg⟩, ⟨f0, f1, f4, f7, f8⟩, ⟨r9, r10, r5⟩, ⟨L, Z, rL, rZ, ⟨kL, pL⟩, ⟨kZ, pZ⟩, lin, siz⟩, ⟨M, rM, sM⟩, gon⟩ := id l
  have g := bs.1
  have gw := g.1
  have gh := g.2.1
  have gs := g.2.2.1
  have bw := bs.2.1
  have bh := bs.2.2.1
  have bl := bs.2.2.2
  have c12 := cells12 bs
  refine AC.of (by decide) rfl (Nat.le_of_ble_eq_true rfl) (fun X => ?_)
  show AW X mX6_cutsOff (d + 1) 0 0 0 [(0, .ref (aN k)), (1, .int (nI sd)), (2, .int (nI p)), (3, .int (nI n))] [] h (Qu (fun h2 => LW h2 k gg (tkS s (pcl s (pq s sd p) n) 1 n) ∧ Dq (SG k gg s) 0 h h2 ∧ hN h2 = hN h))
  have LP : ∀ (fu : Nat) (j : Nat) (H : AH), j ≤ n → Fr [gonN k gg s] h H → (∀ c, c < sCells s → hI H (gonN k gg s) c = bi (sGn s c ∨ offP s sd p j c)) → n - j < fu → AW X mX6_cutsOff (d + 1) 0 0 3 [(0, .ref (aN k)), (1, .int (nI sd)), (2, .int (nI p)), (3, .int (nI n)), (4, .int (nI j))] [] H (Qu (fun h2 => LW h2 k gg (tkS s (pcl s (pq s sd p) n) 1 n) ∧ Dq (SG k gg s) 0 h h2 ∧ hN h2 = hN h)) := by
    intro fu
    induction fu with
    | zero => intro j H hj hf hg hz; exact absurd hz (Nat.not_lt_zero _)
    | succ fu ih =>
      intro j H hj hf hg hz
      have hdq := hf.dq (prN_68 pa)
      have hag : aN k ∉ [gonN k gg s] := by simp only [List.mem_singleton]; intro e; have := kd_a (k := k); rw [e, kd_gon bs] at this; cases this
      have pa2 : prN (hN H) (aN k) := by rw [hf.1]; exact pa
      have pg2 : prN (hN H) (gonN k gg s) := by rw [hf.1]; exact pg
      have eA := (hf.2.2 _ hag).1
      refine a_iload (pc := 3) (i := 4) dX6_cutsOff_3 rfl ?_
      refine a_iload_n (pc := 5) (i := 3) dX6_cutsOff_5 rfl rfl ?_
      refine n_icmp_ge (pc := 6) (tgt := 30) dX6_cutsOff_6 (by decide) (by omega) (by omega) (fun c6 => ?_) (fun c6 => ?_)
      · have ej : j = n := by omega
        refine a_aload_n (pc := 30) (i := 0) dX6_cutsOff_30 rfl rfl ?_
        refine a_dup (pc := 31) dX6_cutsOff_31 rfl ?_
        refine g_getI (pc := 32) (ci := 6) (k := 7) dX6_cutsOff_32 (lf_RX6_53 rfl) (by decide) rfl kd_a pa2 ?_
        refine a_top (show (.int (hI H (aN k) 7) : Value) = .int (nI (sCu s)) from congrArg Value.int (by rw [eA]; exact f7)) ?_
        refine a_iconst (pc := 35) (v := nI 1) dX6_cutsOff_35 (by decide) ?_
        refine n_iadd (pc := 36) dX6_cutsOff_36 ?_
        refine g_putI (pc := 37) (ci := 6) (k := 7) dX6_cutsOff_37 (lf_RX6_53 rfl) (by decide) (Or.inl rfl) kd_a pa2 rfl ?_
        refine a_aload_n (pc := 40) (i := 0) dX6_cutsOff_40 rfl rfl ?_
        refine a_dup (pc := 41) dX6_cutsOff_41 rfl ?_
        refine g_getI (pc := 42) (ci := 6) (k := 8) dX6_cutsOff_42 (lf_RX6_56 rfl) (by decide) rfl kd_a pa2 ?_
        refine a_top (show (.int (hI (sI H (aN k) 7 (nI ((sCu s) + 1))) (aN k) 8) : Value) = .int (nI (sTk s)) from congrArg Value.int (by rw [hI_sI, if_neg (by omega), eA]; exact f8)) ?_
        refine a_iload_n (pc := 45) (i := 3) dX6_cutsOff_45 rfl rfl ?_
        refine n_iadd (pc := 46) dX6_cutsOff_46 ?_
        refine g_putI (pc := 47) (ci := 6) (k := 8) dX6_cutsOff_47 (lf_RX6_56 rfl) (by decide) (Or.inl rfl) kd_a pa2 rfl ?_
        have hga : gonN k gg s ≠ aN k := fun e => hag (by rw [e]; exact List.mem_singleton.mpr rfl)
        have dq : Dq (SG k gg s) 0 h (sI (sI H (aN k) 7 (nI (sCu s + 1))) (aN k) 8 (nI (sTk s + n))) := ((hdq.mono (S2 := SG k gg s) (fun x hx => Or.inr (List.mem_singleton.mp hx))).sI (Or.inl (show SG k gg s (aN k) from Or.inl rfl))).sI (Or.inl (show SG k gg s (aN k) from Or.inl rfl))
        have eR : hR (sI (sI H (aN k) 7 (nI (sCu s + 1))) (aN k) 8 (nI (sTk s + n))) = hR h := hf.2.1
        have bs2 : BS (tkS s (pcl s (pq s sd p) n) 1 n) := ⟨GS_tk g, bw, bh, bl⟩
        refine a_return (pc := 50) dX6_cutsOff_50 rfl (⟨rfl, ⟨⟨bs2, dq.2.1 _ pa, dq.2.1 _ pn, dq.2.1 _ pb, dq.2.1 _ pg⟩, ⟨?_, ?_, ?_, ?_, ?_⟩, by rw [eR]; exact ⟨r9, r10, r5⟩, ⟨L, Z, ?_⟩, ⟨M, by rw [eR]; exact rM, sM.dq dq (okS_SG bs).str⟩, fun c hc => ?_⟩, dq, hf.1⟩)
        · rw [hI_sI, if_neg (by omega), hI_sI, if_neg (by omega), eA]; exact f0
        · rw [hI_sI, if_neg (by omega), hI_sI, if_neg (by omega), eA]; exact f1
        · rw [hI_sI, if_neg (by omega), hI_sI, if_neg (by omega), eA]; exact f4
        · rw [hI_sI, if_neg (by omega), hI_sI, if_pos ⟨rfl, rfl⟩]; rfl
        · rw [hI_sI, if_pos ⟨rfl, rfl⟩]; rfl
        · exact LZ.dq (s := s) ⟨rL, rZ, ⟨kL, pL⟩, ⟨kZ, pZ⟩, lin, siz⟩ dq (okS_SG bs) pa (by rw [eR]; exact ⟨rfl, rfl⟩) (by omega)
        · have hc : c < sCells s := hc
          show hI (sI (sI H (aN k) 7 (nI (sCu s + 1))) (aN k) 8 (nI (sTk s + n))) (gonN k gg s) c = _
          rw [hI_sI, if_neg (fun z => hga z.1), hI_sI, if_neg (fun z => hga z.1), hg c hc, ej]
          exact bi_c (or_congr Iff.rfl (off_pcl g hsd hp hn hc))
      · skip
        obtain ⟨u1, u2⟩ := row_in (j := j) g hp (by omega)
        have hcl := (clN_ok (sd := sd) g u1).1
        have l2 : LW H k gg s → True := fun _ => trivial
        refine a_aload_n (pc := 9) (i := 0) dX6_cutsOff_9 rfl rfl ?_
        refine g_getR (pc := 10) (ci := 6) (k := 5) (b := gonN k gg s) dX6_cutsOff_10 (lf_RX6_31 rfl) (by decide) rfl kd_a pa2 (by rw [hf.2.1]; exact r5) ?_
        refine a_aload_n (pc := 13) (i := 0) dX6_cutsOff_13 rfl rfl ?_
        refine a_iload_n (pc := 14) (i := 1) dX6_cutsOff_14 rfl rfl ?_
        refine a_iload_n (pc := 15) (i := 2) dX6_cutsOff_15 rfl rfl ?_
        refine a_iload (pc := 16) (i := 4) dX6_cutsOff_16 rfl ?_
        refine n_iadd (pc := 18) dX6_cutsOff_18 ?_
        have xc : AC mX6_cell d 0 0 [.ref (aN k), .int (nI sd), .int (nI (p + j))] H (Qe (some (.int (nI (clN s sd (p + j))))) H) := x_cell0 hsd u1 g pa2 (by rw [eA]; exact f0)
        refine g_vV1 (pc := 19) (as := [.int (nI sd), .int (nI (p + j))]) (b := aN k) (ci := 6) (v := .int (nI (clN s sd (p + j)))) (h' := H) dX6_cutsOff_19 (lc_RX6_67 rfl) ceX6_cell kd_a pa2 xc rfl rfl (Nat.le_of_ble_eq_true rfl) rfl ?_
        refine a_iconst (pc := 22) (v := nI 1) dX6_cutsOff_22 (by decide) ?_
        refine g_zast (pc := 23) (j := (clN s sd (p + j))) dX6_cutsOff_23 (kd_gon bs) pg2 rfl (by omega) ?_
        refine n_iinc (pc := 24) (k := 1) (ls' := [(0, .ref (aN k)), (1, .int (nI sd)), (2, .int (nI p)), (3, .int (nI n)), (4, .int (nI (j + 1)))]) dX6_cutsOff_24 rfl (by decide) (by decide) rfl ?_
        refine a_goto (pc := 27) (tgt := 3) dX6_cutsOff_27 (by decide) ?_
        exact ih (j + 1) _ (by omega) (hf.sI (List.mem_singleton.mpr rfl)) (fun c hc => by
      rw [hI_sI]
      by_cases e : c = clN s sd (p + j)
      · rw [if_pos ⟨rfl, e⟩, bi_t (show sGn s c ∨ offP s sd p (j + 1) c from Or.inr ⟨j, by omega, e⟩)]; rfl
      · rw [if_neg (fun z => e z.2), hg c hc]
        exact bi_c (or_congr Iff.rfl ⟨fun ⟨i, hi, z⟩ => ⟨i, by omega, z⟩, fun ⟨i, hi, z⟩ => ⟨i, by rcases (by omega : i < j ∨ i = j) with y | y; exact y; exact absurd (y ▸ z) e, z⟩⟩)) (by omega)
  refine a_iconst (pc := 0) (v := nI 0) dX6_cutsOff_0 (by decide) ?_
  refine a_istore (pc := 1) (i := 4) (ls' := [(0, .ref (aN k)), (1, .int (nI sd)), (2, .int (nI p)), (3, .int (nI n)), (4, .int (nI 0))]) dX6_cutsOff_1 (by decide) rfl ?_
  exact LP (n + 1) 0 h (by omega) Fr.refl (fun c hc => by rw [gon c hc]; exact bi_c ⟨Or.inl, fun z => z.resolve_right (fun ⟨i, hi, _⟩ => absurd hi (Nat.not_lt_zero i))⟩) (by omega)
