/-! the law's Sheet: checksum -/
theorem stV_td {s : SH} : ∀ {k : Nat}, k < 8 → stV s k = nI (tdN s k)
  | 0, _ => rfl
  | 1, _ => rfl
  | 2, _ => rfl
  | 3, _ => rfl
  | 4, _ => rfl
  | 5, _ => rfl
  | 6, _ => rfl
  | 7, _ => rfl
  | k + 8, h => absurd h (by omega)
noncomputable def ckP (s : SH) (sd : Nat) (v : Int64) : Nat → Int64
  | 0 => v
  | n + 1 => 31 * (31 * ckP s sd v n + (flet s (pq s sd n)).toInt64) + (nI (sSz s sd (n / sW s))).toInt64
noncomputable def ckA (s : SH) : Nat → Int64
  | 0 => ck1 s 8
  | i + 1 => ckP s i (ckA s i) (sCells s)
theorem ck2_skip {s : SH} {a : Nat} : ∀ n, (∀ i, i < n → ¬ qhas s (a + i)) → ck2 s (a + n) = ck2 s a
  | 0, _ => rfl
  | n + 1, h => by
    show cif (qhas s (a + n)) _ (ck2 s (a + n)) = _
    rw [cif_f (h n (Nat.lt_succ_self n))]
    exact ck2_skip n (fun i hi => h i (by omega))
theorem ck2_side {s : SH} (g : GS s) {sd : Nat} (hsd : sd < 2) : ck2 s (48 * sd + 48) = ckP s sd (ck2 s (48 * sd)) (sCells s) := by
  have gw := g.1
  have gh := g.2.1
  have e : sCells s = sH s * sW s := Nat.mul_comm _ _
  have row : ∀ r, r < sH s → ck2 s (48 * sd + 8 * r) = ckP s sd (ck2 s (48 * sd)) (r * sW s) → ∀ c, c ≤ sW s → ck2 s (48 * sd + 8 * r + c) = ckP s sd (ck2 s (48 * sd)) (r * sW s + c) := by
    intro r hr h0 c
    induction c with
    | zero => exact fun _ => h0
    | succ c ih =>
      intro hc
      have hlt : r * sW s + c < sCells s := by
        rw [e]
        have := Nat.mul_le_mul_right (sW s) (show r + 1 ≤ sH s from hr)
        rw [Nat.succ_mul] at this
        omega
      have hd := rw_div (W := sW s) (r := r) (x := c) (by omega)
      have ep : pq s sd (r * sW s + c) = 48 * sd + 8 * r + c := by unfold pq; rw [hd.1, hd.2]; omega
      have hq := (pq_ok g hsd hlt).2.2.2.2.1
      have hz := qsz_pq g hsd hlt
      rw [ep] at hq hz
      show cif (qhas s (48 * sd + 8 * r + c)) (31 * (31 * ck2 s (48 * sd + 8 * r + c) + (flet s (48 * sd + 8 * r + c)).toInt64) + (nI (qsz s (48 * sd + 8 * r + c))).toInt64) _ = 31 * (31 * ckP s sd (ck2 s (48 * sd)) (r * sW s + c) + (flet s (pq s sd (r * sW s + c))).toInt64) + (nI (sSz s sd ((r * sW s + c) / sW s))).toInt64
      rw [cif_t hq, ih (by omega), hz, ep]
  have rows : ∀ r, r ≤ sH s → ck2 s (48 * sd + 8 * r) = ckP s sd (ck2 s (48 * sd)) (r * sW s) := by
    intro r
    induction r with
    | zero => intro _; rw [Nat.zero_mul]; rfl
    | succ r ih =>
      intro hr
      have h1 := row r hr (ih (by omega)) (sW s) (Nat.le_refl _)
      have h2 := ck2_skip (s := s) (a := 48 * sd + 8 * r + sW s) (8 - sW s) (fun i hi z => by
        have h2 : (48 * sd + 8 * r + sW s + i) % 8 < sW s := z.2
        omega)
      rw [show 48 * sd + 8 * (r + 1) = 48 * sd + 8 * r + sW s + (8 - sW s) by omega, h2, h1, Nat.succ_mul r (sW s)]
  have h3 := ck2_skip (s := s) (a := 48 * sd + 8 * sH s) (48 - 8 * sH s) (fun i hi z => by
    have h2 : (48 * sd + 8 * sH s + i) % 48 / 8 < sH s := z.1
    omega)
  rw [show 48 * sd + 48 = 48 * sd + 8 * sH s + (48 - 8 * sH s) by omega, h3, rows _ (Nat.le_refl _), e]
theorem ckA_2 {s : SH} (g : GS s) : ckA s 2 = ck2 s 96 := by
  have h0 := ck2_side g (sd := 0) (by omega)
  have h1 := ck2_side g (sd := 1) (by omega)
  rw [show 48 * 1 + 48 = 96 from rfl] at h1
  rw [h1, show 48 * 1 = 48 * 0 + 48 from rfl, h0]
  rfl
theorem ck_ms {v : Int64} {m : Nat} (hm : m < 26) : v + (nI (97 + m)).toInt64 - 97 = v + (nI m).toInt64 := by
  have key : ∀ m : Fin 26, (nI (97 + m.1)).toInt64 = (nI m.1).toInt64 + 97 := by decide +kernel
  rw [key ⟨m, hm⟩, ← Int64.add_assoc, Int64.add_sub_cancel]
theorem bestR_0 {s : SH} (g : GS s) (h : sLen s = 0) : bestR s = 0 := by
  have hv : plV s 0 noA [] := h.symm
  have hb : BP s noA [] := min_BP g hv (fun l2 h2 z => by
    have := plV_le h2
    cases l2 with
    | nil => exact ahd_irr z
    | cons c r => rw [List.length_cons] at this; omega)
  rw [(bestR_eq (by omega)).1 [] hb]
  rfl
def QCk (k : Nat) (s : SH) (h : AH) : Res → AH → Prop := fun r h2 => r = .inl (some (.long (ckS s))) ∧ FrS k h h2
section RW94
variable {X : XT} {mt : MT} {d kc ks pc : Nat} {ls ls' : List (Nat × Value)} {st : List Value} {h : AH} {Q : Res → AH → Prop}
theorem g_wV {mt' : MT} {idx n b ci : Nat} {as stk : List Value} {R : Res → AH → Prop} (hd : decode (mB mt) pc = .ok (.invokevirtual idx, 3)) (hl : Cond.methodLink (mN mt).cls idx (mN mt') ∈ lw_tb2 ∧ Cond.instanceMethod (mN mt') ∈ lw_tb2 ∧ Cond.selects (cR ci) (mN mt') (mN mt') ∈ lw_tb2) (hce : CE mt' n) (hs : kdA b = some (.inl ci)) (hb : prN (hN h) b) (hc' : AC mt' d 0 0 (.ref b :: as) h R) (hn : as.length = n) (hstk : stk = as.reverse ++ .ref b :: st) (hst : (st.map fun v => v.category).sum ≤ 8) (hnt : ∀ E h2, ¬ R (.inr E) h2) (hR : ∀ v2 h2, R (.inl v2) h2 → hN h2 = hN h) (kk : ∀ v2 h2, R (.inl v2) h2 → AW X mt (d + 1) kc ks (pc + 3) ls (v2.toList ++ st) h2 Q) : AW X mt (d + 1) kc ks pc ls stk h Q :=
  g_callV (mc := 0) (ms := 0) hd hl hce hs hb hc' hn hstk hst hnt (Or.inl hR) kk
end RW94
set_option maxHeartbeats 1500000 in
set_option maxRecDepth 100000 in
theorem x_checksum {d k gg : Nat} {h : AH} {s : SH} (l : LW h k gg s) (h9 : sLen s ≤ 9) : AC mX6_checksum (d + 18) 0 0 [.ref (aN k)] h (QCk k s h) := by
  obtain ⟨⟨bs, pa, pn, pb, pg⟩, ⟨f0, f1, f4, f7, f8⟩, ⟨r9, r10, r5⟩, ⟨L, Z, rL, rZ, ⟨kL, pL⟩, ⟨kZ, pZ⟩, lin, siz⟩, ⟨M, rM, sM⟩, gon⟩ := id l
  have g := bs.1
  have gw := g.1
  have gh := g.2.1
  have gs := g.2.2.1
  have bw := bs.2.1
  have bh := bs.2.2.1
  have bl := bs.2.2.2
  have c12 := cells12 bs
  refine AC.of (by decide) rfl (Nat.le_of_ble_eq_true rfl) (fun X => ?_)
  show AW X mX6_checksum (d + 18) 0 0 0 [(0, .ref (aN k))] [] h (QCk k s h)
  refine a_lconst (pc := 0) (v := 0) dX6_checksum_0 (by decide) ?_
  refine a_lstore_n (pc := 1) (i := 1) (ls' := [(0, .ref (aN k)), (1, .long 0)]) dX6_checksum_1 rfl (by decide) rfl ?_
  refine a_iconst (pc := 2) (v := nI 0) dX6_checksum_2 (by decide) ?_
  refine a_istore_n (pc := 3) (i := 3) (ls' := [(0, .ref (aN k)), (1, .long 0), (3, .int (nI 0))]) dX6_checksum_3 rfl (by decide) rfl ?_
  have K127 : AW X mX6_checksum (d + 18) 0 0 127 [(0, .ref (aN k)), (1, .long (ck3 s (sLen s)))] [] h (QCk k s h) := by
    refine a_ldc2 (pc := 127) (v := 31) dX6_checksum_127 (lj_RX6_139 rfl) ?_
    refine a_lload_n (pc := 130) (i := 1) dX6_checksum_130 rfl rfl ?_
    refine a_lmul (pc := 131) dX6_checksum_131 ?_
    refine a_aload_n (pc := 132) (i := 0) dX6_checksum_132 rfl rfl ?_
    refine g_vV1 (pc := 133) (as := []) (b := aN k) (ci := 6) (v := .int (nI (nMiss s))) (h' := h) dX6_checksum_133 (lc_RX6_149 rfl) ceX6_missing kd_a pa (x_missing (d := d + 10) l h9) rfl rfl (Nat.le_of_ble_eq_true rfl) rfl ?_
    refine a_i2l (pc := 136) dX6_checksum_136 ?_
    refine a_ladd (pc := 137) dX6_checksum_137 ?_
    refine a_lstore_n (pc := 138) (i := 1) (ls' := [(0, .ref (aN k)), (1, .long ((31 * (ck3 s (sLen s))) + ((nI (nMiss s)).toInt64)))]) dX6_checksum_138 rfl (by decide) rfl ?_
    refine a_ldc2 (pc := 139) (v := 31) dX6_checksum_139 (lj_RX6_139 rfl) ?_
    refine a_lload_n (pc := 142) (i := 1) dX6_checksum_142 rfl rfl ?_
    refine a_lmul (pc := 143) dX6_checksum_143 ?_
    refine a_aload_n (pc := 144) (i := 0) dX6_checksum_144 rfl rfl ?_
    refine g_getR (pc := 145) (ci := 6) (k := 6) (b := M) dX6_checksum_145 (lf_RX6_37 rfl) (by decide) rfl kd_a pa rM ?_
    refine g_vStr1 (pc := 148) (as := []) (b := M) (v := .int (nI ((msT s).length))) (h' := h) dX6_checksum_148 (lc_RX6_78 rfl) ceJ0_length_8abf5 sM.ok (s_len (d := d + 16) sM) rfl rfl (Nat.le_of_ble_eq_true rfl) rfl ?_
    refine a_top (show (.int (nI ((msT s).length)) : Value) = .int (nI (sLen s)) from by rw [msT_len]) ?_
    refine n_if_ne (pc := 151) (tgt := 158) dX6_checksum_151 (by decide) (by omega) (fun c151 => ?_) (fun c151 => ?_)
    · skip
      refine a_aload_n (pc := 158) (i := 0) dX6_checksum_158 rfl rfl ?_
      refine g_wV (pc := 159) (as := []) (b := aN k) (ci := 6) dX6_checksum_159 (lc_RX6_152 rfl) ceX6_plan kd_a pa (x_plan (d := d) l) rfl rfl (Nat.le_of_ble_eq_true rfl) (fun E h2 y => by cases y.1) (fun v2 h2 y => y.2.1.1) (fun v2 H2 y => ?_)
      obtain ⟨ev, fs, -⟩ := y
      cases ev
      have l2 := l.frs fs
      have pa2 : prN (hN H2) (aN k) := by rw [fs.1]; exact pa
      show AW X mX6_checksum (d + 18) 0 0 162 [(0, .ref (aN k)), (1, .long ((31 * (ck3 s (sLen s))) + ((nI (nMiss s)).toInt64)))] (.int (bestR s) :: [.long (31 * ((31 * (ck3 s (sLen s))) + ((nI (nMiss s)).toInt64)))]) H2 _
      refine a_i2l (pc := 162) dX6_checksum_162 ?_
      refine a_ladd (pc := 163) dX6_checksum_163 ?_
      refine a_lstore_n (pc := 164) (i := 1) (ls' := [(0, .ref (aN k)), (1, .long ((31 * ((31 * (ck3 s (sLen s))) + ((nI (nMiss s)).toInt64))) + ((bestR s).toInt64)))]) dX6_checksum_164 rfl (by decide) rfl ?_
      refine a_ldc2 (pc := 165) (v := 31) dX6_checksum_165 (lj_RX6_139 rfl) ?_
      refine a_lload_n (pc := 168) (i := 1) dX6_checksum_168 rfl rfl ?_
      refine a_lmul (pc := 169) dX6_checksum_169 ?_
      refine a_aload_n (pc := 170) (i := 0) dX6_checksum_170 rfl rfl ?_
      refine g_vV1 (pc := 171) (as := []) (b := aN k) (ci := 6) (v := .int (nI (nClash s))) (h' := H2) dX6_checksum_171 (lc_RX6_155 rfl) ceX6_clashes kd_a pa2 (x_clashes (d := d + 11) l2) rfl rfl (Nat.le_of_ble_eq_true rfl) rfl ?_
      refine a_i2l (pc := 174) dX6_checksum_174 ?_
      refine a_ladd (pc := 175) dX6_checksum_175 ?_
      exact a_lreturn (pc := 176) dX6_checksum_176 rfl ⟨rfl, fs⟩
    · skip
      have eb := bestR_0 g c151
      refine a_iconst (pc := 154) (v := nI 0) dX6_checksum_154 (by decide) ?_
      refine a_top (show (.int (nI 0) : Value) = .int (bestR s) from by rw [eb]; rfl) ?_
      refine a_goto (pc := 155) (tgt := 162) dX6_checksum_155 (by decide) ?_
      refine a_i2l (pc := 162) dX6_checksum_162 ?_
      refine a_ladd (pc := 163) dX6_checksum_163 ?_
      refine a_lstore_n (pc := 164) (i := 1) (ls' := [(0, .ref (aN k)), (1, .long ((31 * ((31 * (ck3 s (sLen s))) + ((nI (nMiss s)).toInt64))) + ((bestR s).toInt64)))]) dX6_checksum_164 rfl (by decide) rfl ?_
      refine a_ldc2 (pc := 165) (v := 31) dX6_checksum_165 (lj_RX6_139 rfl) ?_
      refine a_lload_n (pc := 168) (i := 1) dX6_checksum_168 rfl rfl ?_
      refine a_lmul (pc := 169) dX6_checksum_169 ?_
      refine a_aload_n (pc := 170) (i := 0) dX6_checksum_170 rfl rfl ?_
      refine g_vV1 (pc := 171) (as := []) (b := aN k) (ci := 6) (v := .int (nI (nClash s))) (h' := h) dX6_checksum_171 (lc_RX6_155 rfl) ceX6_clashes kd_a pa (x_clashes (d := d + 11) l) rfl rfl (Nat.le_of_ble_eq_true rfl) rfl ?_
      refine a_i2l (pc := 174) dX6_checksum_174 ?_
      refine a_ladd (pc := 175) dX6_checksum_175 ?_
      exact a_lreturn (pc := 176) dX6_checksum_176 rfl ⟨rfl, FrS.refl⟩
  have LM : ∀ (fu : Nat) (j : Nat), j ≤ sLen s → sLen s - j < fu → AW X mX6_checksum (d + 18) 0 0 90 [(0, .ref (aN k)), (1, .long (ck3 s j)), (3, .int (nI j))] [] h (QCk k s h) := by
    intro fu
    induction fu with
    | zero => intro j hj hz; exact absurd hz (Nat.not_lt_zero _)
    | succ fu ih =>
      intro j hj hz
      refine a_iload_n (pc := 90) (i := 3) dX6_checksum_90 rfl rfl ?_
      refine a_aload_n (pc := 91) (i := 0) dX6_checksum_91 rfl rfl ?_
      refine g_getR (pc := 92) (ci := 6) (k := 6) (b := M) dX6_checksum_92 (lf_RX6_37 rfl) (by decide) rfl kd_a pa rM ?_
      refine g_vStr1 (pc := 95) (as := []) (b := M) (v := .int (nI ((msT s).length))) (h' := h) dX6_checksum_95 (lc_RX6_78 rfl) ceJ0_length_8abf5 sM.ok (s_len (d := d + 16) sM) rfl rfl (Nat.le_of_ble_eq_true rfl) rfl ?_
      refine a_top (show (.int (nI ((msT s).length)) : Value) = .int (nI (sLen s)) from by rw [msT_len]) ?_
      refine n_icmp_ge (pc := 98) (tgt := 127) dX6_checksum_98 (by decide) (by omega) (by omega) (fun c98 => ?_) (fun c98 => ?_)
      · have ej : j = sLen s := by omega
        refine a_drop (ls' := [(0, .ref (aN k)), (1, .long (ck3 s j))]) (by simp) ?_
        rw [ej]
        exact K127
      · skip
        have hm := g.2.2.2.2.2.2 j
        refine a_ldc2 (pc := 101) (v := 31) dX6_checksum_101 (lj_RX6_139 rfl) ?_
        refine a_lload_n (pc := 104) (i := 1) dX6_checksum_104 rfl rfl ?_
        refine a_lmul (pc := 105) dX6_checksum_105 ?_
        refine a_aload_n (pc := 106) (i := 0) dX6_checksum_106 rfl rfl ?_
        refine g_getR (pc := 107) (ci := 6) (k := 6) (b := M) dX6_checksum_107 (lf_RX6_37 rfl) (by decide) rfl kd_a pa rM ?_
        refine a_iload_n (pc := 110) (i := 3) dX6_checksum_110 rfl rfl ?_
        refine g_vStr1 (pc := 111) (as := [.int (nI j)]) (b := M) (v := .int (nI ((msT s).getD j 0))) (h' := h) dX6_checksum_111 (lc_RX6_59 rfl) ceJ0_charAt_5068e sM.ok (s_charAt (d := d + 14) sM (j := j) (by rw [msT_len]; omega)) rfl rfl (Nat.le_of_ble_eq_true rfl) rfl ?_
        refine a_top (show (.int (nI ((msT s).getD j 0)) : Value) = .int (nI (97 + sMs s j)) from by rw [msT_at (by omega)]) ?_
        refine a_i2l (pc := 114) dX6_checksum_114 ?_
        refine a_ladd (pc := 115) dX6_checksum_115 ?_
        refine a_ldc2 (pc := 116) (v := 97) dX6_checksum_116 (lj_RX6_147 rfl) ?_
        refine a_lsub (pc := 119) dX6_checksum_119 ?_
        refine a_top (show (.long (((31 * (ck3 s j)) + ((nI (97 + sMs s j)).toInt64)) - 97) : Value) = .long (ck3 s (j + 1)) from congrArg Value.long (ck_ms hm)) ?_
        refine a_lstore_n (pc := 120) (i := 1) (ls' := [(0, .ref (aN k)), (1, .long (ck3 s (j + 1))), (3, .int (nI j))]) dX6_checksum_120 rfl (by decide) rfl ?_
        refine n_iinc (pc := 121) (k := 1) (ls' := [(0, .ref (aN k)), (1, .long (ck3 s (j + 1))), (3, .int (nI (j + 1)))]) dX6_checksum_121 rfl (by decide) (by decide) rfl ?_
        refine a_goto (pc := 124) (tgt := 90) dX6_checksum_124 (by decide) ?_
        exact ih (j + 1) (by omega) (by omega)
  have LS : ∀ (fu : Nat) (i : Nat), i ≤ 2 → 2 - i < fu → AW X mX6_checksum (d + 18) 0 0 31 [(0, .ref (aN k)), (1, .long (ckA s i)), (3, .int (nI i))] [] h (QCk k s h) := by
    intro fu
    induction fu with
    | zero => intro i hi hz; exact absurd hz (Nat.not_lt_zero _)
    | succ fu ih =>
      intro i hi hz
      have ihO := ih
      refine a_iload_n (pc := 31) (i := 3) dX6_checksum_31 rfl rfl ?_
      refine a_iconst (pc := 32) (v := nI 2) dX6_checksum_32 (by decide) ?_
      refine n_icmp_ge (pc := 33) (tgt := 88) dX6_checksum_33 (by decide) (by omega) (by omega) (fun c33 => ?_) (fun c33 => ?_)
      · have ei : i = 2 := by omega
        refine a_iconst (pc := 88) (v := nI 0) dX6_checksum_88 (by decide) ?_
        refine a_istore_n (pc := 89) (i := 3) (ls' := [(0, .ref (aN k)), (1, .long (ckA s i)), (3, .int (nI 0))]) dX6_checksum_89 rfl (by decide) rfl ?_
        refine a_locs (ls' := [(0, .ref (aN k)), (1, .long (ck3 s 0)), (3, .int (nI 0))]) (by rw [ei, ckA_2 g]; rfl) ?_
        exact LM (sLen s + 1) 0 (by omega) (by omega)
      · skip
        refine a_iconst (pc := 36) (v := nI 0) dX6_checksum_36 (by decide) ?_
        refine a_istore (pc := 37) (i := 4) (ls' := [(0, .ref (aN k)), (1, .long (ckA s i)), (3, .int (nI i)), (4, .int (nI 0))]) dX6_checksum_37 (by decide) rfl ?_
        have LP : ∀ (fu : Nat) (c : Nat), c ≤ sCells s → sCells s - c < fu → AW X mX6_checksum (d + 18) 0 0 39 [(0, .ref (aN k)), (1, .long (ckP s i (ckA s i) c)), (3, .int (nI i)), (4, .int (nI c))] [] h (QCk k s h) := by
          intro fu
          induction fu with
          | zero => intro c hc hz; exact absurd hz (Nat.not_lt_zero _)
          | succ fu ih =>
            intro c hc hz
            refine a_iload (pc := 39) (i := 4) dX6_checksum_39 rfl ?_
            refine a_aload_n (pc := 41) (i := 0) dX6_checksum_41 rfl rfl ?_
            refine g_vV1 (pc := 42) (as := []) (b := aN k) (ci := 6) (v := .int (nI (sCells s))) (h' := h) dX6_checksum_42 (lc_RX6_82 rfl) ceX6_all kd_a pa (x_all (d := d + 17) l) rfl rfl (Nat.le_of_ble_eq_true rfl) rfl ?_
            refine n_icmp_ge (pc := 45) (tgt := 82) dX6_checksum_45 (by decide) (by omega) (by omega) (fun c45 => ?_) (fun c45 => ?_)
            · have ec : c = sCells s := by omega
              refine n_iinc (pc := 82) (k := 1) (ls' := [(0, .ref (aN k)), (1, .long (ckP s i (ckA s i) c)), (3, .int (nI (i + 1))), (4, .int (nI c))]) dX6_checksum_82 rfl (by decide) (by decide) rfl ?_
              refine a_goto (pc := 85) (tgt := 31) dX6_checksum_85 (by decide) ?_
              refine a_drop (ls' := [(0, .ref (aN k)), (1, .long (ckP s i (ckA s i) c)), (3, .int (nI (i + 1)))]) (by simp) ?_
              refine a_locs (ls' := [(0, .ref (aN k)), (1, .long (ckA s (i + 1))), (3, .int (nI (i + 1)))]) (by rw [ec]; rfl) ?_
              exact ihO (i + 1) (by omega) (by omega)
            · skip
              refine a_ldc2 (pc := 48) (v := 31) dX6_checksum_48 (lj_RX6_139 rfl) ?_
              refine a_ldc2 (pc := 51) (v := 31) dX6_checksum_51 (lj_RX6_139 rfl) ?_
              refine a_lload_n (pc := 54) (i := 1) dX6_checksum_54 rfl rfl ?_
              refine a_lmul (pc := 55) dX6_checksum_55 ?_
              refine a_aload_n (pc := 56) (i := 0) dX6_checksum_56 rfl rfl ?_
              refine a_iload_n (pc := 57) (i := 3) dX6_checksum_57 rfl rfl ?_
              refine a_iload (pc := 58) (i := 4) dX6_checksum_58 rfl ?_
              refine g_vV1 (pc := 60) (as := [.int (nI i), .int (nI c)]) (b := aN k) (ci := 6) (v := .int (flet s (pq s i c))) (h' := h) dX6_checksum_60 (lc_RX6_144 rfl) ceX6_letter kd_a pa (x_letter (d := d + 12) l c33 c45) rfl rfl (Nat.le_of_ble_eq_true rfl) rfl ?_
              refine a_i2l (pc := 63) dX6_checksum_63 ?_
              refine a_ladd (pc := 64) dX6_checksum_64 ?_
              refine a_lmul (pc := 65) dX6_checksum_65 ?_
              refine a_aload_n (pc := 66) (i := 0) dX6_checksum_66 rfl rfl ?_
              refine a_iload_n (pc := 67) (i := 3) dX6_checksum_67 rfl rfl ?_
              refine a_iload (pc := 68) (i := 4) dX6_checksum_68 rfl ?_
              refine g_vV1 (pc := 70) (as := [.int (nI i), .int (nI c)]) (b := aN k) (ci := 6) (v := .int (nI (sSz s i (c / sW s)))) (h' := h) dX6_checksum_70 (lc_RX6_71 rfl) ceX6_size kd_a pa (x_size (d := d + 17) l c33 c45) rfl rfl (Nat.le_of_ble_eq_true rfl) rfl ?_
              refine a_i2l (pc := 73) dX6_checksum_73 ?_
              refine a_ladd (pc := 74) dX6_checksum_74 ?_
              refine a_lstore_n (pc := 75) (i := 1) (ls' := [(0, .ref (aN k)), (1, .long ((31 * ((31 * (ckP s i (ckA s i) c)) + ((flet s (pq s i c)).toInt64))) + ((nI (sSz s i (c / sW s))).toInt64))), (3, .int (nI i)), (4, .int (nI c))]) dX6_checksum_75 rfl (by decide) rfl ?_
              refine n_iinc (pc := 76) (k := 1) (ls' := [(0, .ref (aN k)), (1, .long ((31 * ((31 * (ckP s i (ckA s i) c)) + ((flet s (pq s i c)).toInt64))) + ((nI (sSz s i (c / sW s))).toInt64))), (3, .int (nI i)), (4, .int (nI (c + 1)))]) dX6_checksum_76 rfl (by decide) (by decide) rfl ?_
              refine a_goto (pc := 79) (tgt := 39) dX6_checksum_79 (by decide) ?_
              refine a_locs (ls' := [(0, .ref (aN k)), (1, .long (ckP s i (ckA s i) (c + 1))), (3, .int (nI i)), (4, .int (nI (c + 1)))]) rfl ?_
              exact ih (c + 1) (by omega) (by omega)
        refine a_locs (ls' := [(0, .ref (aN k)), (1, .long (ckP s i (ckA s i) 0)), (3, .int (nI i)), (4, .int (nI 0))]) rfl ?_
        exact LP (sCells s + 1) 0 (by omega) (by omega)
  have LO : ∀ (fu : Nat) (w : Nat), w ≤ 8 → 8 - w < fu → AW X mX6_checksum (d + 18) 0 0 4 [(0, .ref (aN k)), (1, .long (ck1 s w)), (3, .int (nI w))] [] h (QCk k s h) := by
    intro fu
    induction fu with
    | zero => intro w hw hz; exact absurd hz (Nat.not_lt_zero _)
    | succ fu ih =>
      intro w hw hz
      refine a_iload_n (pc := 4) (i := 3) dX6_checksum_4 rfl rfl ?_
      refine a_bipush (pc := 5) (v := nI 8) dX6_checksum_5 (by decide) ?_
      refine n_icmp_ge (pc := 7) (tgt := 29) dX6_checksum_7 (by decide) (by omega) (by omega) (fun c7 => ?_) (fun c7 => ?_)
      · have ew : w = 8 := by omega
        refine a_iconst (pc := 29) (v := nI 0) dX6_checksum_29 (by decide) ?_
        refine a_istore_n (pc := 30) (i := 3) (ls' := [(0, .ref (aN k)), (1, .long (ck1 s w)), (3, .int (nI 0))]) dX6_checksum_30 rfl (by decide) rfl ?_
        refine a_locs (ls' := [(0, .ref (aN k)), (1, .long (ckA s 0)), (3, .int (nI 0))]) (by rw [ew]; rfl) ?_
        exact LS 3 0 (by omega) (by omega)
      · skip
        refine a_ldc2 (pc := 10) (v := 31) dX6_checksum_10 (lj_RX6_139 rfl) ?_
        refine a_lload_n (pc := 13) (i := 1) dX6_checksum_13 rfl rfl ?_
        refine a_lmul (pc := 14) dX6_checksum_14 ?_
        refine a_aload_n (pc := 15) (i := 0) dX6_checksum_15 rfl rfl ?_
        refine a_iload_n (pc := 16) (i := 3) dX6_checksum_16 rfl rfl ?_
        refine g_vV1 (pc := 17) (as := [.int (nI w)]) (b := aN k) (ci := 6) (v := .int (nI (tdN s w))) (h' := h) dX6_checksum_17 (lc_RX6_141 rfl) ceX6_told kd_a pa (x_told (d := d + 11) l c7) rfl rfl (Nat.le_of_ble_eq_true rfl) rfl ?_
        refine a_i2l (pc := 20) dX6_checksum_20 ?_
        refine a_ladd (pc := 21) dX6_checksum_21 ?_
        refine a_top (show (.long ((31 * (ck1 s w)) + ((nI (tdN s w)).toInt64)) : Value) = .long (ck1 s (w + 1)) from congrArg Value.long (by rw [← stV_td c7]; rfl)) ?_
        refine a_lstore_n (pc := 22) (i := 1) (ls' := [(0, .ref (aN k)), (1, .long (ck1 s (w + 1))), (3, .int (nI w))]) dX6_checksum_22 rfl (by decide) rfl ?_
        refine n_iinc (pc := 23) (k := 1) (ls' := [(0, .ref (aN k)), (1, .long (ck1 s (w + 1))), (3, .int (nI (w + 1)))]) dX6_checksum_23 rfl (by decide) (by decide) rfl ?_
        refine a_goto (pc := 26) (tgt := 4) dX6_checksum_26 (by decide) ?_
        exact ih (w + 1) (by omega) (by omega)
  refine a_locs (ls' := [(0, .ref (aN k)), (1, .long (ck1 s 0)), (3, .int (nI 0))]) rfl ?_
  exact LO 9 0 (by omega) (by omega)
