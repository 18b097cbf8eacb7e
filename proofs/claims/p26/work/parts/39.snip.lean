/-! changes of the whole object: snip, mend -/
def mdS (s : SH) (n : Nat) : SH := (s.1, s.2.1, s.2.2.1, (fun c => sGn s c ∧ c ≠ n), s.2.2.2.2)
theorem GS_md {s : SH} (g : GS s) {n : Nat} : GS (mdS s n) := g
theorem cell_q {s : SH} (g : GS s) {n : Nat} (hn : n < sCells s) : (8 * (n / sW s) + n % sW s) / 8 = n / sW s ∧ (8 * (n / sW s) + n % sW s) % 8 = n % sW s ∧ n / sW s < sH s ∧ n % sW s < sW s ∧ n / sW s * sW s + n % sW s = n := by
  have gw := g.1
  have h3 : n / sW s < sH s := Nat.div_lt_of_lt_mul hn
  have h2 := Nat.mod_lt n (show 0 < sW s by omega)
  have h5 := Nat.div_add_mod' n (sW s)
  exact ⟨by omega, by omega, h3, h2, h5⟩
theorem gnB_q {s : SH} (g : GS s) {n : Nat} (hn : n < sCells s) : gnB s (8 * (n / sW s) + n % sW s) ↔ sGn s n := by
  obtain ⟨h1, h2, h3, h4, h5⟩ := cell_q g hn
  unfold gnB
  rw [h1, h2, h5]
  exact ⟨fun z => z.2, fun z => ⟨⟨h3, h4⟩, z⟩⟩
theorem gnB_md {s : SH} (g : GS s) {n b : Nat} (hn : n < sCells s) : (gnB s b ∧ ¬ b = 8 * (n / sW s) + n % sW s) ↔ gnB (mdS s n) b := by
  obtain ⟨h1, h2, h3, h4, h5⟩ := cell_q g hn
  have gw := g.1
  constructor
  · rintro ⟨⟨q1, q2⟩, q3⟩
    refine ⟨q1, q2, fun e => q3 ?_⟩
    have e : b / 8 * sW s + b % 8 = n := e
    have q1' := q1.2
    have e1 : n / sW s = b / 8 := by rw [← e, Nat.mul_comm, Nat.mul_add_div (by omega), Nat.div_eq_of_lt q1']; rfl
    have e2 : n % sW s = b % 8 := by rw [← e, Nat.mul_comm, Nat.mul_add_mod, Nat.mod_eq_of_lt q1']
    omega
  · rintro ⟨q1, q2, q3⟩
    refine ⟨⟨q1, q2⟩, fun e => q3 ?_⟩
    show b / 8 * sW s + b % 8 = n
    rw [e, h1, h2, h5]
theorem CR_md {h : AH} {s : SH} (g : GS s) (r : CR h 2 s) {n : Nat} (hn : n < sCells s) : CR (sL h 2 5 (mkL (fun b => gnB s b ∧ ¬ b = 8 * (n / sW s) + n % sW s))) 2 (mdS s n) := by
  refine CR_of r.1.1 r.1.2.1 r.1.2.2.1 ?_ r.1.2.2.2.2.1 r.1.2.2.2.2.2.1 r.1.2.2.2.2.2.2 r.2.1 r.2.2.1 r.2.2.2
  rw [rd6 ⟨rfl, rfl⟩]
  exact mkL_c fun b _ => gnB_md g hn
noncomputable def oMend (t : ST) (x : Int32) : Res × ST := cif (∃ n, n < sCells (tC t) ∧ x = nI n) (cif (sGn (tC t) (i2n x)) (ri (nI (nThere (mdS (tC t) (i2n x)))), (mdS (tC t) (i2n x), (tRem t).2)) (.inr eIS, t)) (.inr eIO, t)
set_option maxHeartbeats 1500000 in
set_option maxRecDepth 100000 in
theorem sp_snip {d : Nat} {h : AH} {t : ST} {x y n : Int32} (m : IM h t) : AC mX4_snip (d + 100) 1 6 [.ref 0, .int x, .int y, .int n] h (Qw (oSnip t x y n).1 (oSnip t x y n).2 h) := by
  have m0 := m.1
  have c := m0.1
  have g := m0.2.1.1
  have r := m0.2.2.1
  have hn := c.1
  have gl := g.2.2.2.2.2.1
  have gs := g.2.2.1
  have gw := g.1
  have gh := g.2.1
  refine AC.of (by decide) rfl (Nat.le_of_ble_eq_true rfl) (fun X => ?_)
  show AW X mX4_snip (d + 100) 1 6 0 [(0, .ref 0), (1, .int x), (2, .int y), (3, .int n)] [] h (Qw (oSnip t x y n).1 (oSnip t x y n).2 h)
  refine a_aload_n (pc := 0) (i := 0) dX4_snip_0 rfl rfl ?_
  refine a_getR (pc := 1) (ci := 4) (k := 3) (b := 2) dX4_snip_1 (lf_RX4_23 rfl) (by decide) rfl rfl (lt90 hn (shK_lt (show shK 0 = _ from rfl))) c.2.1.2.1 ?_
  refine a_iload_n (pc := 4) (i := 1) dX4_snip_4 rfl rfl ?_
  refine a_iload_n (pc := 5) (i := 2) dX4_snip_5 rfl rfl ?_
  refine a_vVN1 (pc := 6) (as := [.int x, .int y]) (b := 2) (ci := 3) (v := .int (bi ((x = 0 ∨ x = 1) ∧ ∃ n, n < sCells (tC t) ∧ y = nI n))) (h' := h) dX4_snip_6 (lc_RX4_111 rfl) ceX3_hasPlace rfl (lt90 hn (shK_lt (show shK 2 = _ from rfl))) (sp_hasPlace c g r) rfl rfl (Nat.le_of_ble_eq_true rfl) rfl ?_
  refine b_if_ne (pc := 9) (tgt := 20) dX4_snip_9 (by decide) (fun c9 => ?_) (fun c9 => ?_)
  · have e0 : oSnip t x y n = _ := cif_t c9
    obtain ⟨hq, hcq, ⟨i, hi, rfl⟩, m8, hnl, rfl⟩ := spt_lt g c9
    have hn48 : m8 < 48 := Nat.lt_of_lt_of_le hnl (Nat.mul_le_mul gw.2 gh.2)
    rw [spt_n hi hn48] at hq hcq e0
    obtain ⟨q, hqe⟩ : ∃ q, q = 48 * i + 8 * (m8 / sW (tC t)) + m8 % sW (tC t) := ⟨_, rfl⟩
    rw [← hqe] at hq hcq e0
    refine a_iload_n (pc := 20) (i := 3) dX4_snip_20 rfl rfl ?_
    refine a_iconst (pc := 21) (v := nI 1) dX4_snip_21 (by decide) ?_
    refine a_icmp_lt (pc := 22) (tgt := 31) dX4_snip_22 (by decide) (fun c22 => ?_) (fun c22 => ?_)
    · have e : oSnip t (nI i) (nI m8) n = _ := e0.trans (cif_f (fun ⟨k, h1, h2⟩ => by rw [h2] at c22; have := (nI_ltI (by omega) (by omega)).mp c22; omega))
      exact a_throw (kc := 0) (ks := 0) th_X4_snip_31 (by omega) (Nat.le_of_ble_eq_true rfl) (⟨by rw [e], by rw [e]; exact m, Fw.refl⟩)
    · obtain ⟨k, hk31, hk1, rfl⟩ := ge_n (by omega) c22
      refine a_iload_n (pc := 25) (i := 3) dX4_snip_25 rfl rfl ?_
      refine a_bipush (pc := 26) (v := nI 8) dX4_snip_26 (by decide) ?_
      refine n_icmp_le (pc := 28) (tgt := 39) dX4_snip_28 (by decide) (by omega) (by omega) (fun c28 => ?_) (fun c28 => ?_)
      · have e1 : oSnip t (nI i) (nI m8) (nI k) = _ := e0.trans (cif_t ⟨k, ⟨hk1, c28⟩, rfl⟩)
        rw [i2n_nI hk31] at e1
        refine a_aload_n (pc := 39) (i := 0) dX4_snip_39 rfl rfl ?_
        refine a_getR (pc := 40) (ci := 4) (k := 3) (b := 2) dX4_snip_40 (lf_RX4_23 rfl) (by decide) rfl rfl (lt90 hn (shK_lt (show shK 0 = _ from rfl))) c.2.1.2.1 ?_
        refine a_iload_n (pc := 43) (i := 1) dX4_snip_43 rfl rfl ?_
        refine a_iload_n (pc := 44) (i := 2) dX4_snip_44 rfl rfl ?_
        refine a_vVN1 (pc := 45) (as := [.int (nI i), .int (nI m8)]) (b := 2) (ci := 3) (v := .int (nI q)) (h' := h) dX4_snip_45 (lc_RX4_118 rfl) ceX3_spotOf rfl (lt90 hn (shK_lt (show shK 2 = _ from rfl))) (by rw [hqe]; exact sp_spotOf c g r hi hnl) rfl rfl (Nat.le_of_ble_eq_true rfl) rfl ?_
        refine a_istore (pc := 48) (i := 4) (ls' := [(0, .ref 0), (1, .int (nI i)), (2, .int (nI m8)), (3, .int (nI k)), (4, .int (nI q))]) dX4_snip_48 (by decide) rfl ?_
        refine a_aload_n (pc := 50) (i := 0) dX4_snip_50 rfl rfl ?_
        refine a_getR (pc := 51) (ci := 4) (k := 3) (b := 2) dX4_snip_51 (lf_RX4_23 rfl) (by decide) rfl rfl (lt90 hn (shK_lt (show shK 0 = _ from rfl))) c.2.1.2.1 ?_
        refine a_iload (pc := 54) (i := 4) dX4_snip_54 rfl ?_
        refine a_iload_n (pc := 56) (i := 3) dX4_snip_56 rfl rfl ?_
        refine a_vVN1 (pc := 57) (as := [.int (nI q), .int (nI k)]) (b := 2) (ci := 3) (v := .int (bi (q % 8 + k ≤ sW (tC t) ∧ ∀ i, i < k → qcu (tC t) (q + i)))) (h' := h) dX4_snip_57 (lc_RX4_233 rfl) ceX3_isStrip rfl (lt90 hn (shK_lt (show shK 2 = _ from rfl))) (sp_isStrip c g r hq c28) rfl rfl (Nat.le_of_ble_eq_true rfl) rfl ?_
        refine b_if_ne (pc := 60) (tgt := 71) dX4_snip_60 (by decide) (fun c60 => ?_) (fun c60 => ?_)
        · have e : oSnip t (nI i) (nI m8) (nI k) = _ := e1.trans (cif_t c60)
          refine a_aload_n (pc := 71) (i := 0) dX4_snip_71 rfl rfl ?_
          refine a_uV (pc := 72) (as := []) (b := 0) (ci := 4) dX4_snip_72 (lc_RX4_73 rfl) ceX4_remember rfl (lt90 hn (shK_lt (show shK 0 = _ from rfl))) (sp_remember m0) rfl rfl (Nat.le_of_ble_eq_true rfl) (fun h2 y => y.2.1.1) (fun H y => ?_)
          obtain ⟨m1, fw1, h91, fv1⟩ := y
          have c1 := m1.1
          have r1 := m1.2.2.1
          rw [tRem_c] at r1
          have hnr := c1.1
          refine a_aload_n (pc := 75) (i := 0) dX4_snip_75 rfl rfl ?_
          refine a_getR (pc := 76) (ci := 4) (k := 3) (b := 2) dX4_snip_76 (lf_RX4_23 rfl) (by decide) rfl rfl (lt90 hnr (shK_lt (show shK 0 = _ from rfl))) c1.2.1.2.1 ?_
          refine a_aload_n (pc := 79) (i := 0) dX4_snip_79 rfl rfl ?_
          refine a_getR (pc := 80) (ci := 4) (k := 3) (b := 2) dX4_snip_80 (lf_RX4_23 rfl) (by decide) rfl rfl (lt90 hnr (shK_lt (show shK 0 = _ from rfl))) c1.2.1.2.1 ?_
          refine a_iload (pc := 83) (i := 4) dX4_snip_83 rfl ?_
          refine a_iload_n (pc := 85) (i := 3) dX4_snip_85 rfl rfl ?_
          refine a_vVN1 (pc := 86) (as := [.int (nI q), .int (nI k)]) (b := 2) (ci := 3) (v := .long (mkL (pcl (tC t) q k))) (h' := H) dX4_snip_86 (lc_RX4_236 rfl) ceX3_cellsOfStrip rfl (lt90 hnr (shK_lt (show shK 2 = _ from rfl))) (sp_cellsOfStrip c1 g r1 hq c60.1) rfl rfl (Nat.le_of_ble_eq_true rfl) rfl ?_
          refine a_iconst (pc := 89) (v := nI 1) dX4_snip_89 (by decide) ?_
          refine a_wVN0 (pc := 90) (as := [.long (mkL (pcl (tC t) q k)), .int (nI 1)]) (b := 2) (ci := 3) dX4_snip_90 (lc_RX4_229 rfl) ceX3_take rfl (lt90 hnr (shK_lt (show shK 2 = _ from rfl))) (sp_take c1 g r1 (pcl_on g hq c60.1 c60.2)) rfl rfl (Nat.le_of_ble_eq_true rfl) (fun H2 f2 r2 => ?_)
          have f2b : Fr [2, 3, 4, 5] H H2 := f2.mono (by intro a ha; simp at ha ⊢; omega)
          have c2 := c1.fr f2
          have hn2 := c2.1
          have m2 := m1.cur f2b r2 (GS_tk g)
          have k92 : hI H2 0 9 = 0 := (congrFun (f2.2.2 0 (by simp)).1 9).trans h91
          have fw2 := fw1.trans (f2.w (by simp))
          refine a_aload_n (pc := 93) (i := 0) dX4_snip_93 rfl rfl ?_
          refine a_getR (pc := 94) (ci := 4) (k := 3) (b := 2) dX4_snip_94 (lf_RX4_23 rfl) (by decide) rfl rfl (lt90 hn2 (shK_lt (show shK 0 = _ from rfl))) c2.2.1.2.1 ?_
          refine a_vVN1 (pc := 97) (as := []) (b := 2) (ci := 3) (v := .int (nI (nThere (tkS (tC t) (pcl (tC t) q k) 1 (cnt (pcl (tC t) q k) 64))))) (h' := H2) dX4_snip_97 (lc_RX4_96 rfl) ceX3_countThere rfl (lt90 hn2 (shK_lt (show shK 2 = _ from rfl))) (sp_countThere c2 (GS_tk g) r2) rfl rfl (Nat.le_of_ble_eq_true rfl) rfl ?_
          exact a_ireturn (pc := 100) dX4_snip_100 rfl rfl (⟨by rw [e]; rfl, by rw [e]; exact IM.z m2 k92, fw2⟩)
        · have e : oSnip t (nI i) (nI m8) (nI k) = _ := e1.trans (cif_f c60)
          exact a_throw (kc := 0) (ks := 0) th_X4_snip_63 (by omega) (Nat.le_of_ble_eq_true rfl) (⟨by rw [e], by rw [e]; exact m, Fw.refl⟩)
      · have e : oSnip t (nI i) (nI m8) (nI k) = _ := e0.trans (cif_f (fun ⟨j, h1, h2⟩ => by have := (nI_eq hk31 (by omega)).mp h2; omega))
        exact a_throw (kc := 0) (ks := 0) th_X4_snip_31 (by omega) (Nat.le_of_ble_eq_true rfl) (⟨by rw [e], by rw [e]; exact m, Fw.refl⟩)
  · have e : oSnip t x y n = _ := cif_f c9
    exact a_throw (kc := 0) (ks := 0) th_X4_snip_12 (by omega) (Nat.le_of_ble_eq_true rfl) (⟨by rw [e], by rw [e]; exact m, Fw.refl⟩)
set_option maxHeartbeats 1500000 in
set_option maxRecDepth 100000 in
theorem sp_mend {d : Nat} {h : AH} {t : ST} {x : Int32} (m : IM h t) : AC mX4_mend (d + 100) 1 6 [.ref 0, .int x] h (Qw (oMend t x).1 (oMend t x).2 h) := by
  have m0 := m.1
  have c := m0.1
  have g := m0.2.1.1
  have r := m0.2.2.1
  have hn := c.1
  have gl := g.2.2.2.2.2.1
  have gs := g.2.2.1
  have gw := g.1
  have gh := g.2.1
  refine AC.of (by decide) rfl (Nat.le_of_ble_eq_true rfl) (fun X => ?_)
  show AW X mX4_mend (d + 100) 1 6 0 [(0, .ref 0), (1, .int x)] [] h (Qw (oMend t x).1 (oMend t x).2 h)
  have hcl : sCells (tC t) ≤ 48 := Nat.mul_le_mul gw.2 gh.2
  refine a_iload_n (pc := 0) (i := 1) dX4_mend_0 rfl rfl ?_
  refine a_if_lt (pc := 1) (tgt := 15) dX4_mend_1 (by decide) (fun c1 => ?_) (fun c1 => ?_)
  · have e : oMend t x = _ := cif_f (fun ⟨n, h1, h2⟩ => nI_pos (n := n) (by omega) (h2 ▸ c1))
    exact a_throw (kc := 0) (ks := 0) th_X4_mend_15 (by omega) (Nat.le_of_ble_eq_true rfl) (⟨by rw [e], by rw [e]; exact m, Fw.refl⟩)
  · obtain ⟨n, hn31, rfl⟩ := nI_of c1
    refine a_iload_n (pc := 4) (i := 1) dX4_mend_4 rfl rfl ?_
    refine a_aload_n (pc := 5) (i := 0) dX4_mend_5 rfl rfl ?_
    refine a_getR (pc := 6) (ci := 4) (k := 3) (b := 2) dX4_mend_6 (lf_RX4_23 rfl) (by decide) rfl rfl (lt90 hn (shK_lt (show shK 0 = _ from rfl))) c.2.1.2.1 ?_
    refine a_vVN1 (pc := 9) (as := []) (b := 2) (ci := 3) (v := .int (nI (sCells (tC t)))) (h' := h) dX4_mend_9 (lc_RX4_83 rfl) ceX3_countCells rfl (lt90 hn (shK_lt (show shK 2 = _ from rfl))) (sp_countCells c g r) rfl rfl (Nat.le_of_ble_eq_true rfl) rfl ?_
    refine n_icmp_lt (pc := 12) (tgt := 23) dX4_mend_12 (by decide) (by omega) (by omega) (fun c12 => ?_) (fun c12 => ?_)
    · have e0 : oMend t (nI n) = _ := cif_t ⟨n, c12, rfl⟩
      rw [i2n_nI hn31] at e0
      obtain ⟨h1, h2, h3, h4, h5⟩ := cell_q g c12
      refine a_aload_n (pc := 23) (i := 0) dX4_mend_23 rfl rfl ?_
      refine a_getR (pc := 24) (ci := 4) (k := 3) (b := 2) dX4_mend_24 (lf_RX4_23 rfl) (by decide) rfl rfl (lt90 hn (shK_lt (show shK 0 = _ from rfl))) c.2.1.2.1 ?_
      refine a_iconst (pc := 27) (v := nI 0) dX4_mend_27 (by decide) ?_
      refine a_iload_n (pc := 28) (i := 1) dX4_mend_28 rfl rfl ?_
      refine a_vVN1 (pc := 29) (as := [.int (nI 0), .int (nI n)]) (b := 2) (ci := 3) (v := .int (nI (8 * (n / sW (tC t)) + n % sW (tC t)))) (h' := h) dX4_mend_29 (lc_RX4_118 rfl) ceX3_spotOf rfl (lt90 hn (shK_lt (show shK 2 = _ from rfl))) (by have z := sp_spotOf (d := d + 97) c g r (x := 0) (by omega) c12; rw [show 48 * 0 + 8 * (n / sW (tC t)) + n % sW (tC t) = 8 * (n / sW (tC t)) + n % sW (tC t) by omega] at z; exact z) rfl rfl (Nat.le_of_ble_eq_true rfl) rfl ?_
      refine a_istore_n (pc := 32) (i := 2) (ls' := [(0, .ref 0), (1, .int (nI n)), (2, .int (nI (8 * (n / sW (tC t)) + n % sW (tC t))))]) dX4_mend_32 rfl (by decide) rfl ?_
      refine a_aload_n (pc := 33) (i := 0) dX4_mend_33 rfl rfl ?_
      refine a_getR (pc := 34) (ci := 4) (k := 3) (b := 2) dX4_mend_34 (lf_RX4_23 rfl) (by decide) rfl rfl (lt90 hn (shK_lt (show shK 0 = _ from rfl))) c.2.1.2.1 ?_
      refine a_iload_n (pc := 37) (i := 2) dX4_mend_37 rfl rfl ?_
      refine a_vVN1 (pc := 38) (as := [.int (nI (8 * (n / sW (tC t)) + n % sW (tC t)))]) (b := 2) (ci := 3) (v := .int (bi (¬ gnB (tC t) (8 * (n / sW (tC t)) + n % sW (tC t))))) (h' := h) dX4_mend_38 (lc_RX4_240 rfl) ceX3_isThere rfl (lt90 hn (shK_lt (show shK 2 = _ from rfl))) (sp_isThere c g r (by omega)) rfl rfl (Nat.le_of_ble_eq_true rfl) rfl ?_
      refine b_if_eq (pc := 41) (tgt := 52) dX4_mend_41 (by decide) (fun c41 => ?_) (fun c41 => ?_)
      · have hg : sGn (tC t) n := (gnB_q g c12).mp (Classical.byContradiction c41)
        have e : oMend t (nI n) = _ := e0.trans (cif_t hg)
        refine a_aload_n (pc := 52) (i := 0) dX4_mend_52 rfl rfl ?_
        refine a_uV (pc := 53) (as := []) (b := 0) (ci := 4) dX4_mend_53 (lc_RX4_73 rfl) ceX4_remember rfl (lt90 hn (shK_lt (show shK 0 = _ from rfl))) (sp_remember m0) rfl rfl (Nat.le_of_ble_eq_true rfl) (fun h2 y => y.2.1.1) (fun H y => ?_)
        obtain ⟨m1, fw1, h91, fv1⟩ := y
        have c1 := m1.1
        have r1 := m1.2.2.1
        rw [tRem_c] at r1
        have hnr := c1.1
        refine a_aload_n (pc := 56) (i := 0) dX4_mend_56 rfl rfl ?_
        refine a_getR (pc := 57) (ci := 4) (k := 3) (b := 2) dX4_mend_57 (lf_RX4_23 rfl) (by decide) rfl rfl (lt90 hnr (shK_lt (show shK 0 = _ from rfl))) c1.2.1.2.1 ?_
        refine a_dup (pc := 60) dX4_mend_60 rfl ?_
        refine a_getL (pc := 61) (ci := 3) (k := 5) dX4_mend_61 (lf_RX4_243 rfl) (by decide) rfl rfl (lt90 hnr (shK_lt (show shK 2 = _ from rfl))) ?_
        refine a_top (show (.long (hL H 2 5) : Value) = .long (mkL (gnB (tC t))) from congrArg Value.long r1.1.2.2.2.1) ?_
        refine a_lconst (pc := 64) (v := 1) dX4_mend_64 (by decide) ?_
        refine a_iload_n (pc := 65) (i := 2) dX4_mend_65 rfl rfl ?_
        refine a_lshl (pc := 66) dX4_mend_66 ?_
        refine a_top (show (.long (1 <<< ((nI (8 * (n / sW (tC t)) + n % sW (tC t))).toInt64 &&& 63)) : Value) = .long (mkL (fun b => b = 8 * (n / sW (tC t)) + n % sW (tC t))) from congrArg Value.long (mkL_shl (by omega))) ?_
        refine a_ldc2 (pc := 67) (v := (-1)) dX4_mend_67 (lj_RX4_246 rfl) ?_
        refine a_lxor (pc := 70) dX4_mend_70 ?_
        refine a_top (show (.long ((mkL (fun b => b = 8 * (n / sW (tC t)) + n % sW (tC t))) ^^^ ((-1))) : Value) = .long (mkL (fun b => ¬ b = 8 * (n / sW (tC t)) + n % sW (tC t))) from congrArg Value.long (mkL_not _)) ?_
        refine a_land (pc := 71) dX4_mend_71 ?_
        refine a_top (show (.long ((mkL (gnB (tC t))) &&& (mkL (fun b => ¬ b = 8 * (n / sW (tC t)) + n % sW (tC t)))) : Value) = .long (mkL (fun b => gnB (tC t) b ∧ ¬ b = 8 * (n / sW (tC t)) + n % sW (tC t))) from congrArg Value.long (mkL_and _ _)) ?_
        refine a_putL (pc := 72) (ci := 3) (k := 5) dX4_mend_72 (lf_RX4_243 rfl) (by decide) rfl rfl (lt90 hnr (shK_lt (show shK 2 = _ from rfl))) rfl ?_
        obtain ⟨H2, hH2⟩ : ∃ Hx, Hx = sL H 2 5 (mkL (fun b => gnB (tC t) b ∧ ¬ b = 8 * (n / sW (tC t)) + n % sW (tC t))) := ⟨_, rfl⟩
        have f2 : Fr [2] H H2 := by rw [hH2]; exact Fr.refl.sL (by simp)
        have r2 : CR H2 2 (mdS (tC t) n) := by rw [hH2]; exact CR_md g r1 c12
        refine a_heap (h' := H2) hH2.symm ?_
        have f2b : Fr [2, 3, 4, 5] H H2 := f2.mono (by intro a ha; simp at ha ⊢; omega)
        have c2 := c1.fr f2
        have hn2 := c2.1
        have m2 := m1.cur f2b r2 (GS_md g)
        have k92 : hI H2 0 9 = 0 := (congrFun (f2.2.2 0 (by simp)).1 9).trans h91
        have fw2 := fw1.trans (f2.w (by simp))
        refine a_aload_n (pc := 75) (i := 0) dX4_mend_75 rfl rfl ?_
        refine a_getR (pc := 76) (ci := 4) (k := 3) (b := 2) dX4_mend_76 (lf_RX4_23 rfl) (by decide) rfl rfl (lt90 hn2 (shK_lt (show shK 0 = _ from rfl))) c2.2.1.2.1 ?_
        refine a_vVN1 (pc := 79) (as := []) (b := 2) (ci := 3) (v := .int (nI (nThere (mdS (tC t) n)))) (h' := H2) dX4_mend_79 (lc_RX4_96 rfl) ceX3_countThere rfl (lt90 hn2 (shK_lt (show shK 2 = _ from rfl))) (sp_countThere c2 (GS_md g) r2) rfl rfl (Nat.le_of_ble_eq_true rfl) rfl ?_
        exact a_ireturn (pc := 82) dX4_mend_82 rfl rfl (⟨by rw [e]; rfl, by rw [e]; exact IM.z m2 k92, fw2⟩)
      · have e : oMend t (nI n) = _ := e0.trans (cif_f (fun z => c41 ((gnB_q g c12).mpr z)))
        exact a_throw (kc := 0) (ks := 0) th_X4_mend_44 (by omega) (Nat.le_of_ble_eq_true rfl) (⟨by rw [e], by rw [e]; exact m, Fw.refl⟩)
    · have e : oMend t (nI n) = _ := cif_f (fun ⟨k, h1, h2⟩ => by have := (nI_eq hn31 (by omega)).mp h2; omega)
      exact a_throw (kc := 0) (ks := 0) th_X4_mend_15 (by omega) (Nat.le_of_ble_eq_true rfl) (⟨by rw [e], by rw [e]; exact m, Fw.refl⟩)
