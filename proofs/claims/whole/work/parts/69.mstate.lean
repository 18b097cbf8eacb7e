/-! the class LetterCutsModel: statements, load -/
theorem pSp_id {n : Nat} {Y : Nat → Int32} {q : PS} : pSp n Y (pSp n Y q) = pSp n Y q := by
  obtain ⟨a, ha⟩ : ∃ a, a = (pSp n Y q).1 := ⟨_, rfl⟩
  have e : skp (fun z => z = nI 32) Y (n - a) a = a := by
    rcases Nat.eq_zero_or_pos (n - a) with z | z
    · rw [z]; rfl
    · obtain ⟨v, hv⟩ : ∃ v, n - a = v + 1 := ⟨n - a - 1, by omega⟩
      rw [hv]
      refine cif_f ?_
      rw [ha]
      refine skp_max (P := fun z => z = nI 32) (Y := Y) (n - q.1) q.1 ?_
      have h1 := skp_le (P := fun z => z = nI 32) (Y := Y) (n - q.1) q.1
      have h2 : a = skp (fun z => z = nI 32) Y (n - q.1) q.1 := ha
      omega
  show (skp (fun z => z = nI 32) Y (n - (pSp n Y q).1) (pSp n Y q).1, q.2) = pSp n Y q
  rw [← ha, e, ha]
  rfl
theorem pStA_bad {n : Nat} {Y : Nat → Int32} {z : PQZ} (h : ∀ i, i < 4 → ¬ (wd (i + 1) Y z.1.1 (pW n Y z.1).1 ∧ z.2.1 i = 0)) : pStA n Y z = (pF (pW n Y z.1) (-2) z.1.1, z.2.1, z.2.2) := by
  unfold pStA
  rw [cif_f (h 0 (by omega)), cif_f (h 1 (by omega)), cif_f (h 2 (by omega)), cif_f (h 3 (by omega))]
theorem pStA_twice {n : Nat} {Y : Nat → Int32} {z : PQZ} {x : Nat} (hx : x < 4) (hw : wd (x + 1) Y z.1.1 (pW n Y z.1).1) (hf : z.2.1 x ≠ 0) : pStA n Y z = (pF (pW n Y z.1) (-2) z.1.1, z.2.1, z.2.2) := pStA_bad fun i hi ⟨h1, h2⟩ => by
  have e := wd_one (by omega) (by omega) h1 hw
  have e : i = x := by omega
  subst e
  exact hf h2
theorem pStA_0 {n : Nat} {Y : Nat → Int32} {z : PQZ} {x : Nat} (hx : x < 2) (hw : wd (x + 1) Y z.1.1 (pW n Y z.1).1) (hf : z.2.1 x = 0) : pStA n Y z = (pLi n Y (sW z.2.2) (sH z.2.2) (pW n Y z.1), flS z.2.1 x, dSide z.2.2 x (lnv n Y (sW z.2.2) (pW n Y z.1))) := by
  unfold pStA
  rcases (by omega : x = 0 ∨ x = 1) with rfl | rfl
  · rw [cif_t ⟨hw, hf⟩]
  · rw [cif_f (fun y => absurd (wd_one (by omega) (by omega) y.1 hw) (by omega)), cif_t ⟨hw, hf⟩]
theorem pStA_2 {n : Nat} {Y : Nat → Int32} {z : PQZ} (hw : wd 3 Y z.1.1 (pW n Y z.1).1) (hf : z.2.1 2 = 0) : pStA n Y z = (pNi n Y (sH z.2.2 + sH z.2.2) (pW n Y z.1), flS z.2.1 2, dSizes z.2.2 (nbv n Y (pW n Y z.1))) := by
  unfold pStA
  rw [cif_f (fun y => absurd (wd_one (by omega) (by omega) y.1 hw) (by omega)), cif_f (fun y => absurd (wd_one (by omega) (by omega) y.1 hw) (by omega)), cif_t ⟨hw, hf⟩]
theorem pStA_3 {n : Nat} {Y : Nat → Int32} {z : PQZ} (hw : wd 4 Y z.1.1 (pW n Y z.1).1) (hf : z.2.1 3 = 0) : pStA n Y z = (pN n Y 9 (pW n Y z.1), flS z.2.1 3, dLeast z.2.2 (pNn n Y (pW n Y z.1)).2) := by
  unfold pStA
  rw [cif_f (fun y => absurd (wd_one (by omega) (by omega) y.1 hw) (by omega)), cif_f (fun y => absurd (wd_one (by omega) (by omega) y.1 hw) (by omega)), cif_f (fun y => absurd (wd_one (by omega) (by omega) y.1 hw) (by omega)), cif_t ⟨hw, hf⟩]
theorem Sm.of2 {q1 q q2 : PS} (s : Sm q1 q) (e : q.2 = q2.2) (h : q2.2.1 ≠ 0) : Sm q1 q2 := ⟨s.1.trans e, fun z => absurd z h⟩
theorem pF_2 {q : PS} {code : Int32} {off : Nat} (h : q.2.1 = 0) : (pF q code off).2 = (code, nI off) := by unfold pF; rw [cif_t h]
theorem DM_side {h h2 : AH} {s : SH} (g : GS s) (r : DM h 69 s) {x : Nat} (hx : x < 2) {f : Nat → Nat → Int32} (ho : ∀ j, (j < 6 + 48 * x ∨ 6 + 48 * x + sH s * sW s ≤ j) → hI h2 69 j = hI h 69 j) (hc : ∀ k c, k < sH s → c < sW s → hI h2 69 (6 + 48 * x + k * sW s + c) = f k c) : DM h2 69 (dSide s x f) := by
  have gc := cells48 g
  have gh := g.2.1
  have e7 : sCells s = sH s * sW s := Nat.mul_comm _ _
  obtain ⟨⟨r0, r1, r2, r3, r4, r5⟩, rl, rs, rg, rm⟩ := r
  refine ⟨⟨by rw [ho 0 (by omega)]; exact r0, by rw [ho 1 (by omega)]; exact r1, by rw [ho 2 (by omega)]; exact r2, by rw [ho 3 (by omega)]; exact r3, by rw [ho 4 (by omega)]; exact r4, by rw [ho 5 (by omega)]; exact r5⟩, fun y p hy hp => ?_, fun y k hy hk => ?_, fun b hb => ?_, fun j hj => ?_⟩
  · have hp2 : p < sCells s := hp
    obtain ⟨-, -, h3, h4, h5⟩ := cell_q g hp2
    show _ = if y = x then f (p / sW s) (p % sW s) else sLt s y p
    by_cases e : y = x
    · subst e
      rw [if_pos rfl, ← hc _ _ h3 h4]
      congr 1
      omega
    · rw [if_neg e, ho _ (by omega)]; exact rl y p hy hp2
  · have : k < sH s := hk
    rw [ho _ (by omega)]; exact rs y k hy hk
  · have : b < sCells s := hb
    rw [ho _ (by omega)]; exact rg b hb
  · rw [ho _ (by omega)]; exact rm j hj
theorem DM_sizes {h h2 : AH} {s : SH} (g : GS s) (r : DM h 69 s) {f : Nat → Nat} (hf : ∀ k, k < sH s + sH s → 1 ≤ f k ∧ f k ≤ 9) (ho : ∀ j, (j < 102 ∨ 114 ≤ j) → hI h2 69 j = hI h 69 j) (hc : ∀ k, k < sH s → hI h2 69 (102 + k) = nI (f k) ∧ hI h2 69 (108 + k) = nI (f (sH s + k))) : DM h2 69 (dSizes s f) := by
  have gc := cells48 g
  have gh := g.2.1
  obtain ⟨⟨r0, r1, r2, r3, r4, r5⟩, rl, rs, rg, rm⟩ := r
  refine ⟨⟨by rw [ho 0 (by omega)]; exact r0, by rw [ho 1 (by omega)]; exact r1, by rw [ho 2 (by omega)]; exact r2, by rw [ho 3 (by omega)]; exact r3, by rw [ho 4 (by omega)]; exact r4, by rw [ho 5 (by omega)]; exact r5⟩, fun y p hy hp => ?_, fun y k hy hk => ?_, fun b hb => ?_, fun j hj => ?_⟩
  · have hp2 : p < sCells s := hp
    rw [ho _ (by omega)]; exact rl y p hy hp2
  · have hk2 : k < sH s := hk
    show _ = nI (max 1 (min 9 (f (y * sH s + k))))
    rcases (by omega : y = 0 ∨ y = 1) with rfl | rfl
    · have := hf k (by omega)
      rw [show 102 + 6 * 0 + k = 102 + k by omega, (hc k hk2).1, show 0 * sH s + k = k by omega, show max 1 (min 9 (f k)) = f k by omega]
    · have := hf (sH s + k) (by omega)
      rw [show 102 + 6 * 1 + k = 108 + k by omega, (hc k hk2).2, show 1 * sH s + k = sH s + k by omega, show max 1 (min 9 (f (sH s + k))) = f (sH s + k) by omega]
  · have : b < sCells s := hb
    rw [ho _ (by omega)]; exact rg b hb
  · rw [ho _ (by omega)]; exact rm j hj
theorem DM_dl {h : AH} {s : SH} (g : GS s) (r : DM h 69 s) {v : Nat} (hv : 1 ≤ v ∧ v ≤ 9) : DM (sI h 69 2 (nI v)) 69 (dLeast s v) := by
  unfold dLeast
  rw [show max 1 (min 9 v) = v by omega]
  obtain ⟨⟨r0, r1, r2, r3, r4, r5⟩, rl, rs, rg, rm⟩ := r
  exact ⟨⟨by rw [rd1 (by omega)]; exact r0, by rw [rd1 (by omega)]; exact r1, rd2 ⟨rfl, rfl⟩, by rw [rd1 (by omega)]; exact r3, by rw [rd1 (by omega)]; exact r4, by rw [rd1 (by omega)]; exact r5⟩, fun x p hx hp => by rw [rd1 (by omega)]; exact rl x p hx hp, fun x q hx hq => by rw [rd1 (by omega)]; exact rs x q hx hq, fun c hc => by rw [rd1 (by omega)]; exact rg c hc, fun j hj => by rw [rd1 (by omega)]; exact rm j hj⟩
theorem pW_id {n : Nat} {Y : Nat → Int32} {q : PS} : (pW n Y q).2 = q.2 := rfl
set_option maxHeartbeats 1500000 in
set_option maxRecDepth 100000 in
theorem s5_statement {z : PQZ} {d n : Nat} {h : AH} {Y : Nat → Int32} (x : TXm h n Y) (r : R5 h z.1) (ha : z.1.1 ≤ n) (he : z.1.2.1 = 0) (hid : pSp n Y z.1 = z.1) (hs : hI h 66 14 = nI (sn z.2.1)) (hfl : ∀ i, z.2.1 i ≤ 1) (hd : DM h 69 z.2.2) (g : GS z.2.2) : AC mX5_statement (d + 6) 0 0 [.ref 66] h (Qu (fun h2 => (KU [66, 69] h h2 ∧ ∃ q1, R5 h2 q1 ∧ Sm q1 (pSt n Y z).1 ∧ q1.1 ≤ n) ∧ ((pSt n Y z).1.2.1 = 0 → hI h2 66 14 = nI (sn (pSt n Y z).2.1) ∧ DM h2 69 (pSt n Y z).2.2))) := by
  have hn := x.1.1.1
  have hn4 := x.1.2.1
  have h8 := x.1.2.2
  refine AC.of (by decide) rfl (Nat.le_of_ble_eq_true rfl) (fun X => ?_)
  show AW X mX5_statement (d + 6) 0 0 0 [(0, .ref 66)] [] h (Qu (fun h2 => (KU [66, 69] h h2 ∧ ∃ q1, R5 h2 q1 ∧ Sm q1 (pSt n Y z).1 ∧ q1.1 ≤ n) ∧ ((pSt n Y z).1.2.1 = 0 → hI h2 66 14 = nI (sn (pSt n Y z).2.1) ∧ DM h2 69 (pSt n Y z).2.2)))
  obtain ⟨q, fl, s⟩ := z
  have r : R5 h q := r
  have ha : q.1 ≤ n := ha
  have he : q.2.1 = 0 := he
  have hid : pSp n Y q = q := hid
  have hs : hI h 66 14 = nI (sn fl) := hs
  have hfl : ∀ i, fl i ≤ 1 := hfl
  have hd : DM h 69 s := hd
  have g : GS s := g
  have gw := g.1
  have gh := g.2.1
  have gc := cells48 g
  have e7 : sH s * sW s ≤ 48 := by rw [Nat.mul_comm]; exact gc.2
  have hwl := pW_le (Y := Y) ha
  obtain ⟨w, hwe⟩ : ∃ w, w = pW n Y q := ⟨_, rfl⟩
  rw [← hwe] at hwl
  have hw0 : w.2.1 = 0 := by rw [hwe]; exact he
  have T154 : ∀ (H : AH), KU [66, 69] h H → (∃ q1, R5 H q1 ∧ Sm q1 (pStA n Y (q, fl, s)).1 ∧ q1.1 ≤ n) → ((pStA n Y (q, fl, s)).1.2.1 = 0 → hI H 66 14 = nI (sn (pStA n Y (q, fl, s)).2.1) ∧ DM H 69 (pStA n Y (q, fl, s)).2.2) → AW X mX5_statement (d + 6) 0 0 154 [(0, .ref 66), (1, .int (nI q.1))] [] H (Qu (fun h2 => (KU [66, 69] h h2 ∧ ∃ q1, R5 h2 q1 ∧ Sm q1 (pSt n Y (q, fl, s)).1 ∧ q1.1 ≤ n) ∧ ((pSt n Y (q, fl, s)).1.2.1 = 0 → hI h2 66 14 = nI (sn (pSt n Y (q, fl, s)).2.1) ∧ DM h2 69 (pSt n Y (q, fl, s)).2.2))) := by
    intro H ku hq hz
    obtain ⟨q1, rq, sq, hq1⟩ := hq
    have xx := x.u ku (by simp)
    have hn1 := xx.1.1.1
    refine a_aload_n (pc := 154) (i := 0) dX5_statement_154 rfl rfl ?_
    refine a_bipush (pc := 155) (v := nI 59) dX5_statement_155 (by decide) ?_
    refine a_uV (pc := 157) (as := [.int (nI 59)]) (b := 66) (ci := 5) dX5_statement_157 (lc_RX5_152 rfl) ceX5_expect rfl (lt90 hn1 (shK_lt (show shK 66 = _ from rfl))) (s5_expect (d := d + 3) xx rq hq1 sq) rfl rfl (Nat.le_of_ble_eq_true rfl) (fun h2 z => z.1.1.1) (fun H2 z2 => ?_)
    exact a_return (pc := 160) dX5_statement_160 rfl (⟨rfl, ⟨ku.trans (z2.1.u (by simp)), z2.2⟩, fun z0 => by
      obtain ⟨u1, u2⟩ := hz (pSc_0 z0).1
      exact ⟨(z2.1.2 14 (by omega) (by omega) (by omega) (by omega)).trans u1, u2.fr z2.1.1 (by simp)⟩⟩)
  refine a_aload_n (pc := 0) (i := 0) dX5_statement_0 rfl rfl ?_
  refine a_xV (pc := 1) (as := []) (b := 66) (ci := 5) dX5_statement_1 (lc_RX5_94 rfl) ceX5_ahead rfl (lt90 hn (shK_lt (show shK 66 = _ from rfl))) (s5_ahead (d := d + 4) x r.1 ha) rfl rfl (Nat.le_of_ble_eq_true rfl) (fun b h2 y => y.2.1.1) (fun v H y => ?_)
  obtain ⟨-, y⟩ := y
  have x1 := x.k y.k (by simp)
  have hn1 := x1.1.1.1
  have r1 : R5 H q := by have z : R5 H (pSp n Y q) := y.r r; rwa [hid] at z
  have ku1 : KU [66, 69] h H := y.k.u (by simp)
  refine a_pop (pc := 4) dX5_statement_4 rfl ?_
  refine a_aload_n (pc := 5) (i := 0) dX5_statement_5 rfl rfl ?_
  refine a_getI (pc := 6) (ci := 5) (k := 4) dX5_statement_6 (lf_RX5_73 rfl) (by decide) rfl rfl (lt90 hn1 (shK_lt (show shK 66 = _ from rfl))) ?_
  refine a_top (show (.int (hI H 66 4) : Value) = .int (nI q.1) from congrArg Value.int r1.1) ?_
  refine a_istore_n (pc := 9) (i := 1) (ls' := [(0, .ref 66), (1, .int (nI q.1))]) dX5_statement_9 rfl (by decide) rfl ?_
  have s14 : hI H 66 14 = nI (sn fl) := (y.2.2 14 (by omega)).trans hs
  have d69 : DM H 69 s := hd.fr y.1 (by simp)
  refine a_aload_n (pc := 10) (i := 0) dX5_statement_10 rfl rfl ?_
  refine a_ldcS (pc := 11) (i := 1) (tx := "front") dX5_statement_11 (by decide) (by decide) ?_
  refine a_yV (pc := 13) (as := [.ref (1001 + 1)]) (b := 66) (ci := 5) dX5_statement_13 (lc_RX5_137 rfl) ceX5_takeWord rfl (lt90 hn1 (shK_lt (show shK 66 = _ from rfl))) (s5_takeWord (d := d) (i := 1) x1 r1 ha he (by omega)) rfl rfl (Nat.le_of_ble_eq_true rfl) (fun b h2 y => y.1.1.1) (fun b1 W1 y1 => ?_)
  obtain ⟨km1, bi1, bt1, bf1⟩ := y1
  rw [hid, ← hwe] at bi1 bt1
  rw [hid] at bf1
  have xn1 := x1.k km1 (by simp)
  have hnn1 := xn1.1.1.1
  have kun1 : KU [66, 69] h W1 := ku1.trans (km1.u (by simp))
  refine b_if_eq (pc := 16) (tgt := 28) dX5_statement_16 (by decide) (fun c1_ => ?_) (fun c1_ => ?_)
  · have rn1 := bf1 c1_
    have q14_1 : hI W1 66 14 = nI (sn fl) := (km1.2 14 (by omega) (by omega) (by omega) (by omega)).trans s14
    have q69_1 : DM W1 69 s := d69.fr km1.1 (by simp)
    refine a_aload_n (pc := 28) (i := 0) dX5_statement_28 rfl rfl ?_
    refine a_ldcS (pc := 29) (i := 2) (tx := "back") dX5_statement_29 (by decide) (by decide) ?_
    refine a_yV (pc := 31) (as := [.ref (1001 + 2)]) (b := 66) (ci := 5) dX5_statement_31 (lc_RX5_137 rfl) ceX5_takeWord rfl (lt90 hnn1 (shK_lt (show shK 66 = _ from rfl))) (s5_takeWord (d := d) (i := 2) xn1 rn1 ha he (by omega)) rfl rfl (Nat.le_of_ble_eq_true rfl) (fun b h2 y => y.1.1.1) (fun b2 W2 y2 => ?_)
    obtain ⟨km2, bi2, bt2, bf2⟩ := y2
    rw [hid, ← hwe] at bi2 bt2
    rw [hid] at bf2
    have xn2 := xn1.k km2 (by simp)
    have hnn2 := xn2.1.1.1
    have kun2 : KU [66, 69] h W2 := kun1.trans (km2.u (by simp))
    refine b_if_eq (pc := 34) (tgt := 46) dX5_statement_34 (by decide) (fun c2_ => ?_) (fun c2_ => ?_)
    · have rn2 := bf2 c2_
      have q14_2 : hI W2 66 14 = nI (sn fl) := (km2.2 14 (by omega) (by omega) (by omega) (by omega)).trans q14_1
      have q69_2 : DM W2 69 s := q69_1.fr km2.1 (by simp)
      refine a_aload_n (pc := 46) (i := 0) dX5_statement_46 rfl rfl ?_
      refine a_ldcS (pc := 47) (i := 3) (tx := "sizes") dX5_statement_47 (by decide) (by decide) ?_
      refine a_yV (pc := 49) (as := [.ref (1001 + 3)]) (b := 66) (ci := 5) dX5_statement_49 (lc_RX5_137 rfl) ceX5_takeWord rfl (lt90 hnn2 (shK_lt (show shK 66 = _ from rfl))) (s5_takeWord (d := d) (i := 3) xn2 rn2 ha he (by omega)) rfl rfl (Nat.le_of_ble_eq_true rfl) (fun b h2 y => y.1.1.1) (fun b3 W3 y3 => ?_)
      obtain ⟨km3, bi3, bt3, bf3⟩ := y3
      rw [hid, ← hwe] at bi3 bt3
      rw [hid] at bf3
      have xn3 := xn2.k km3 (by simp)
      have hnn3 := xn3.1.1.1
      have kun3 : KU [66, 69] h W3 := kun2.trans (km3.u (by simp))
      refine b_if_eq (pc := 52) (tgt := 116) dX5_statement_52 (by decide) (fun c3_ => ?_) (fun c3_ => ?_)
      · have rn3 := bf3 c3_
        have q14_3 : hI W3 66 14 = nI (sn fl) := (km3.2 14 (by omega) (by omega) (by omega) (by omega)).trans q14_2
        have q69_3 : DM W3 69 s := q69_2.fr km3.1 (by simp)
        refine a_aload_n (pc := 116) (i := 0) dX5_statement_116 rfl rfl ?_
        refine a_ldcS (pc := 117) (i := 4) (tx := "least") dX5_statement_117 (by decide) (by decide) ?_
        refine a_yV (pc := 119) (as := [.ref (1001 + 4)]) (b := 66) (ci := 5) dX5_statement_119 (lc_RX5_137 rfl) ceX5_takeWord rfl (lt90 hnn3 (shK_lt (show shK 66 = _ from rfl))) (s5_takeWord (d := d) (i := 4) xn3 rn3 ha he (by omega)) rfl rfl (Nat.le_of_ble_eq_true rfl) (fun b h2 y => y.1.1.1) (fun b4 W4 y4 => ?_)
        obtain ⟨km4, bi4, bt4, bf4⟩ := y4
        rw [hid, ← hwe] at bi4 bt4
        rw [hid] at bf4
        have xn4 := xn3.k km4 (by simp)
        have hnn4 := xn4.1.1.1
        have kun4 : KU [66, 69] h W4 := kun3.trans (km4.u (by simp))
        refine b_if_eq (pc := 122) (tgt := 147) dX5_statement_122 (by decide) (fun c4_ => ?_) (fun c4_ => ?_)
        · have rn4 := bf4 c4_
          have q14_4 : hI W4 66 14 = nI (sn fl) := (km4.2 14 (by omega) (by omega) (by omega) (by omega)).trans q14_3
          have q69_4 : DM W4 69 s := q69_3.fr km4.1 (by simp)
          refine a_aload_n (pc := 147) (i := 0) dX5_statement_147 rfl rfl ?_
          refine a_bipush (pc := 148) (v := (-2)) dX5_statement_148 (by decide) ?_
          refine a_iload_n (pc := 150) (i := 1) dX5_statement_150 rfl rfl ?_
          refine a_uV (pc := 151) (as := [.int ((-2)), .int (nI q.1)]) (b := 66) (ci := 5) dX5_statement_151 (lc_RX5_107 rfl) ceX5_report rfl (lt90 hnn4 (shK_lt (show shK 66 = _ from rfl))) (s5_report (d := d + 5) xn4.1.1 rn4) rfl rfl (Nat.le_of_ble_eq_true rfl) (fun h2 z => z.1.1.1) (fun V z => ?_)
          have ee : pStA n Y (q, fl, s) = (pF w (-2) q.1, fl, s) := by
            have z9 := pStA_bad (n := n) (Y := Y) (z := (q, fl, s)) (fun i hi hh => by
              have h9 : wd (i + 1) Y q.1 w.1 := by rw [hwe]; exact hh.1
              rcases (by omega : i = 0 ∨ i = 1 ∨ i = 2 ∨ i = 3) with rfl | rfl | rfl | rfl
              · exact c1_ (bi1.mpr h9)
              · exact c2_ (bi2.mpr h9)
              · exact c3_ (bi3.mpr h9)
              · exact c4_ (bi4.mpr h9))
            rw [z9, hwe]
          have hpf : (pF w (-2) q.1).2.1 ≠ 0 := pF_ne (by decide)
          exact T154 V (kun4.trans (z.1.u (by simp))) ⟨_, z.2, by rw [ee]; exact Sm.of2 Sm.refl (by rw [pF_2 he, pF_2 hw0]) hpf, by rw [pF_1]; exact ha⟩ (fun z0 => absurd (by rw [ee] at z0; exact z0) hpf)
        · have hw4 : wd 4 Y q.1 w.1 := bi4.mp c4_
          have q14_4 : hI W4 66 14 = nI (sn fl) := (km4.2 14 (by omega) (by omega) (by omega) (by omega)).trans q14_3
          have q69_4 : DM W4 69 s := q69_3.fr km4.1 (by simp)
          have rw4 := bt4 c4_
          have hwq : wd 4 Y q.1 (pW n Y q).1 := by rw [← hwe]; exact hw4
          have hfk := hfl 3
          refine a_aload_n (pc := 125) (i := 0) dX5_statement_125 rfl rfl ?_
          refine a_iconst (pc := 126) (v := nI 3) dX5_statement_126 (by decide) ?_
          refine a_iload_n (pc := 127) (i := 1) dX5_statement_127 rfl rfl ?_
          refine a_uV (pc := 128) (as := [.int (nI 3), .int (nI q.1)]) (b := 66) (ci := 5) dX5_statement_128 (lc_RX5_129 rfl) ceX5_once rfl (lt90 hnn4 (shK_lt (show shK 66 = _ from rfl))) (s5_once (d := d + 4) (k := 3) xn4.1.1 rw4 hfl (by omega) q14_4) rfl rfl (Nat.le_of_ble_eq_true rfl) (fun h2 y => y.1.1.1) (fun V0 y0 => ?_)
          obtain ⟨kz, rz, z14⟩ := y0
          obtain ⟨Q0, hQ0⟩ : ∃ Q0, Q0 = onc fl 3 w q.1 := ⟨_, rfl⟩
          rw [← hQ0] at rz
          have x0 := xn4.u kz (by simp)
          have ha0 : Q0.1 ≤ n := by rw [hQ0]; unfold onc; rcases Classical.em (fl 3 = 0) with z | z; rw [cif_t z]; exact hwl.2; rw [cif_f z, pF_1]; exact hwl.2
          have dz : DM V0 69 s := q69_4.fr kz.1 (by simp)
          have kuz : KU [66, 69] h V0 := kun4.trans (kz.mono (by simp))
          have hQok : fl 3 = 0 → Q0 = w := fun z => by rw [hQ0]; exact cif_t z
          have hQbad : fl 3 ≠ 0 → Q0 = pF w (-2) q.1 := fun z => by rw [hQ0]; exact cif_f z
          have hpf : (pF w (-2) q.1).2.1 ≠ 0 := pF_ne (by decide)
          refine a_aload_n (pc := 131) (i := 0) dX5_statement_131 rfl rfl ?_
          refine a_getR (pc := 132) (ci := 5) (k := 9) (b := 69) dX5_statement_132 (lf_RX5_20 rfl) (by decide) rfl rfl (lt90 x0.1.1.1 (shK_lt (show shK 66 = _ from rfl))) x0.1.1.2.2.2.2.2.2.2.2.1.2.2.1 ?_
          refine a_iconst (pc := 135) (v := nI 2) dX5_statement_135 (by decide) ?_
          refine a_aload_n (pc := 136) (i := 0) dX5_statement_136 rfl rfl ?_
          refine a_iconst (pc := 137) (v := nI 1) dX5_statement_137 (by decide) ?_
          refine a_bipush (pc := 138) (v := nI 9) dX5_statement_138 (by decide) ?_
          refine a_xV (pc := 140) (as := [.int (nI 1), .int (nI 9)]) (b := 66) (ci := 5) dX5_statement_140 (lc_RX5_147 rfl) ceX5_number rfl (lt90 x0.1.1.1 (shK_lt (show shK 66 = _ from rfl))) (s5_number (d := d + 3) (most := 9) x0 rz ha0 Sm.refl (by omega)) rfl rfl (Nat.le_of_ble_eq_true rfl) (fun b h2 z => z.1.1.1.1) (fun val G2 zz => ?_)
          obtain ⟨zq, zw, zv⟩ := zz
          obtain ⟨q3, rq3, sq3, hq3⟩ := zq.2
          refine a_iast (pc := 143) (j := 2) dX5_statement_143 rfl (lt90 (x0.k zq.1 (by simp)).1.1.1 (shK_lt (show shK 69 = _ from rfl))) rfl (by omega) ?_
          refine a_goto (pc := 144) (tgt := 154) dX5_statement_144 (by decide) ?_
          obtain ⟨V, hV⟩ : ∃ Hx, Hx = sI G2 69 2 val := ⟨_, rfl⟩
          have kv : KU [66, 69] h V := by rw [hV]; exact kuz.trans ⟨(zq.1.1.mono (by simp)).sI (by simp), fun j h1 h2 h3 h4 h5 => by rw [rd1 (by omega)]; exact zq.1.2 j h1 h2 h3 h4⟩
          have rv : R5 V q3 := by rw [hV]; exact ⟨by rw [rd1 (by omega)]; exact rq3.1, by rw [rd1 (by omega)]; exact rq3.2.1, by rw [rd1 (by omega)]; exact rq3.2.2⟩
          have v14 : hI V 66 14 = nI (sn (flS fl 3)) := by rw [hV, rd1 (by omega), zq.1.2 14 (by omega) (by omega) (by omega) (by omega)]; exact z14
          have dv : DM G2 69 s := dz.fr zq.1.1 (by simp)
          refine a_heap (h' := V) hV.symm ?_
          rcases (by omega : fl 3 = 0 ∨ fl 3 ≠ 0) with hf | hf
          · have ee : pStA n Y (q, fl, s) = (pN n Y 9 w, flS fl 3, dLeast s (pNn n Y w).2) := by rw [hwe]; exact pStA_3 hwq hf
            rw [hQok hf] at zv sq3
            exact T154 V kv ⟨q3, rv, by rw [ee]; exact sq3, hq3⟩ (fun z0 => by rw [ee] at z0 ⊢; exact ⟨v14, by rw [hV, zv z0]; exact DM_dl g dv (pN_0 z0).2.2.2⟩)
          · have ee : pStA n Y (q, fl, s) = (pF w (-2) q.1, fl, s) := by rw [hwe]; exact pStA_twice (x := 3) (by omega) hwq hf
            rw [hQbad hf] at sq3
            exact T154 V kv ⟨q3, rv, by rw [ee]; exact sq3.of2 (pN_keep hpf) hpf, hq3⟩ (fun z0 => absurd (by rw [ee] at z0; exact z0) hpf)
      · have hw3 : wd 3 Y q.1 w.1 := bi3.mp c3_
        have q14_3 : hI W3 66 14 = nI (sn fl) := (km3.2 14 (by omega) (by omega) (by omega) (by omega)).trans q14_2
        have q69_3 : DM W3 69 s := q69_2.fr km3.1 (by simp)
        have rw3 := bt3 c3_
        have hwq : wd 3 Y q.1 (pW n Y q).1 := by rw [← hwe]; exact hw3
        have hfk := hfl 2
        refine a_aload_n (pc := 55) (i := 0) dX5_statement_55 rfl rfl ?_
        refine a_iconst (pc := 56) (v := nI 2) dX5_statement_56 (by decide) ?_
        refine a_iload_n (pc := 57) (i := 1) dX5_statement_57 rfl rfl ?_
        refine a_uV (pc := 58) (as := [.int (nI 2), .int (nI q.1)]) (b := 66) (ci := 5) dX5_statement_58 (lc_RX5_129 rfl) ceX5_once rfl (lt90 hnn3 (shK_lt (show shK 66 = _ from rfl))) (s5_once (d := d + 4) (k := 2) xn3.1.1 rw3 hfl (by omega) q14_3) rfl rfl (Nat.le_of_ble_eq_true rfl) (fun h2 y => y.1.1.1) (fun V0 y0 => ?_)
        obtain ⟨kz, rz, z14⟩ := y0
        obtain ⟨Q0, hQ0⟩ : ∃ Q0, Q0 = onc fl 2 w q.1 := ⟨_, rfl⟩
        rw [← hQ0] at rz
        have x0 := xn3.u kz (by simp)
        have ha0 : Q0.1 ≤ n := by rw [hQ0]; unfold onc; rcases Classical.em (fl 2 = 0) with z | z; rw [cif_t z]; exact hwl.2; rw [cif_f z, pF_1]; exact hwl.2
        have dz : DM V0 69 s := q69_3.fr kz.1 (by simp)
        have kuz : KU [66, 69] h V0 := kun3.trans (kz.mono (by simp))
        have hQok : fl 2 = 0 → Q0 = w := fun z => by rw [hQ0]; exact cif_t z
        have hQbad : fl 2 ≠ 0 → Q0 = pF w (-2) q.1 := fun z => by rw [hQ0]; exact cif_f z
        have hpf : (pF w (-2) q.1).2.1 ≠ 0 := pF_ne (by decide)
        have LQ1 : ∀ (fu : Nat) (v : Nat) (G : AH), v ≤ sH s → Q5 [66, 69] V0 n (pNi n Y (sH s + v) Q0) G → (∀ j, (j < 102 ∨ 114 ≤ j) → hI G 69 j = hI V0 69 j) → ((pNi n Y (sH s + v) Q0).2.1 = 0 → ((∀ k, k < sH s → hI G 69 (102 + k) = nI (nbv n Y Q0 k)) ∧ ∀ k, k < v → hI G 69 (108 + k) = nI (nbv n Y Q0 (sH s + k)))) → sH s - v < fu → AW X mX5_statement (d + 6) 0 0 70 [(0, .ref 66), (1, .int (nI q.1)), (2, .int (nI 1)), (3, .int (nI v))] [] G (Qu (fun h2 => (KU [66, 69] h h2 ∧ ∃ q1, R5 h2 q1 ∧ Sm q1 (pSt n Y (q, fl, s)).1 ∧ q1.1 ≤ n) ∧ ((pSt n Y (q, fl, s)).1.2.1 = 0 → hI h2 66 14 = nI (sn (pSt n Y (q, fl, s)).2.1) ∧ DM h2 69 (pSt n Y (q, fl, s)).2.2))) := by
          intro fu
          induction fu with
          | zero => intro v G hv hm ho hc hz; exact absurd hz (Nat.not_lt_zero _)
          | succ fu ih =>
            intro v G hv hm ho hc hz
            obtain ⟨km, q1, rq, sq, hq1⟩ := id hm
            have xg := x0.k km (by simp)
            have hng := xg.1.1.1
            refine a_iload_n (pc := 70) (i := 3) dX5_statement_70 rfl rfl ?_
            refine a_aload_n (pc := 71) (i := 0) dX5_statement_71 rfl rfl ?_
            refine a_getR (pc := 72) (ci := 5) (k := 9) (b := 69) dX5_statement_72 (lf_RX5_20 rfl) (by decide) rfl rfl (lt90 hng (shK_lt (show shK 66 = _ from rfl))) xg.1.1.2.2.2.2.2.2.2.2.1.2.2.1 ?_
            refine a_iconst (pc := 75) (v := nI 1) dX5_statement_75 (by decide) ?_
            refine a_iald (pc := 76) (j := 1) dX5_statement_76 rfl (lt90 hng (shK_lt (show shK 69 = _ from rfl))) rfl (by omega) ?_
            refine a_top (show (.int (hI G 69 1) : Value) = .int (nI (sH s)) from congrArg Value.int ((ho 1 (by omega)).trans dz.1.2.1)) ?_
            refine n_icmp_ge (pc := 77) (tgt := 107) dX5_statement_77 (by decide) (by omega) (by omega) (fun c77 => ?_) (fun c77 => ?_)
            · have ev : v = sH s := by omega
              refine n_iinc (pc := 107) (k := 1) (ls' := [(0, .ref 66), (1, .int (nI q.1)), (2, .int (nI (1 + 1))), (3, .int (nI v))]) dX5_statement_107 rfl (by decide) (by decide) rfl ?_
              refine a_goto (pc := 110) (tgt := 63) dX5_statement_110 (by decide) ?_
              refine a_iload_n (pc := 63) (i := 2) dX5_statement_63 rfl rfl ?_
              refine a_iconst (pc := 64) (v := nI 2) dX5_statement_64 (by decide) ?_
              refine n_icmp_ge (pc := 65) (tgt := 113) dX5_statement_65 (by decide) (by omega) (by omega) (fun c65 => ?_) (fun c65 => ?_)
              · skip
                refine a_goto (pc := 113) (tgt := 154) dX5_statement_113 (by decide) ?_
                refine a_drop (ls' := [(0, .ref 66), (1, .int (nI q.1))]) (by simp) ?_
                rw [ev] at hc sq
                rcases (by omega : fl 2 = 0 ∨ fl 2 ≠ 0) with hf | hf
                · have ee : pStA n Y (q, fl, s) = (pNi n Y (sH s + sH s) w, flS fl 2, dSizes s (nbv n Y w)) := by rw [hwe]; exact pStA_2 hwq hf
                  rw [hQok hf] at hc sq
                  exact T154 G (kuz.trans (km.u (fun _ z => z))) ⟨q1, rq, by rw [ee]; exact sq, hq1⟩ (fun z0 => by rw [ee] at z0 ⊢; exact ⟨(km.2 14 (by omega) (by omega) (by omega) (by omega)).trans z14, DM_sizes g dz (fun k hk => nbv_r z0 hk) ho (fun k hk => ⟨(hc z0).1 k hk, (hc z0).2 k hk⟩)⟩)
                · have ee : pStA n Y (q, fl, s) = (pF w (-2) q.1, fl, s) := by rw [hwe]; exact pStA_twice (x := 2) (by omega) hwq hf
                  rw [hQbad hf] at sq
                  exact T154 G (kuz.trans (km.u (fun _ z => z))) ⟨q1, rq, by rw [ee]; exact sq.of2 (pNi_keep hpf _) hpf, hq1⟩ (fun z0 => absurd (by rw [ee] at z0; exact z0) hpf)
              · exact absurd c65 (by omega)
            · skip
              refine a_aload_n (pc := 80) (i := 0) dX5_statement_80 rfl rfl ?_
              refine a_getR (pc := 81) (ci := 5) (k := 9) (b := 69) dX5_statement_81 (lf_RX5_20 rfl) (by decide) rfl rfl (lt90 hng (shK_lt (show shK 66 = _ from rfl))) xg.1.1.2.2.2.2.2.2.2.2.1.2.2.1 ?_
              refine a_bipush (pc := 84) (v := nI 102) dX5_statement_84 (by decide) ?_
              refine a_bipush (pc := 86) (v := nI 6) dX5_statement_86 (by decide) ?_
              refine a_iload_n (pc := 88) (i := 2) dX5_statement_88 rfl rfl ?_
              refine n_imul (pc := 89) dX5_statement_89 ?_
              refine n_iadd (pc := 90) dX5_statement_90 ?_
              refine a_iload_n (pc := 91) (i := 3) dX5_statement_91 rfl rfl ?_
              refine n_iadd (pc := 92) dX5_statement_92 ?_
              refine a_aload_n (pc := 93) (i := 0) dX5_statement_93 rfl rfl ?_
              refine a_iconst (pc := 94) (v := nI 1) dX5_statement_94 (by decide) ?_
              refine a_bipush (pc := 95) (v := nI 9) dX5_statement_95 (by decide) ?_
              refine a_xV (pc := 97) (as := [.int (nI 1), .int (nI 9)]) (b := 66) (ci := 5) dX5_statement_97 (lc_RX5_147 rfl) ceX5_number rfl (lt90 hng (shK_lt (show shK 66 = _ from rfl))) (s5_number (d := d + 3) (most := 9) xg rq hq1 sq (by omega)) rfl rfl (Nat.le_of_ble_eq_true rfl) (fun b h2 z => z.1.1.1.1) (fun val G2 zz => ?_)
              obtain ⟨zq, zw, zv⟩ := zz
              refine a_iast (pc := 100) (j := ((102 + (6 * 1)) + v)) dX5_statement_100 rfl (lt90 (xg.k zq.1 (by simp)).1.1.1 (shK_lt (show shK 69 = _ from rfl))) rfl (by omega) ?_
              refine n_iinc (pc := 101) (k := 1) (ls' := [(0, .ref 66), (1, .int (nI q.1)), (2, .int (nI 1)), (3, .int (nI (v + 1)))]) dX5_statement_101 rfl (by decide) (by decide) rfl ?_
              refine a_goto (pc := 104) (tgt := 70) dX5_statement_104 (by decide) ?_
              have hz69 : hI G2 69 = hI G 69 := (zq.1.1.2.2 69 (by simp)).1
              obtain ⟨q3, rq3, sq3, hq3⟩ := zq.2
              exact ih (v + 1) _ (by omega) ⟨km.trans ⟨(zq.1.1.mono (by simp)).sI (by simp), fun j h1 h2 h3 h4 => by rw [rd1 (by omega)]; exact zq.1.2 j h1 h2 h3 h4⟩, q3, ⟨by rw [rd1 (by omega)]; exact rq3.1, by rw [rd1 (by omega)]; exact rq3.2.1, by rw [rd1 (by omega)]; exact rq3.2.2⟩, sq3, hq3⟩ (fun j hj => by rw [rd1 (by omega), hz69]; exact ho j hj) (fun z0 => by
                  have hcc := hc (pN_0 z0).1
                  exact ⟨fun k hk => by rw [rd1 (by omega), hz69]; exact hcc.1 k hk, (fun k hk => by
                    by_cases ek : k = v
                    · rw [rd2 ⟨rfl, by omega⟩, ek]; exact zv z0
                    · rw [rd1 (by omega), hz69]; exact hcc.2 k (by omega))⟩) (by omega)
        have LQ0 : ∀ (fu : Nat) (v : Nat) (G : AH), v ≤ sH s → Q5 [66, 69] V0 n (pNi n Y (v) Q0) G → (∀ j, (j < 102 ∨ 114 ≤ j) → hI G 69 j = hI V0 69 j) → ((pNi n Y (v) Q0).2.1 = 0 → (∀ k, k < v → hI G 69 (102 + k) = nI (nbv n Y Q0 k))) → sH s - v < fu → AW X mX5_statement (d + 6) 0 0 70 [(0, .ref 66), (1, .int (nI q.1)), (2, .int (nI 0)), (3, .int (nI v))] [] G (Qu (fun h2 => (KU [66, 69] h h2 ∧ ∃ q1, R5 h2 q1 ∧ Sm q1 (pSt n Y (q, fl, s)).1 ∧ q1.1 ≤ n) ∧ ((pSt n Y (q, fl, s)).1.2.1 = 0 → hI h2 66 14 = nI (sn (pSt n Y (q, fl, s)).2.1) ∧ DM h2 69 (pSt n Y (q, fl, s)).2.2))) := by
          intro fu
          induction fu with
          | zero => intro v G hv hm ho hc hz; exact absurd hz (Nat.not_lt_zero _)
          | succ fu ih =>
            intro v G hv hm ho hc hz
            obtain ⟨km, q1, rq, sq, hq1⟩ := id hm
            have xg := x0.k km (by simp)
            have hng := xg.1.1.1
            refine a_iload_n (pc := 70) (i := 3) dX5_statement_70 rfl rfl ?_
            refine a_aload_n (pc := 71) (i := 0) dX5_statement_71 rfl rfl ?_
            refine a_getR (pc := 72) (ci := 5) (k := 9) (b := 69) dX5_statement_72 (lf_RX5_20 rfl) (by decide) rfl rfl (lt90 hng (shK_lt (show shK 66 = _ from rfl))) xg.1.1.2.2.2.2.2.2.2.2.1.2.2.1 ?_
            refine a_iconst (pc := 75) (v := nI 1) dX5_statement_75 (by decide) ?_
            refine a_iald (pc := 76) (j := 1) dX5_statement_76 rfl (lt90 hng (shK_lt (show shK 69 = _ from rfl))) rfl (by omega) ?_
            refine a_top (show (.int (hI G 69 1) : Value) = .int (nI (sH s)) from congrArg Value.int ((ho 1 (by omega)).trans dz.1.2.1)) ?_
            refine n_icmp_ge (pc := 77) (tgt := 107) dX5_statement_77 (by decide) (by omega) (by omega) (fun c77 => ?_) (fun c77 => ?_)
            · have ev : v = sH s := by omega
              refine n_iinc (pc := 107) (k := 1) (ls' := [(0, .ref 66), (1, .int (nI q.1)), (2, .int (nI (0 + 1))), (3, .int (nI v))]) dX5_statement_107 rfl (by decide) (by decide) rfl ?_
              refine a_goto (pc := 110) (tgt := 63) dX5_statement_110 (by decide) ?_
              refine a_iload_n (pc := 63) (i := 2) dX5_statement_63 rfl rfl ?_
              refine a_iconst (pc := 64) (v := nI 2) dX5_statement_64 (by decide) ?_
              refine n_icmp_ge (pc := 65) (tgt := 113) dX5_statement_65 (by decide) (by omega) (by omega) (fun c65 => ?_) (fun c65 => ?_)
              · exact absurd c65 (by omega)
              · skip
                refine a_iconst (pc := 68) (v := nI 0) dX5_statement_68 (by decide) ?_
                refine a_istore_n (pc := 69) (i := 3) (ls' := [(0, .ref 66), (1, .int (nI q.1)), (2, .int (nI (0 + 1))), (3, .int (nI 0))]) dX5_statement_69 rfl (by decide) rfl ?_
                rw [ev] at hc sq
                refine a_locs (ls' := [(0, .ref 66), (1, .int (nI q.1)), (2, .int (nI 1)), (3, .int (nI 0))]) rfl ?_
                exact LQ1 (sH s + 1) 0 G (Nat.zero_le _) ⟨km, q1, rq, sq, hq1⟩ ho (fun z0 => ⟨fun k hk => hc z0 k (by omega), fun k hk => absurd hk (by omega)⟩) (by omega)
            · skip
              refine a_aload_n (pc := 80) (i := 0) dX5_statement_80 rfl rfl ?_
              refine a_getR (pc := 81) (ci := 5) (k := 9) (b := 69) dX5_statement_81 (lf_RX5_20 rfl) (by decide) rfl rfl (lt90 hng (shK_lt (show shK 66 = _ from rfl))) xg.1.1.2.2.2.2.2.2.2.2.1.2.2.1 ?_
              refine a_bipush (pc := 84) (v := nI 102) dX5_statement_84 (by decide) ?_
              refine a_bipush (pc := 86) (v := nI 6) dX5_statement_86 (by decide) ?_
              refine a_iload_n (pc := 88) (i := 2) dX5_statement_88 rfl rfl ?_
              refine n_imul (pc := 89) dX5_statement_89 ?_
              refine n_iadd (pc := 90) dX5_statement_90 ?_
              refine a_iload_n (pc := 91) (i := 3) dX5_statement_91 rfl rfl ?_
              refine n_iadd (pc := 92) dX5_statement_92 ?_
              refine a_aload_n (pc := 93) (i := 0) dX5_statement_93 rfl rfl ?_
              refine a_iconst (pc := 94) (v := nI 1) dX5_statement_94 (by decide) ?_
              refine a_bipush (pc := 95) (v := nI 9) dX5_statement_95 (by decide) ?_
              refine a_xV (pc := 97) (as := [.int (nI 1), .int (nI 9)]) (b := 66) (ci := 5) dX5_statement_97 (lc_RX5_147 rfl) ceX5_number rfl (lt90 hng (shK_lt (show shK 66 = _ from rfl))) (s5_number (d := d + 3) (most := 9) xg rq hq1 sq (by omega)) rfl rfl (Nat.le_of_ble_eq_true rfl) (fun b h2 z => z.1.1.1.1) (fun val G2 zz => ?_)
              obtain ⟨zq, zw, zv⟩ := zz
              refine a_iast (pc := 100) (j := ((102 + (6 * 0)) + v)) dX5_statement_100 rfl (lt90 (xg.k zq.1 (by simp)).1.1.1 (shK_lt (show shK 69 = _ from rfl))) rfl (by omega) ?_
              refine n_iinc (pc := 101) (k := 1) (ls' := [(0, .ref 66), (1, .int (nI q.1)), (2, .int (nI 0)), (3, .int (nI (v + 1)))]) dX5_statement_101 rfl (by decide) (by decide) rfl ?_
              refine a_goto (pc := 104) (tgt := 70) dX5_statement_104 (by decide) ?_
              have hz69 : hI G2 69 = hI G 69 := (zq.1.1.2.2 69 (by simp)).1
              obtain ⟨q3, rq3, sq3, hq3⟩ := zq.2
              exact ih (v + 1) _ (by omega) ⟨km.trans ⟨(zq.1.1.mono (by simp)).sI (by simp), fun j h1 h2 h3 h4 => by rw [rd1 (by omega)]; exact zq.1.2 j h1 h2 h3 h4⟩, q3, ⟨by rw [rd1 (by omega)]; exact rq3.1, by rw [rd1 (by omega)]; exact rq3.2.1, by rw [rd1 (by omega)]; exact rq3.2.2⟩, sq3, hq3⟩ (fun j hj => by rw [rd1 (by omega), hz69]; exact ho j hj) (fun z0 => by
                  have hcc := hc (pN_0 z0).1
                  exact (fun k hk => by
                    by_cases ek : k = v
                    · rw [rd2 ⟨rfl, by omega⟩, ek]; exact zv z0
                    · rw [rd1 (by omega), hz69]; exact hcc k (by omega))) (by omega)
        refine a_iconst (pc := 61) (v := nI 0) dX5_statement_61 (by decide) ?_
        refine a_istore_n (pc := 62) (i := 2) (ls' := [(0, .ref 66), (1, .int (nI q.1)), (2, .int (nI 0))]) dX5_statement_62 rfl (by decide) rfl ?_
        refine a_iload_n (pc := 63) (i := 2) dX5_statement_63 rfl rfl ?_
        refine a_iconst (pc := 64) (v := nI 2) dX5_statement_64 (by decide) ?_
        refine n_icmp_ge (pc := 65) (tgt := 113) dX5_statement_65 (by decide) (by omega) (by omega) (fun c65 => ?_) (fun c65 => ?_)
        · exact absurd c65 (by omega)
        · skip
          refine a_iconst (pc := 68) (v := nI 0) dX5_statement_68 (by decide) ?_
          refine a_istore_n (pc := 69) (i := 3) (ls' := [(0, .ref 66), (1, .int (nI q.1)), (2, .int (nI 0)), (3, .int (nI 0))]) dX5_statement_69 rfl (by decide) rfl ?_
          exact LQ0 (sH s + 1) 0 V0 (Nat.zero_le _) ⟨KM.refl, Q0, rz, Sm.refl, ha0⟩ (fun _ _ => rfl) (fun _ k hk => absurd hk (by omega)) (by omega)
    · have hw2 : wd 2 Y q.1 w.1 := bi2.mp c2_
      have q14_2 : hI W2 66 14 = nI (sn fl) := (km2.2 14 (by omega) (by omega) (by omega) (by omega)).trans q14_1
      have q69_2 : DM W2 69 s := q69_1.fr km2.1 (by simp)
      have rw2 := bt2 c2_
      have hwq : wd 2 Y q.1 (pW n Y q).1 := by rw [← hwe]; exact hw2
      have hfk := hfl 1
      refine a_aload_n (pc := 37) (i := 0) dX5_statement_37 rfl rfl ?_
      refine a_iconst (pc := 38) (v := nI 1) dX5_statement_38 (by decide) ?_
      refine a_iload_n (pc := 39) (i := 1) dX5_statement_39 rfl rfl ?_
      refine a_uV (pc := 40) (as := [.int (nI 1), .int (nI q.1)]) (b := 66) (ci := 5) dX5_statement_40 (lc_RX5_141 rfl) ceX5_readSide rfl (lt90 hnn2 (shK_lt (show shK 66 = _ from rfl))) (s5_readSide (d := d + 2) (sd := 1) (w := sW s) (hh := sH s) xn2 rw2 hwl.2 hfl q14_2 (by omega) gw q69_2.1.1 q69_2.1.2.1 e7 gh.2) rfl rfl (Nat.le_of_ble_eq_true rfl) (fun h2 z => z.1.1.1.1) (fun V z => ?_)
      refine a_goto (pc := 43) (tgt := 154) dX5_statement_43 (by decide) ?_
      obtain ⟨⟨kz, qz⟩, z14, zo, zc⟩ := z
      rcases (by omega : fl 1 = 0 ∨ fl 1 ≠ 0) with hf | hf
      · have eo : onc fl 1 w q.1 = w := cif_t hf
        rw [eo] at qz zc
        have ee : pStA n Y (q, fl, s) = (pLi n Y (sW s) (sH s) w, flS fl 1, dSide s 1 (lnv n Y (sW s) w)) := by rw [hwe]; exact pStA_0 (x := 1) (by omega) hwq hf
        exact T154 V (kun2.trans kz) (by rw [ee]; exact qz) (fun z0 => by rw [ee] at z0 ⊢; exact ⟨z14, DM_side g q69_2 (by omega) zo (zc z0)⟩)
      · have eo : onc fl 1 w q.1 = pF w (-2) q.1 := cif_f hf
        rw [eo] at qz
        have ee : pStA n Y (q, fl, s) = (pF w (-2) q.1, fl, s) := by rw [hwe]; exact pStA_twice (x := 1) (by omega) hwq hf
        have hpf : (pF w (-2) q.1).2.1 ≠ 0 := pF_ne (by decide)
        obtain ⟨q1, a1, a2, a3⟩ := qz
        exact T154 V (kun2.trans kz) ⟨q1, a1, by rw [ee]; exact a2.of2 (pLi_keep hpf _) hpf, a3⟩ (fun z0 => absurd (by rw [ee] at z0; exact z0) hpf)
  · have hw1 : wd 1 Y q.1 w.1 := bi1.mp c1_
    have q14_1 : hI W1 66 14 = nI (sn fl) := (km1.2 14 (by omega) (by omega) (by omega) (by omega)).trans s14
    have q69_1 : DM W1 69 s := d69.fr km1.1 (by simp)
    have rw1 := bt1 c1_
    have hwq : wd 1 Y q.1 (pW n Y q).1 := by rw [← hwe]; exact hw1
    have hfk := hfl 0
    refine a_aload_n (pc := 19) (i := 0) dX5_statement_19 rfl rfl ?_
    refine a_iconst (pc := 20) (v := nI 0) dX5_statement_20 (by decide) ?_
    refine a_iload_n (pc := 21) (i := 1) dX5_statement_21 rfl rfl ?_
    refine a_uV (pc := 22) (as := [.int (nI 0), .int (nI q.1)]) (b := 66) (ci := 5) dX5_statement_22 (lc_RX5_141 rfl) ceX5_readSide rfl (lt90 hnn1 (shK_lt (show shK 66 = _ from rfl))) (s5_readSide (d := d + 2) (sd := 0) (w := sW s) (hh := sH s) xn1 rw1 hwl.2 hfl q14_1 (by omega) gw q69_1.1.1 q69_1.1.2.1 e7 gh.2) rfl rfl (Nat.le_of_ble_eq_true rfl) (fun h2 z => z.1.1.1.1) (fun V z => ?_)
    refine a_goto (pc := 25) (tgt := 154) dX5_statement_25 (by decide) ?_
    obtain ⟨⟨kz, qz⟩, z14, zo, zc⟩ := z
    rcases (by omega : fl 0 = 0 ∨ fl 0 ≠ 0) with hf | hf
    · have eo : onc fl 0 w q.1 = w := cif_t hf
      rw [eo] at qz zc
      have ee : pStA n Y (q, fl, s) = (pLi n Y (sW s) (sH s) w, flS fl 0, dSide s 0 (lnv n Y (sW s) w)) := by rw [hwe]; exact pStA_0 (x := 0) (by omega) hwq hf
      exact T154 V (kun1.trans kz) (by rw [ee]; exact qz) (fun z0 => by rw [ee] at z0 ⊢; exact ⟨z14, DM_side g q69_1 (by omega) zo (zc z0)⟩)
    · have eo : onc fl 0 w q.1 = pF w (-2) q.1 := cif_f hf
      rw [eo] at qz
      have ee : pStA n Y (q, fl, s) = (pF w (-2) q.1, fl, s) := by rw [hwe]; exact pStA_twice (x := 0) (by omega) hwq hf
      have hpf : (pF w (-2) q.1).2.1 ≠ 0 := pF_ne (by decide)
      obtain ⟨q1, a1, a2, a3⟩ := qz
      exact T154 V (kun1.trans kz) ⟨q1, a1, by rw [ee]; exact a2.of2 (pLi_keep hpf _) hpf, a3⟩ (fun z0 => absurd (by rw [ee] at z0; exact z0) hpf)
