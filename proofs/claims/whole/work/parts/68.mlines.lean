/-! the class LetterCutsModel: the reader: lines, statements -/
/-- which statements were seen, as one number -/
def sn (fl : Nat → Nat) : Nat := fl 0 + 2 * fl 1 + 4 * fl 2 + 8 * fl 3
theorem sn_bits : ∀ s : Fin 16, ∀ k : Fin 4, (((nI s.val >>> (nI k.val &&& 31)) &&& nI 1 = nI 1) ↔ s.val / 2 ^ k.val % 2 = 1) ∧ (nI s.val ||| (nI 1 <<< (nI k.val &&& 31))) = nI (if s.val / 2 ^ k.val % 2 = 1 then s.val else s.val + 2 ^ k.val) := by decide +kernel
theorem sn_k {fl : Nat → Nat} (h : ∀ i, fl i ≤ 1) {k : Nat} (hk : k < 4) : sn fl < 16 ∧ sn fl / 2 ^ k % 2 = fl k ∧ sn (flS fl k) = if fl k = 1 then sn fl else sn fl + 2 ^ k := by
  have h0 := h 0
  have h1 := h 1
  have h2 := h 2
  have h3 := h 3
  unfold sn flS
  rcases (by omega : k = 0 ∨ k = 1 ∨ k = 2 ∨ k = 3) with rfl | rfl | rfl | rfl
  · refine ⟨by omega, by omega, ?_⟩
    simp only [if_true, show (1 : Nat) ≠ 0 by omega, show (2 : Nat) ≠ 0 by omega, show (3 : Nat) ≠ 0 by omega, if_false]
    split <;> omega
  · refine ⟨by omega, by omega, ?_⟩
    simp only [if_true, show (0 : Nat) ≠ 1 by omega, show (2 : Nat) ≠ 1 by omega, show (3 : Nat) ≠ 1 by omega, if_false]
    split <;> omega
  · refine ⟨by omega, by omega, ?_⟩
    simp only [if_true, show (0 : Nat) ≠ 2 by omega, show (1 : Nat) ≠ 2 by omega, show (3 : Nat) ≠ 2 by omega, if_false]
    split <;> omega
  · refine ⟨by omega, by omega, ?_⟩
    simp only [if_true, show (0 : Nat) ≠ 3 by omega, show (1 : Nat) ≠ 3 by omega, show (2 : Nat) ≠ 3 by omega, if_false]
    split <;> omega
/-- as KM, and the statements seen -/
def KU (S : List Nat) (h h2 : AH) : Prop := Fr S h h2 ∧ ∀ j, j ≠ 4 → j ≠ 5 → j ≠ 6 → j ≠ 13 → j ≠ 14 → hI h2 66 j = hI h 66 j
theorem KU.refl {S : List Nat} {h : AH} : KU S h h := ⟨Fr.refl, fun _ _ _ _ _ _ => rfl⟩
theorem KU.trans {S : List Nat} {h h2 h3 : AH} (a : KU S h h2) (b : KU S h2 h3) : KU S h h3 := ⟨a.1.trans b.1, fun j h1 h2 h3 h4 h5 => (b.2 j h1 h2 h3 h4 h5).trans (a.2 j h1 h2 h3 h4 h5)⟩
theorem KU.mono {S S2 : List Nat} {h h2 : AH} (a : KU S h h2) (hs : ∀ b, b ∈ S → b ∈ S2) : KU S2 h h2 := ⟨a.1.mono hs, a.2⟩
theorem KM.u {S S2 : List Nat} {h h2 : AH} (a : KM S h h2) (hs : ∀ b, b ∈ S → b ∈ S2) : KU S2 h h2 := ⟨a.1.mono hs, fun j h1 h2 h3 h4 _ => a.2 j h1 h2 h3 h4⟩
theorem TXm.u {S : List Nat} {h h2 : AH} {n : Nat} {Y : Nat → Int32} (x : TXm h n Y) (a : KU S h h2) (hs : 67 ∉ S) : TXm h2 n Y := ⟨⟨x.1.1.fr a.1, x.1.2⟩, (a.2 3 (by omega) (by omega) (by omega) (by omega) (by omega)).trans x.2.1, fun j hj => by rw [(a.1.2.2 67 hs).1]; exact x.2.2 j hj⟩
noncomputable def onc (fl : Nat → Nat) (k : Nat) (q : PS) (st : Nat) : PS := cif (fl k = 0) q (pF q (-2) st)
set_option maxHeartbeats 1500000 in
set_option maxRecDepth 100000 in
theorem s5_once {d k st : Nat} {h : AH} {q : PS} {fl : Nat → Nat} (c : CB h) (r : R5 h q) (hfl : ∀ i, fl i ≤ 1) (hk : k < 4) (hs : hI h 66 14 = nI (sn fl)) : AC mX5_once (d + 1) 0 0 [.ref 66, .int (nI k), .int (nI st)] h (Qu (fun h2 => KU [66] h h2 ∧ R5 h2 (onc fl k q st) ∧ hI h2 66 14 = nI (sn (flS fl k)))) := by
  have hn := c.1
  refine AC.of (by decide) rfl (Nat.le_of_ble_eq_true rfl) (fun X => ?_)
  show AW X mX5_once (d + 1) 0 0 0 [(0, .ref 66), (1, .int (nI k)), (2, .int (nI st))] [] h (Qu (fun h2 => KU [66] h h2 ∧ R5 h2 (onc fl k q st) ∧ hI h2 66 14 = nI (sn (flS fl k))))
  obtain ⟨s1, s2, s3⟩ := sn_k hfl hk
  obtain ⟨b1, b2⟩ := sn_bits ⟨sn fl, s1⟩ ⟨k, hk⟩
  have b1 : ((nI (sn fl) >>> (nI k &&& 31)) &&& nI 1 = nI 1) ↔ sn fl / 2 ^ k % 2 = 1 := b1
  have b2 : (nI (sn fl) ||| (nI 1 <<< (nI k &&& 31))) = nI (if sn fl / 2 ^ k % 2 = 1 then sn fl else sn fl + 2 ^ k) := b2
  rw [s2] at b1 b2
  rw [← s3] at b2
  have hfk := hfl k
  refine a_aload_n (pc := 0) (i := 0) dX5_once_0 rfl rfl ?_
  refine a_getI (pc := 1) (ci := 5) (k := 14) dX5_once_1 (lf_RX5_123 rfl) (by decide) rfl rfl (lt90 hn (shK_lt (show shK 66 = _ from rfl))) ?_
  refine a_top (show (.int (hI h 66 14) : Value) = .int (nI (sn fl)) from congrArg Value.int hs) ?_
  refine a_iload_n (pc := 4) (i := 1) dX5_once_4 rfl rfl ?_
  refine a_ishr (pc := 5) dX5_once_5 ?_
  refine a_iconst (pc := 6) (v := nI 1) dX5_once_6 (by decide) ?_
  refine a_iand (pc := 7) dX5_once_7 ?_
  refine a_iconst (pc := 8) (v := nI 1) dX5_once_8 (by decide) ?_
  refine a_icmp_ne (pc := 9) (tgt := 19) dX5_once_9 (by decide) (fun c9 => ?_) (fun c9 => ?_)
  · have e0 : fl k = 0 := by have : fl k ≠ 1 := fun z => c9 (b1.mpr z); omega
    have r2 : R5 h (onc fl k q st) := by rw [show onc fl k q st = q from cif_t e0]; exact r
    refine a_aload_n (pc := 19) (i := 0) dX5_once_19 rfl rfl ?_
    refine a_dup (pc := 20) dX5_once_20 rfl ?_
    refine a_getI (pc := 21) (ci := 5) (k := 14) dX5_once_21 (lf_RX5_123 rfl) (by decide) rfl rfl (lt90 hn (shK_lt (show shK 66 = _ from rfl))) ?_
    refine a_top (show (.int (hI h 66 14) : Value) = .int (nI (sn fl)) from congrArg Value.int hs) ?_
    refine a_iconst (pc := 24) (v := nI 1) dX5_once_24 (by decide) ?_
    refine a_iload_n (pc := 25) (i := 1) dX5_once_25 rfl rfl ?_
    refine a_ishl (pc := 26) dX5_once_26 ?_
    refine a_ior (pc := 27) dX5_once_27 ?_
    refine a_top (show (.int ((nI (sn fl)) ||| ((nI 1) <<< ((nI k) &&& 31))) : Value) = .int (nI (sn (flS fl k))) from congrArg Value.int b2) ?_
    refine a_putI (pc := 28) (ci := 5) (k := 14) dX5_once_28 (lf_RX5_123 rfl) (by decide) (Or.inl rfl) rfl (lt90 hn (shK_lt (show shK 66 = _ from rfl))) rfl ?_
    exact a_return (pc := 31) dX5_once_31 rfl (⟨rfl, KU.refl.trans ⟨Fr.refl.sI (by simp), fun j _ _ _ _ h1 => rd1 (by omega)⟩, ⟨by rw [rd1 (by omega)]; exact r2.1, by rw [rd1 (by omega)]; exact r2.2.1, by rw [rd1 (by omega)]; exact r2.2.2⟩, rd2 ⟨rfl, rfl⟩⟩)
  · have e1 : onc fl k q st = pF q (-2) st := cif_f (by have := b1.mp c9; omega)
    refine a_aload_n (pc := 12) (i := 0) dX5_once_12 rfl rfl ?_
    refine a_bipush (pc := 13) (v := (-2)) dX5_once_13 (by decide) ?_
    refine a_iload_n (pc := 15) (i := 2) dX5_once_15 rfl rfl ?_
    refine a_uV (pc := 16) (as := [.int ((-2)), .int (nI st)]) (b := 66) (ci := 5) dX5_once_16 (lc_RX5_107 rfl) ceX5_report rfl (lt90 hn (shK_lt (show shK 66 = _ from rfl))) (s5_report (d := d) c r) rfl rfl (Nat.le_of_ble_eq_true rfl) (fun h2 z => z.1.1.1) (fun H z => ?_)
    have hn1 := (c.fr z.1.1).1
    have r2 : R5 H (onc fl k q st) := by rw [e1]; exact z.2
    have hs2 : hI H 66 14 = nI (sn fl) := (z.1.2 14 (by omega) (by omega) (by omega) (by omega)).trans hs
    refine a_aload_n (pc := 19) (i := 0) dX5_once_19 rfl rfl ?_
    refine a_dup (pc := 20) dX5_once_20 rfl ?_
    refine a_getI (pc := 21) (ci := 5) (k := 14) dX5_once_21 (lf_RX5_123 rfl) (by decide) rfl rfl (lt90 hn1 (shK_lt (show shK 66 = _ from rfl))) ?_
    refine a_top (show (.int (hI H 66 14) : Value) = .int (nI (sn fl)) from congrArg Value.int hs2) ?_
    refine a_iconst (pc := 24) (v := nI 1) dX5_once_24 (by decide) ?_
    refine a_iload_n (pc := 25) (i := 1) dX5_once_25 rfl rfl ?_
    refine a_ishl (pc := 26) dX5_once_26 ?_
    refine a_ior (pc := 27) dX5_once_27 ?_
    refine a_top (show (.int ((nI (sn fl)) ||| ((nI 1) <<< ((nI k) &&& 31))) : Value) = .int (nI (sn (flS fl k))) from congrArg Value.int b2) ?_
    refine a_putI (pc := 28) (ci := 5) (k := 14) dX5_once_28 (lf_RX5_123 rfl) (by decide) (Or.inl rfl) rfl (lt90 hn1 (shK_lt (show shK 66 = _ from rfl))) rfl ?_
    exact a_return (pc := 31) dX5_once_31 rfl (⟨rfl, (z.1.u (by simp)).trans ⟨Fr.refl.sI (by simp), fun j _ _ _ _ h1 => rd1 (by omega)⟩, ⟨by rw [rd1 (by omega)]; exact r2.1, by rw [rd1 (by omega)]; exact r2.2.1, by rw [rd1 (by omega)]; exact r2.2.2⟩, rd2 ⟨rfl, rfl⟩⟩)
theorem bY_ln {n : Nat} {Y : Nat → Int32} (h8 : ∀ j, ∃ b : Int8, Y j = b.toInt32) {k : Nat} : (bY n Y k = nI 45 ∨ inB (bY n Y k) (nI 97) (nI 122)) ↔ k < n ∧ isLn (Y k) := by
  rw [bY_eq h8 (by omega), bY_in h8 (by omega) (by omega)]
  exact ⟨fun z => z.elim (fun y => ⟨y.1, Or.inr y.2⟩) (fun y => ⟨y.1, Or.inl y.2⟩), fun ⟨a, b⟩ => b.elim (fun y => Or.inr ⟨a, y⟩) (fun y => Or.inl ⟨a, y⟩)⟩
set_option maxHeartbeats 1500000 in
set_option maxRecDepth 100000 in
theorem s5_readLine {sd row w : Nat} {q1 q : PS} {d n : Nat} {h : AH} {Y : Nat → Int32} (x : TXm h n Y) (r : R5 h q1) (ha : q1.1 ≤ n) (sm : Sm q1 q) (hsd : sd < 2) (hw : 1 ≤ w ∧ w ≤ 8) (hw0 : hI h 69 0 = nI w) (hrw : (row + 1) * w ≤ 48) : AC mX5_readLine (d + 2) 0 0 [.ref 66, .int (nI sd), .int (nI row)] h (Qu (fun h2 => Q5 [66, 69] h n (pL n Y w q) h2 ∧ (∀ j, (j < 6 + 48 * sd + row * w ∨ 6 + 48 * sd + row * w + w ≤ j) → hI h2 69 j = hI h 69 j) ∧ ((pL n Y w q).2.1 = 0 → ∀ c, c < w → hI h2 69 (6 + 48 * sd + row * w + c) = ltv (Y ((pSp n Y q).1 + c))))) := by
  have hn := x.1.1.1
  have hn4 := x.1.2.1
  have h8 := x.1.2.2
  refine AC.of (by decide) rfl (Nat.le_of_ble_eq_true rfl) (fun X => ?_)
  show AW X mX5_readLine (d + 2) 0 0 0 [(0, .ref 66), (1, .int (nI sd)), (2, .int (nI row))] [] h (Qu (fun h2 => Q5 [66, 69] h n (pL n Y w q) h2 ∧ (∀ j, (j < 6 + 48 * sd + row * w ∨ 6 + 48 * sd + row * w + w ≤ j) → hI h2 69 j = hI h 69 j) ∧ ((pL n Y w q).2.1 = 0 → ∀ c, c < w → hI h2 69 (6 + 48 * sd + row * w + c) = ltv (Y ((pSp n Y q).1 + c)))))
  refine a_aload_n (pc := 0) (i := 0) dX5_readLine_0 rfl rfl ?_
  refine a_vV1 (pc := 1) (as := []) (b := 66) (ci := 5) (v := .int (bi (q1.2.1 = 0))) (h' := h) dX5_readLine_1 (lc_RX5_90 rfl) ceX5_isGood rfl (lt90 hn (shK_lt (show shK 66 = _ from rfl))) (s5_isGood x.1.1 r.2.1) rfl rfl (Nat.le_of_ble_eq_true rfl) rfl ?_
  refine b_if_ne (pc := 4) (tgt := 8) dX5_readLine_4 (by decide) (fun c4 => ?_) (fun c4 => ?_)
  · have he : q.2.1 = 0 := by rw [← sm.1]; exact c4
    have eq := sm.eq he
    subst eq
    have hle := pSp_le (Y := Y) ha
    refine a_aload_n (pc := 8) (i := 0) dX5_readLine_8 rfl rfl ?_
    refine a_xV (pc := 9) (as := []) (b := 66) (ci := 5) dX5_readLine_9 (lc_RX5_94 rfl) ceX5_ahead rfl (lt90 hn (shK_lt (show shK 66 = _ from rfl))) (s5_ahead (d := d) x r.1 ha) rfl rfl (Nat.le_of_ble_eq_true rfl) (fun b h2 y => y.2.1.1) (fun v H y => ?_)
    obtain ⟨ev, y⟩ := y
    have x1 := x.k y.k (by simp)
    have hn1 := x1.1.1.1
    have r1 : R5 H (pSp n Y q1) := y.r r
    have ev : v = bY n Y (pSp n Y q1).1 := ev
    obtain ⟨a, hae⟩ : ∃ a, a = (pSp n Y q1).1 := ⟨_, rfl⟩
    have hB : pLb n Y q1 = skp isLn Y (n - a) a := by rw [hae]; rfl
    have e0 : pL n Y w q1 = cif (pLb n Y q1 = a) (pF (pLb n Y q1, q1.2) (-2) a) (cif (pLb n Y q1 - a = w) (pLb n Y q1, q1.2) (pF (pLb n Y q1, q1.2) (-4) a)) := by rw [hae]; rfl
    rw [← hae] at hle ev
    have r10 : hI H 66 4 = nI a := by rw [hae]; exact r1.1
    have e69 : hI H 69 = hI h 69 := (y.1.2.2 69 (by simp)).1
    refine a_vS1 (pc := 12) (as := [.int v]) (v := .int (bi (v = nI 45 ∨ inB v (nI 97) (nI 122)))) (h' := H) dX5_readLine_12 (lc_RX5_126 rfl) ceX5_isLine s5_isLine rfl rfl (Nat.le_of_ble_eq_true rfl) rfl ?_
    refine b_if_ne (pc := 15) (tgt := 29) dX5_readLine_15 (by decide) (fun c15 => ?_) (fun c15 => ?_)
    · rw [ev, bY_ln h8] at c15
      refine a_aload_n (pc := 29) (i := 0) dX5_readLine_29 rfl rfl ?_
      refine a_getI (pc := 30) (ci := 5) (k := 4) dX5_readLine_30 (lf_RX5_73 rfl) (by decide) rfl rfl (lt90 hn1 (shK_lt (show shK 66 = _ from rfl))) ?_
      refine a_top (show (.int (hI H 66 4) : Value) = .int (nI a) from congrArg Value.int r10) ?_
      refine a_istore_n (pc := 33) (i := 3) (ls' := [(0, .ref 66), (1, .int (nI sd)), (2, .int (nI row)), (3, .int (nI a))]) dX5_readLine_33 rfl (by decide) rfl ?_
      refine a_iconst (pc := 34) (v := nI 0) dX5_readLine_34 (by decide) ?_
      refine a_istore (pc := 35) (i := 4) (ls' := [(0, .ref 66), (1, .int (nI sd)), (2, .int (nI row)), (3, .int (nI a)), (4, .int (nI 0))]) dX5_readLine_35 (by decide) rfl ?_
      have LP : ∀ (fu : Nat) (m : Nat) (H2 : AH), a + m ≤ n → KM [66, 69] H H2 → R5 H2 (a + m, q1.2) → (∀ j, a ≤ j → j < a + m → isLn (Y j)) → (∀ j, (j < 6 + 48 * sd + row * w ∨ 6 + 48 * sd + row * w + w ≤ j) → hI H2 69 j = hI h 69 j) → (∀ c, c < m → c < w → hI H2 69 (6 + 48 * sd + row * w + c) = ltv (Y (a + c))) → n - (a + m) < fu → AW X mX5_readLine (d + 2) 0 0 37 [(0, .ref 66), (1, .int (nI sd)), (2, .int (nI row)), (3, .int (nI a)), (4, .int (nI m))] [] H2 (Qu (fun h2 => Q5 [66, 69] h n (pL n Y w q1) h2 ∧ (∀ j, (j < 6 + 48 * sd + row * w ∨ 6 + 48 * sd + row * w + w ≤ j) → hI h2 69 j = hI h 69 j) ∧ ((pL n Y w q1).2.1 = 0 → ∀ c, c < w → hI h2 69 (6 + 48 * sd + row * w + c) = ltv (Y ((pSp n Y q1).1 + c))))) := by
        intro fu
        induction fu with
        | zero => intro m H2 hm hk2 rr hall ho hc hz; exact absurd hz (Nat.not_lt_zero _)
        | succ fu ih =>
          intro m H2 hm hk2 rr hall ho hc hz
          have xx := x1.k hk2 (by simp)
          have hn2 := xx.1.1.1
          refine a_aload_n (pc := 37) (i := 0) dX5_readLine_37 rfl rfl ?_
          refine a_aload_n (pc := 38) (i := 0) dX5_readLine_38 rfl rfl ?_
          refine a_getI (pc := 39) (ci := 5) (k := 4) dX5_readLine_39 (lf_RX5_73 rfl) (by decide) rfl rfl (lt90 hn2 (shK_lt (show shK 66 = _ from rfl))) ?_
          refine a_top (show (.int (hI H2 66 4) : Value) = .int (nI (a + m)) from congrArg Value.int rr.1) ?_
          refine a_vV1 (pc := 42) (as := [.int (nI (a + m))]) (b := 66) (ci := 5) (v := .int (bY n Y (a + m))) (h' := H2) dX5_readLine_42 (lc_RX5_76 rfl) ceX5_byteAt rfl (lt90 hn2 (shK_lt (show shK 66 = _ from rfl))) (s5_byteAt xx (by omega)) rfl rfl (Nat.le_of_ble_eq_true rfl) rfl ?_
          refine a_vS1 (pc := 45) (as := [.int (bY n Y (a + m))]) (v := .int (bi (bY n Y (a + m) = nI 45 ∨ inB (bY n Y (a + m)) (nI 97) (nI 122)))) (h' := H2) dX5_readLine_45 (lc_RX5_126 rfl) ceX5_isLine s5_isLine rfl rfl (Nat.le_of_ble_eq_true rfl) rfl ?_
          refine b_if_eq (pc := 48) (tgt := 128) dX5_readLine_48 (by decide) (fun c48 => ?_) (fun c48 => ?_)
          · rw [bY_ln h8] at c48
            have hb : pLb n Y q1 = a + m := by
              rw [hB]
              have h1 := skp_le (P := isLn) (Y := Y) (n - a) a
              rcases (by omega : skp isLn Y (n - a) a < a + m ∨ skp isLn Y (n - a) a = a + m ∨ a + m < skp isLn Y (n - a) a) with z | z | z
              · exact absurd (hall _ h1.1 z) (skp_max (P := isLn) (Y := Y) (n - a) a (by omega))
              · exact z
              · exact absurd ⟨by omega, skp_ok (P := isLn) (Y := Y) (n - a) a (a + m) (by omega) z⟩ c48
            have hm0 : a + m ≠ a := fun z => c48 (by rw [z]; exact c15)
            rw [hb] at e0
            have e1 := e0.trans (cif_f hm0)
            refine a_iload (pc := 128) (i := 4) dX5_readLine_128 rfl ?_
            refine a_aload_n (pc := 130) (i := 0) dX5_readLine_130 rfl rfl ?_
            refine a_getR (pc := 131) (ci := 5) (k := 9) (b := 69) dX5_readLine_131 (lf_RX5_20 rfl) (by decide) rfl rfl (lt90 hn2 (shK_lt (show shK 66 = _ from rfl))) xx.1.1.2.2.2.2.2.2.2.2.1.2.2.1 ?_
            refine a_iconst (pc := 134) (v := nI 0) dX5_readLine_134 (by decide) ?_
            refine a_iald (pc := 135) (j := 0) dX5_readLine_135 rfl (lt90 hn2 (shK_lt (show shK 69 = _ from rfl))) rfl (by omega) ?_
            refine a_top (show (.int (hI H2 69 0) : Value) = .int (nI w) from congrArg Value.int ((ho 0 (by omega)).trans hw0)) ?_
            refine n_icmp_eq (pc := 136) (tgt := 146) dX5_readLine_136 (by decide) (by omega) (by omega) (fun c136 => ?_) (fun c136 => ?_)
            · have e2 : pL n Y w q1 = (a + m, q1.2) := e1.trans (cif_t (by omega))
              exact a_return (pc := 146) dX5_readLine_146 rfl (⟨rfl, ⟨(y.k.mono (by simp)).trans hk2, _, rr, by rw [e2]; exact Sm.refl, hm⟩, ho, fun _ c hc9 => by rw [← hae]; exact hc c (by omega) hc9⟩)
            · have e2 : pL n Y w q1 = pF (a + m, q1.2) (-4) a := e1.trans (cif_f (by omega))
              have hpf : (pF (a + m, q1.2) (-4) a).2.1 ≠ 0 := pF_ne (by decide)
              refine a_aload_n (pc := 139) (i := 0) dX5_readLine_139 rfl rfl ?_
              refine a_bipush (pc := 140) (v := (-4)) dX5_readLine_140 (by decide) ?_
              refine a_iload_n (pc := 142) (i := 3) dX5_readLine_142 rfl rfl ?_
              refine a_uV (pc := 143) (as := [.int ((-4)), .int (nI a)]) (b := 66) (ci := 5) dX5_readLine_143 (lc_RX5_107 rfl) ceX5_report rfl (lt90 hn2 (shK_lt (show shK 66 = _ from rfl))) (s5_report (d := d + 1) xx.1.1 rr) rfl rfl (Nat.le_of_ble_eq_true rfl) (fun h2 z => z.1.1.1) (fun H3 z => ?_)
              exact a_return (pc := 146) dX5_readLine_146 rfl (⟨rfl, ⟨((y.k.mono (by simp)).trans hk2).trans (z.1.mono (by simp)), _, z.2, by rw [e2]; exact Sm.refl, by rw [pF_1]; exact hm⟩, fun j hj => by rw [(z.1.1.2.2 69 (by simp)).1]; exact ho j hj, fun z0 => absurd (by rw [e2] at z0; exact z0) hpf⟩)
          · rw [bY_ln h8] at c48
            have hbv : bY n Y (a + m) = Y (a + m) &&& 255 := if_pos c48.1
            refine a_aload_n (pc := 51) (i := 0) dX5_readLine_51 rfl rfl ?_
            refine a_aload_n (pc := 52) (i := 0) dX5_readLine_52 rfl rfl ?_
            refine a_getI (pc := 53) (ci := 5) (k := 4) dX5_readLine_53 (lf_RX5_73 rfl) (by decide) rfl rfl (lt90 hn2 (shK_lt (show shK 66 = _ from rfl))) ?_
            refine a_top (show (.int (hI H2 66 4) : Value) = .int (nI (a + m)) from congrArg Value.int rr.1) ?_
            refine a_vV1 (pc := 56) (as := [.int (nI (a + m))]) (b := 66) (ci := 5) (v := .int (bY n Y (a + m))) (h' := H2) dX5_readLine_56 (lc_RX5_76 rfl) ceX5_byteAt rfl (lt90 hn2 (shK_lt (show shK 66 = _ from rfl))) (s5_byteAt xx (by omega)) rfl rfl (Nat.le_of_ble_eq_true rfl) rfl ?_
            refine a_istore (pc := 59) (i := 5) (ls' := [(0, .ref 66), (1, .int (nI sd)), (2, .int (nI row)), (3, .int (nI a)), (4, .int (nI m)), (5, .int (bY n Y (a + m)))]) dX5_readLine_59 (by decide) rfl ?_
            refine a_iload (pc := 61) (i := 4) dX5_readLine_61 rfl ?_
            refine a_aload_n (pc := 63) (i := 0) dX5_readLine_63 rfl rfl ?_
            refine a_getR (pc := 64) (ci := 5) (k := 9) (b := 69) dX5_readLine_64 (lf_RX5_20 rfl) (by decide) rfl rfl (lt90 hn2 (shK_lt (show shK 66 = _ from rfl))) xx.1.1.2.2.2.2.2.2.2.2.1.2.2.1 ?_
            refine a_iconst (pc := 67) (v := nI 0) dX5_readLine_67 (by decide) ?_
            refine a_iald (pc := 68) (j := 0) dX5_readLine_68 rfl (lt90 hn2 (shK_lt (show shK 69 = _ from rfl))) rfl (by omega) ?_
            refine a_top (show (.int (hI H2 69 0) : Value) = .int (nI w) from congrArg Value.int ((ho 0 (by omega)).trans hw0)) ?_
            refine n_icmp_ge (pc := 69) (tgt := 112) dX5_readLine_69 (by decide) (by omega) (by omega) (fun c69 => ?_) (fun c69 => ?_)
            · skip
              refine n_iinc (pc := 112) (k := 1) (ls' := [(0, .ref 66), (1, .int (nI sd)), (2, .int (nI row)), (3, .int (nI a)), (4, .int (nI (m + 1))), (5, .int (bY n Y (a + m)))]) dX5_readLine_112 rfl (by decide) (by decide) rfl ?_
              refine a_aload_n (pc := 115) (i := 0) dX5_readLine_115 rfl rfl ?_
              refine a_dup (pc := 116) dX5_readLine_116 rfl ?_
              refine a_getI (pc := 117) (ci := 5) (k := 4) dX5_readLine_117 (lf_RX5_73 rfl) (by decide) rfl rfl (lt90 hn2 (shK_lt (show shK 66 = _ from rfl))) ?_
              refine a_top (show (.int (hI H2 66 4) : Value) = .int (nI (a + m)) from congrArg Value.int rr.1) ?_
              refine a_iconst (pc := 120) (v := nI 1) dX5_readLine_120 (by decide) ?_
              refine n_iadd (pc := 121) dX5_readLine_121 ?_
              refine a_putI (pc := 122) (ci := 5) (k := 4) dX5_readLine_122 (lf_RX5_73 rfl) (by decide) (Or.inl rfl) rfl (lt90 hn2 (shK_lt (show shK 66 = _ from rfl))) rfl ?_
              refine a_goto (pc := 125) (tgt := 37) dX5_readLine_125 (by decide) ?_
              refine a_drop (ls' := [(0, .ref 66), (1, .int (nI sd)), (2, .int (nI row)), (3, .int (nI a)), (4, .int (nI (m + 1)))]) (by simp) ?_
              exact ih (m + 1) _ (by omega) (hk2.trans ⟨Fr.refl.sI (by simp), fun j h1 _ _ _ => by rw [rd1 (by omega)]⟩) ⟨rd2 ⟨rfl, by omega⟩, by rw [rd1 (by omega)]; exact rr.2.1, by rw [rd1 (by omega)]; exact rr.2.2⟩ (fun j h1 h2 => by rcases (by omega : j < a + m ∨ j = a + m) with z | rfl; exact hall j h1 z; exact c48.2) (fun j hj => by rw [rd1 (by omega)]; exact ho j hj) (fun c h1 h2 => by rw [rd1 (by omega)]; exact hc c (by omega) h2) (by omega)
            · skip
              have hix : row * w + m < 48 := by have h1 : (row + 1) * w ≤ 48 := hrw; rw [Nat.succ_mul] at h1; omega
              refine a_aload_n (pc := 72) (i := 0) dX5_readLine_72 rfl rfl ?_
              refine a_getR (pc := 73) (ci := 5) (k := 9) (b := 69) dX5_readLine_73 (lf_RX5_20 rfl) (by decide) rfl rfl (lt90 hn2 (shK_lt (show shK 66 = _ from rfl))) xx.1.1.2.2.2.2.2.2.2.2.1.2.2.1 ?_
              refine a_bipush (pc := 76) (v := nI 6) dX5_readLine_76 (by decide) ?_
              refine a_bipush (pc := 78) (v := nI 48) dX5_readLine_78 (by decide) ?_
              refine a_iload_n (pc := 80) (i := 1) dX5_readLine_80 rfl rfl ?_
              refine n_imul (pc := 81) dX5_readLine_81 ?_
              refine n_iadd (pc := 82) dX5_readLine_82 ?_
              refine a_iload_n (pc := 83) (i := 2) dX5_readLine_83 rfl rfl ?_
              refine a_aload_n (pc := 84) (i := 0) dX5_readLine_84 rfl rfl ?_
              refine a_getR (pc := 85) (ci := 5) (k := 9) (b := 69) dX5_readLine_85 (lf_RX5_20 rfl) (by decide) rfl rfl (lt90 hn2 (shK_lt (show shK 66 = _ from rfl))) xx.1.1.2.2.2.2.2.2.2.2.1.2.2.1 ?_
              refine a_iconst (pc := 88) (v := nI 0) dX5_readLine_88 (by decide) ?_
              refine a_iald (pc := 89) (j := 0) dX5_readLine_89 rfl (lt90 hn2 (shK_lt (show shK 69 = _ from rfl))) rfl (by omega) ?_
              refine a_top (show (.int (hI H2 69 0) : Value) = .int (nI w) from congrArg Value.int ((ho 0 (by omega)).trans hw0)) ?_
              refine n_imul (pc := 90) dX5_readLine_90 ?_
              refine n_iadd (pc := 91) dX5_readLine_91 ?_
              refine a_iload (pc := 92) (i := 4) dX5_readLine_92 rfl ?_
              refine n_iadd (pc := 94) dX5_readLine_94 ?_
              refine a_iload (pc := 95) (i := 5) dX5_readLine_95 rfl ?_
              refine a_bipush (pc := 97) (v := nI 45) dX5_readLine_97 (by decide) ?_
              refine a_icmp_ne (pc := 99) (tgt := 106) dX5_readLine_99 (by decide) (fun c99 => ?_) (fun c99 => ?_)
              · have hlt : isLt (Y (a + m)) := c48.2.elim id (fun z => absurd ((bY_eq h8 (by omega)).mpr ⟨c48.1, z⟩) c99)
                refine a_iload (pc := 106) (i := 5) dX5_readLine_106 rfl ?_
                refine a_bipush (pc := 108) (v := nI 97) dX5_readLine_108 (by decide) ?_
                refine a_isub (pc := 110) dX5_readLine_110 ?_
                refine a_iast (pc := 111) (j := (((6 + (48 * sd)) + (row * w)) + m)) dX5_readLine_111 rfl (lt90 hn2 (shK_lt (show shK 69 = _ from rfl))) rfl (by omega) ?_
                refine n_iinc (pc := 112) (k := 1) (ls' := [(0, .ref 66), (1, .int (nI sd)), (2, .int (nI row)), (3, .int (nI a)), (4, .int (nI (m + 1))), (5, .int (bY n Y (a + m)))]) dX5_readLine_112 rfl (by decide) (by decide) rfl ?_
                refine a_aload_n (pc := 115) (i := 0) dX5_readLine_115 rfl rfl ?_
                refine a_dup (pc := 116) dX5_readLine_116 rfl ?_
                refine a_getI (pc := 117) (ci := 5) (k := 4) dX5_readLine_117 (lf_RX5_73 rfl) (by decide) rfl rfl (lt90 hn2 (shK_lt (show shK 66 = _ from rfl))) ?_
                refine a_top (show (.int (hI (sI H2 69 (((6 + (48 * sd)) + (row * w)) + m) ((bY n Y (a + m)) - (nI 97))) 66 4) : Value) = .int (nI (a + m)) from congrArg Value.int ((rd1 (by omega)).trans rr.1)) ?_
                refine a_iconst (pc := 120) (v := nI 1) dX5_readLine_120 (by decide) ?_
                refine n_iadd (pc := 121) dX5_readLine_121 ?_
                refine a_putI (pc := 122) (ci := 5) (k := 4) dX5_readLine_122 (lf_RX5_73 rfl) (by decide) (Or.inl rfl) rfl (lt90 hn2 (shK_lt (show shK 66 = _ from rfl))) rfl ?_
                refine a_goto (pc := 125) (tgt := 37) dX5_readLine_125 (by decide) ?_
                refine a_drop (ls' := [(0, .ref 66), (1, .int (nI sd)), (2, .int (nI row)), (3, .int (nI a)), (4, .int (nI (m + 1)))]) (by simp) ?_
                exact ih (m + 1) _ (by omega) (hk2.trans ⟨(Fr.refl.sI (by simp)).sI (by simp), fun j h1 _ _ _ => by rw [rd1 (by omega)]; exact rd1 (by omega)⟩) ⟨rd2 ⟨rfl, by omega⟩, by rw [rd1 (by omega)]; rw [rd1 (by omega)]; exact rr.2.1, by rw [rd1 (by omega)]; rw [rd1 (by omega)]; exact rr.2.2⟩ (fun j h1 h2 => by rcases (by omega : j < a + m ∨ j = a + m) with z | rfl; exact hall j h1 z; exact c48.2) (fun j hj => by rw [rd1 (by omega), rd1 (by omega)]; exact ho j hj) (fun c h1 h2 => by
                      rw [rd1 (by omega)]
                      by_cases ec : c = m
                      · rw [rd2 ⟨rfl, by omega⟩, ec]; exact (by rw [hbv, u8_of (h8 _) hlt]; exact (cif_t hlt).symm)
                      · rw [rd1 (by omega)]; exact hc c (by omega) h2) (by omega)
              · have hlt : ¬ isLt (Y (a + m)) := fun z => by rw [((bY_eq h8 (by omega)).mp c99).2] at z; exact z.1 (by decide)
                refine a_iconst (pc := 102) (v := (-1)) dX5_readLine_102 (by decide) ?_
                refine a_goto (pc := 103) (tgt := 111) dX5_readLine_103 (by decide) ?_
                refine a_iast (pc := 111) (j := (((6 + (48 * sd)) + (row * w)) + m)) dX5_readLine_111 rfl (lt90 hn2 (shK_lt (show shK 69 = _ from rfl))) rfl (by omega) ?_
                refine n_iinc (pc := 112) (k := 1) (ls' := [(0, .ref 66), (1, .int (nI sd)), (2, .int (nI row)), (3, .int (nI a)), (4, .int (nI (m + 1))), (5, .int (bY n Y (a + m)))]) dX5_readLine_112 rfl (by decide) (by decide) rfl ?_
                refine a_aload_n (pc := 115) (i := 0) dX5_readLine_115 rfl rfl ?_
                refine a_dup (pc := 116) dX5_readLine_116 rfl ?_
                refine a_getI (pc := 117) (ci := 5) (k := 4) dX5_readLine_117 (lf_RX5_73 rfl) (by decide) rfl rfl (lt90 hn2 (shK_lt (show shK 66 = _ from rfl))) ?_
                refine a_top (show (.int (hI (sI H2 69 (((6 + (48 * sd)) + (row * w)) + m) ((-1))) 66 4) : Value) = .int (nI (a + m)) from congrArg Value.int ((rd1 (by omega)).trans rr.1)) ?_
                refine a_iconst (pc := 120) (v := nI 1) dX5_readLine_120 (by decide) ?_
                refine n_iadd (pc := 121) dX5_readLine_121 ?_
                refine a_putI (pc := 122) (ci := 5) (k := 4) dX5_readLine_122 (lf_RX5_73 rfl) (by decide) (Or.inl rfl) rfl (lt90 hn2 (shK_lt (show shK 66 = _ from rfl))) rfl ?_
                refine a_goto (pc := 125) (tgt := 37) dX5_readLine_125 (by decide) ?_
                refine a_drop (ls' := [(0, .ref 66), (1, .int (nI sd)), (2, .int (nI row)), (3, .int (nI a)), (4, .int (nI (m + 1)))]) (by simp) ?_
                exact ih (m + 1) _ (by omega) (hk2.trans ⟨(Fr.refl.sI (by simp)).sI (by simp), fun j h1 _ _ _ => by rw [rd1 (by omega)]; exact rd1 (by omega)⟩) ⟨rd2 ⟨rfl, by omega⟩, by rw [rd1 (by omega)]; rw [rd1 (by omega)]; exact rr.2.1, by rw [rd1 (by omega)]; rw [rd1 (by omega)]; exact rr.2.2⟩ (fun j h1 h2 => by rcases (by omega : j < a + m ∨ j = a + m) with z | rfl; exact hall j h1 z; exact c48.2) (fun j hj => by rw [rd1 (by omega), rd1 (by omega)]; exact ho j hj) (fun c h1 h2 => by
                      rw [rd1 (by omega)]
                      by_cases ec : c = m
                      · rw [rd2 ⟨rfl, by omega⟩, ec]; exact (cif_f hlt).symm
                      · rw [rd1 (by omega)]; exact hc c (by omega) h2) (by omega)
      exact LP (n + 1) 0 H (by omega) KM.refl ⟨r10, r1.2⟩ (fun j h1 h2 => absurd h1 (by omega)) (fun j _ => by rw [e69]) (fun c h1 => absurd h1 (by omega)) (by omega)
    · rw [ev, bY_ln h8] at c15
      have hb : pLb n Y q1 = a := by
        rw [hB]
        rcases (if z : a = n then Or.inl z else Or.inr ⟨n - a - 1, by omega⟩ : a = n ∨ ∃ v, n - a = v + 1) with z | ⟨v, z⟩
        · rw [show n - a = 0 by omega]; rfl
        · rw [z]; exact cif_f (fun y => c15 ⟨by omega, y⟩)
      have rr1 : R5 H (a, q1.2) := ⟨r10, r1.2⟩
      have e2 : pL n Y w q1 = pF (a, q1.2) (-2) a := by rw [e0, hb]; exact cif_t rfl
      have hpf : (pF (a, q1.2) (-2) a).2.1 ≠ 0 := pF_ne (by decide)
      refine a_aload_n (pc := 18) (i := 0) dX5_readLine_18 rfl rfl ?_
      refine a_bipush (pc := 19) (v := (-2)) dX5_readLine_19 (by decide) ?_
      refine a_aload_n (pc := 21) (i := 0) dX5_readLine_21 rfl rfl ?_
      refine a_getI (pc := 22) (ci := 5) (k := 4) dX5_readLine_22 (lf_RX5_73 rfl) (by decide) rfl rfl (lt90 hn1 (shK_lt (show shK 66 = _ from rfl))) ?_
      refine a_top (show (.int (hI H 66 4) : Value) = .int (nI a) from congrArg Value.int r10) ?_
      refine a_uV (pc := 25) (as := [.int ((-2)), .int (nI a)]) (b := 66) (ci := 5) dX5_readLine_25 (lc_RX5_107 rfl) ceX5_report rfl (lt90 hn1 (shK_lt (show shK 66 = _ from rfl))) (s5_report (d := d + 1) x1.1.1 rr1) rfl rfl (Nat.le_of_ble_eq_true rfl) (fun h2 z => z.1.1.1) (fun H3 z => ?_)
      exact a_return (pc := 28) dX5_readLine_28 rfl (⟨rfl, ⟨(y.k.trans z.1).mono (by simp), _, z.2, by rw [e2]; exact Sm.refl, by rw [pF_1]; exact hle.2⟩, fun j hj => by rw [(z.1.1.2.2 69 (by simp)).1, e69], fun z0 => absurd (by rw [e2] at z0; exact z0) hpf⟩)
  · have he : q.2.1 ≠ 0 := by rw [← sm.1]; exact c4
    exact a_return (pc := 7) dX5_readLine_7 rfl (⟨rfl, ⟨KM.refl, q1, r, sm.bad he (pL_keep he), ha⟩, fun _ _ => rfl, fun z0 => absurd (by rw [pL_keep he] at z0; exact z0) he⟩)
theorem pLi_keep {n w : Nat} {Y : Nat → Int32} {q : PS} (h : q.2.1 ≠ 0) : ∀ k, (pLi n Y w k q).2 = q.2
  | 0 => rfl
  | k + 1 => by
    have ih := pLi_keep (n := n) (w := w) (Y := Y) h k
    show (pL n Y w (pLi n Y w k q)).2 = q.2
    rw [pL_keep (by rw [ih]; exact h), ih]
theorem pNi_keep {n : Nat} {Y : Nat → Int32} {q : PS} (h : q.2.1 ≠ 0) : ∀ k, (pNi n Y k q).2 = q.2
  | 0 => rfl
  | k + 1 => by
    have ih := pNi_keep (n := n) (Y := Y) h k
    show (pN n Y 9 (pNi n Y k q)).2 = q.2
    rw [pN_keep (by rw [ih]; exact h), ih]
set_option maxHeartbeats 1500000 in
set_option maxRecDepth 100000 in
theorem s5_readSide {sd st w hh : Nat} {q : PS} {fl : Nat → Nat} {d n : Nat} {h : AH} {Y : Nat → Int32} (x : TXm h n Y) (r : R5 h q) (ha : q.1 ≤ n) (hfl : ∀ i, fl i ≤ 1) (hs : hI h 66 14 = nI (sn fl)) (hsd : sd < 2) (hw : 1 ≤ w ∧ w ≤ 8) (hw0 : hI h 69 0 = nI w) (hh0 : hI h 69 1 = nI hh) (hwh : hh * w ≤ 48) (hh6 : hh ≤ 6) : AC mX5_readSide (d + 3) 0 0 [.ref 66, .int (nI sd), .int (nI st)] h (Qu (fun h2 => (KU [66, 69] h h2 ∧ ∃ q1, R5 h2 q1 ∧ Sm q1 (pLi n Y w hh (onc fl sd q st)) ∧ q1.1 ≤ n) ∧ hI h2 66 14 = nI (sn (flS fl sd)) ∧ (∀ j, (j < 6 + 48 * sd ∨ 6 + 48 * sd + hh * w ≤ j) → hI h2 69 j = hI h 69 j) ∧ ((pLi n Y w hh (onc fl sd q st)).2.1 = 0 → ∀ k c, k < hh → c < w → hI h2 69 (6 + 48 * sd + k * w + c) = lnv n Y w (onc fl sd q st) k c))) := by
  have hn := x.1.1.1
  have hn4 := x.1.2.1
  have h8 := x.1.2.2
  refine AC.of (by decide) rfl (Nat.le_of_ble_eq_true rfl) (fun X => ?_)
  show AW X mX5_readSide (d + 3) 0 0 0 [(0, .ref 66), (1, .int (nI sd)), (2, .int (nI st))] [] h (Qu (fun h2 => (KU [66, 69] h h2 ∧ ∃ q1, R5 h2 q1 ∧ Sm q1 (pLi n Y w hh (onc fl sd q st)) ∧ q1.1 ≤ n) ∧ hI h2 66 14 = nI (sn (flS fl sd)) ∧ (∀ j, (j < 6 + 48 * sd ∨ 6 + 48 * sd + hh * w ≤ j) → hI h2 69 j = hI h 69 j) ∧ ((pLi n Y w hh (onc fl sd q st)).2.1 = 0 → ∀ k c, k < hh → c < w → hI h2 69 (6 + 48 * sd + k * w + c) = lnv n Y w (onc fl sd q st) k c)))
  refine a_aload_n (pc := 0) (i := 0) dX5_readSide_0 rfl rfl ?_
  refine a_iload_n (pc := 1) (i := 1) dX5_readSide_1 rfl rfl ?_
  refine a_iload_n (pc := 2) (i := 2) dX5_readSide_2 rfl rfl ?_
  refine a_uV (pc := 3) (as := [.int (nI sd), .int (nI st)]) (b := 66) (ci := 5) dX5_readSide_3 (lc_RX5_129 rfl) ceX5_once rfl (lt90 hn (shK_lt (show shK 66 = _ from rfl))) (s5_once (d := d + 1) (k := sd) x.1.1 r hfl (by omega) hs) rfl rfl (Nat.le_of_ble_eq_true rfl) (fun h2 y => y.1.1.1) (fun H0 y => ?_)
  obtain ⟨ku, r0, hs0⟩ := y
  have x0 := x.u ku (by simp)
  obtain ⟨Q0, hQ0⟩ : ∃ Q0, Q0 = onc fl sd q st := ⟨_, rfl⟩
  rw [← hQ0] at r0
  have ha0 : Q0.1 ≤ n := by rw [hQ0]; unfold onc; rcases Classical.em (fl sd = 0) with z | z; rw [cif_t z]; exact ha; rw [cif_f z, pF_1]; exact ha
  have e69 : hI H0 69 = hI h 69 := (ku.1.2.2 69 (by simp)).1
  refine a_iconst (pc := 6) (v := nI 0) dX5_readSide_6 (by decide) ?_
  refine a_istore_n (pc := 7) (i := 3) (ls' := [(0, .ref 66), (1, .int (nI sd)), (2, .int (nI st)), (3, .int (nI 0))]) dX5_readSide_7 rfl (by decide) rfl ?_
  have LP : ∀ (fu : Nat) (k : Nat) (H : AH), k ≤ hh → Q5 [66, 69] H0 n (pLi n Y w k Q0) H → (∀ j, (j < 6 + 48 * sd ∨ 6 + 48 * sd + k * w ≤ j) → hI H 69 j = hI h 69 j) → ((pLi n Y w k Q0).2.1 = 0 → ∀ i c, i < k → c < w → hI H 69 (6 + 48 * sd + i * w + c) = lnv n Y w Q0 i c) → hh - k < fu → AW X mX5_readSide (d + 3) 0 0 8 [(0, .ref 66), (1, .int (nI sd)), (2, .int (nI st)), (3, .int (nI k))] [] H (Qu (fun h2 => (KU [66, 69] h h2 ∧ ∃ q1, R5 h2 q1 ∧ Sm q1 (pLi n Y w hh (onc fl sd q st)) ∧ q1.1 ≤ n) ∧ hI h2 66 14 = nI (sn (flS fl sd)) ∧ (∀ j, (j < 6 + 48 * sd ∨ 6 + 48 * sd + hh * w ≤ j) → hI h2 69 j = hI h 69 j) ∧ ((pLi n Y w hh (onc fl sd q st)).2.1 = 0 → ∀ k c, k < hh → c < w → hI h2 69 (6 + 48 * sd + k * w + c) = lnv n Y w (onc fl sd q st) k c))) := by
    intro fu
    induction fu with
    | zero => intro k H hk hm ho hc hz; exact absurd hz (Nat.not_lt_zero _)
    | succ fu ih =>
      intro k H hk hm ho hc hz
      obtain ⟨km, q1, rq, sq, hq1⟩ := id hm
      have x1 := x0.k km (by simp)
      have hn1 := x1.1.1.1
      refine a_iload_n (pc := 8) (i := 3) dX5_readSide_8 rfl rfl ?_
      refine a_aload_n (pc := 9) (i := 0) dX5_readSide_9 rfl rfl ?_
      refine a_getR (pc := 10) (ci := 5) (k := 9) (b := 69) dX5_readSide_10 (lf_RX5_20 rfl) (by decide) rfl rfl (lt90 hn1 (shK_lt (show shK 66 = _ from rfl))) x1.1.1.2.2.2.2.2.2.2.2.1.2.2.1 ?_
      refine a_iconst (pc := 13) (v := nI 1) dX5_readSide_13 (by decide) ?_
      refine a_iald (pc := 14) (j := 1) dX5_readSide_14 rfl (lt90 hn1 (shK_lt (show shK 69 = _ from rfl))) rfl (by omega) ?_
      refine a_top (show (.int (hI H 69 1) : Value) = .int (nI hh) from congrArg Value.int ((ho 1 (by omega)).trans hh0)) ?_
      refine n_icmp_ge (pc := 15) (tgt := 30) dX5_readSide_15 (by decide) (by omega) (by omega) (fun c15 => ?_) (fun c15 => ?_)
      · have ek : k = hh := by omega
        rw [ek] at ho hc sq
        exact a_return (pc := 30) dX5_readSide_30 rfl (⟨rfl, ⟨(ku.mono (S2 := [66, 69]) (by simp)).trans (km.u (fun _ z => z)), q1, rq, by rw [← hQ0]; exact sq, hq1⟩, (km.2 14 (by omega) (by omega) (by omega) (by omega)).trans hs0, ho, fun z => by rw [← hQ0] at z ⊢; exact hc z⟩)
      · skip
        have hkw : (k + 1) * w ≤ hh * w := Nat.mul_le_mul_right _ c15
        rw [Nat.succ_mul] at hkw
        refine a_aload_n (pc := 18) (i := 0) dX5_readSide_18 rfl rfl ?_
        refine a_iload_n (pc := 19) (i := 1) dX5_readSide_19 rfl rfl ?_
        refine a_iload_n (pc := 20) (i := 3) dX5_readSide_20 rfl rfl ?_
        refine a_uV (pc := 21) (as := [.int (nI sd), .int (nI k)]) (b := 66) (ci := 5) dX5_readSide_21 (lc_RX5_132 rfl) ceX5_readLine rfl (lt90 hn1 (shK_lt (show shK 66 = _ from rfl))) (s5_readLine (d := d) (w := w) x1 rq hq1 sq hsd hw ((ho 0 (by omega)).trans hw0) (by rw [Nat.succ_mul]; omega)) rfl rfl (Nat.le_of_ble_eq_true rfl) (fun h2 z => z.1.1.1.1) (fun H2 z => ?_)
        obtain ⟨hz1, hz2, hz3⟩ := z
        refine n_iinc (pc := 24) (k := 1) (ls' := [(0, .ref 66), (1, .int (nI sd)), (2, .int (nI st)), (3, .int (nI (k + 1)))]) dX5_readSide_24 rfl (by decide) (by decide) rfl ?_
        refine a_goto (pc := 27) (tgt := 8) dX5_readSide_27 (by decide) ?_
        exact ih (k + 1) H2 (by omega) ⟨km.trans hz1.1, hz1.2⟩ (fun j hj => by
            have e9 : (k + 1) * w = k * w + w := Nat.succ_mul k w
            rw [hz2 j (by omega)]
            exact ho j (by omega)) (fun z0 i c hi hc9 => by
            have z1 := (pL_0 z0).1
            by_cases ei : i = k
            · subst ei; exact hz3 z0 c hc9
            · have h1 : (i + 1) * w ≤ k * w := Nat.mul_le_mul_right _ (by omega)
              rw [Nat.succ_mul] at h1
              rw [hz2 _ (by omega)]
              exact hc z1 i c (by omega) hc9) (by omega)
  exact LP (hh + 1) 0 H0 (Nat.zero_le _) ⟨KM.refl, Q0, r0, Sm.refl, ha0⟩ (fun j _ => by rw [e69]) (fun _ i c hi => absurd hi (by omega)) (by omega)
