/-! the class LetterCutsModel: the reader: bytes, words, numbers -/
/-- the model reads n bytes Y -/
def TXm (h : AH) (n : Nat) (Y : Nat → Int32) : Prop := (CB h ∧ n ≤ 400 ∧ ∀ j, ∃ b : Int8, Y j = b.toInt32) ∧ hI h 66 3 = nI n ∧ ∀ j, j < n → hI h 67 j = Y j &&& 255
def R5 (h : AH) (q : PS) : Prop := hI h 66 4 = nI q.1 ∧ hI h 66 5 = q.2.1 ∧ hI h 66 6 = q.2.2
/-- only place, error, offset and the number's start changed, and the cells S -/
def KM (S : List Nat) (h h2 : AH) : Prop := Fr S h h2 ∧ ∀ j, j ≠ 4 → j ≠ 5 → j ≠ 6 → j ≠ 13 → hI h2 66 j = hI h 66 j
theorem KM.refl {S : List Nat} {h : AH} : KM S h h := ⟨Fr.refl, fun _ _ _ _ _ => rfl⟩
theorem KM.trans {S : List Nat} {h h2 h3 : AH} (a : KM S h h2) (b : KM S h2 h3) : KM S h h3 := ⟨a.1.trans b.1, fun j h1 h2 h3 h4 => (b.2 j h1 h2 h3 h4).trans (a.2 j h1 h2 h3 h4)⟩
theorem KM.mono {S S2 : List Nat} {h h2 : AH} (a : KM S h h2) (hs : ∀ b, b ∈ S → b ∈ S2) : KM S2 h h2 := ⟨a.1.mono hs, a.2⟩
theorem TXm.k {S : List Nat} {h h2 : AH} {n : Nat} {Y : Nat → Int32} (x : TXm h n Y) (a : KM S h h2) (hs : 67 ∉ S) : TXm h2 n Y := ⟨⟨x.1.1.fr a.1, x.1.2⟩, (a.2 3 (by omega) (by omega) (by omega) (by omega)).trans x.2.1, fun j hj => by rw [(a.1.2.2 67 hs).1]; exact x.2.2 j hj⟩
/-- the model's state, the class's state: the same error; the same place while there is none -/
def Sm (q1 q : PS) : Prop := q1.2 = q.2 ∧ (q.2.1 = 0 → q1.1 = q.1)
theorem Sm.eq {q1 q : PS} (s : Sm q1 q) (h : q.2.1 = 0) : q1 = q := Prod.ext (s.2 h) s.1
theorem Sm.refl {q : PS} : Sm q q := ⟨rfl, fun _ => rfl⟩
theorem Sm.bad {q1 q q2 : PS} (s : Sm q1 q) (h : q.2.1 ≠ 0) (k : q2.2 = q.2) : Sm q1 q2 := ⟨s.1.trans k.symm, fun z => absurd (by rw [← k]; exact z) h⟩
def Q5 (S : List Nat) (h : AH) (n : Nat) (q : PS) (h2 : AH) : Prop := KM S h h2 ∧ ∃ q1, R5 h2 q1 ∧ Sm q1 q ∧ q1.1 ≤ n
/-- a byte of the text; -1 behind it -/
def bY (n : Nat) (Y : Nat → Int32) (k : Nat) : Int32 := if k < n then Y k &&& 255 else -1
theorem u8_in {x : Int32} (h : ∃ b : Int8, x = b.toInt32) {lo hi : Nat} (hl : lo < 128) (hh : hi < 128) : inB (x &&& 255) (nI lo) (nI hi) ↔ inB x (nI lo) (nI hi) := by
  rcases u8_c h with z | z
  · rw [z.2]
  · constructor
    · intro q
      refine absurd ?_ q.2
      rcases (by omega : hi = 127 ∨ hi < 127) with rfl | w
      · exact z.2
      · exact lt_tr ((nI_ltI (by omega) (by omega)).mpr w) z.2
    · intro q
      refine absurd ?_ q.1
      rcases Nat.eq_zero_or_pos lo with rfl | w
      · exact z.1
      · exact lt_tr z.1 ((nI_ltI (a := 0) (by omega) (by omega)).mpr w)
theorem m1_in {lo hi : Nat} (hl : lo < 128) : ¬ inB (-1) (nI lo) (nI hi) := fun z => z.1 (by
  rw [Int32.lt_iff_toInt_lt, nI_toInt (by omega)]
  have : (-1 : Int32).toInt = -1 := rfl
  omega)
theorem bY_in {n : Nat} {Y : Nat → Int32} (h8 : ∀ j, ∃ b : Int8, Y j = b.toInt32) {k lo hi : Nat} (hl : lo < 128) (hh : hi < 128) : inB (bY n Y k) (nI lo) (nI hi) ↔ k < n ∧ inB (Y k) (nI lo) (nI hi) := by
  unfold bY
  by_cases e : k < n
  · rw [if_pos e, u8_in (h8 k) hl hh]; exact ⟨fun z => ⟨e, z⟩, fun z => z.2⟩
  · rw [if_neg e]; exact ⟨fun z => absurd z (m1_in hl), fun z => absurd z.1 e⟩
theorem m1_n {c : Nat} (hc : c < 2 ^ 31) : (-1 : Int32) ≠ nI c := fun z => nI_pos hc (by rw [← z]; decide)
theorem bY_eq {n : Nat} {Y : Nat → Int32} (h8 : ∀ j, ∃ b : Int8, Y j = b.toInt32) {k c : Nat} (hc : c < 128) : bY n Y k = nI c ↔ k < n ∧ Y k = nI c := by
  unfold bY
  by_cases e : k < n
  · rw [if_pos e, u8_eq (h8 k) hc]; exact ⟨fun z => ⟨e, z⟩, fun z => z.2⟩
  · rw [if_neg e]; exact ⟨fun z => absurd z (m1_n (by omega)), fun z => absurd z.1 e⟩
theorem bY_m1 {n : Nat} {Y : Nat → Int32} (h8 : ∀ j, ∃ b : Int8, Y j = b.toInt32) {k : Nat} : bY n Y k = -1 ↔ n ≤ k := by
  unfold bY
  by_cases e : k < n
  · rw [if_pos e]
    refine ⟨fun z => ?_, fun z => absurd e (by omega)⟩
    rcases u8_c (h8 k) with w | w
    · rw [w.2] at z; rw [z] at w; exact absurd (by decide) w.1
    · rw [z] at w; exact absurd w.2 (by decide)
  · rw [if_neg e]; exact ⟨fun _ => by omega, fun _ => rfl⟩
theorem skp_ok {P : Int32 → Prop} {Y : Nat → Int32} : ∀ m a j, a ≤ j → j < skp P Y m a → P (Y j)
  | 0, a, j, h1, h2 => by unfold skp at h2; omega
  | m + 1, a, j, h1, h2 => by
    unfold skp at h2
    rcases Classical.em (P (Y a)) with h | h
    · rw [cif_t h] at h2
      rcases (by omega : j = a ∨ a + 1 ≤ j) with rfl | z
      · exact h
      · exact skp_ok m (a + 1) j z h2
    · rw [cif_f h] at h2; omega
theorem skp_max {P : Int32 → Prop} {Y : Nat → Int32} : ∀ m a, skp P Y m a < a + m → ¬ P (Y (skp P Y m a))
  | 0, a, h => by unfold skp at h; omega
  | m + 1, a, h => by
    unfold skp at h ⊢
    rcases Classical.em (P (Y a)) with z | z
    · rw [cif_t z] at h ⊢; exact skp_max m (a + 1) (by omega)
    · rw [cif_f z]; exact z
theorem skp_ge {P : Int32 → Prop} {Y : Nat → Int32} : ∀ m a b, b ≤ a + m → (∀ j, a ≤ j → j < b → P (Y j)) → b ≤ skp P Y m a ∨ b ≤ a
  | 0, a, b, h, _ => Or.inr (by omega)
  | m + 1, a, b, h, hp => by
    rcases (by omega : b ≤ a ∨ a < b) with z | z
    · exact Or.inr z
    · refine Or.inl ?_
      unfold skp
      rw [cif_t (hp a (Nat.le_refl _) z)]
      rcases skp_ge (P := P) (Y := Y) m (a + 1) b (by omega) (fun j h1 h2 => hp j (by omega) h2) with w | w
      · exact w
      · have := (skp_le (P := P) (Y := Y) m (a + 1)).1; omega
theorem wd_iff {i n a : Nat} {Y : Nat → Int32} (hi : i < 5) (ha : a ≤ n) : wd i Y a (skp isLt Y (n - a) a) ↔ (∀ j, j < zLen.getD i 0 → a + j < n ∧ Y (a + j) = zC i j) ∧ ¬ (a + zLen.getD i 0 < n ∧ isLt (Y (a + zLen.getD i 0))) := by
  have hle := skp_le (P := isLt) (Y := Y) (n - a) a
  constructor
  · rintro ⟨h1, h2⟩
    refine ⟨fun j hj => ⟨by omega, h2 j hj⟩, fun ⟨h3, h4⟩ => ?_⟩
    have h5 := skp_max (P := isLt) (Y := Y) (n - a) a (by omega)
    rw [h1] at h5
    exact h5 h4
  · rintro ⟨h1, h2⟩
    have hz := zL hi
    have h3 : ∀ j, a ≤ j → j < a + zLen.getD i 0 → isLt (Y j) := fun j h4 h5 => by
      have h6 := (h1 (j - a) (by omega)).2
      obtain ⟨c, hc, e⟩ := zC_ok hi (j := j - a) (by omega)
      rw [show a + (j - a) = j by omega, e] at h6
      rw [h6]
      exact ⟨fun y => by have := (nI_ltI (by omega) (by omega)).mp y; omega, fun y => by have := (nI_ltI (by omega) (by omega)).mp y; omega⟩
    have h7 := (h1 (zLen.getD i 0 - 1) (by omega)).1
    have h8 := skp_ge (P := isLt) (Y := Y) (n - a) a (a + zLen.getD i 0) (by omega) h3
    refine ⟨?_, fun j hj => (h1 j hj).2⟩
    rcases (by omega : skp isLt Y (n - a) a = a + zLen.getD i 0 ∨ a + zLen.getD i 0 < skp isLt Y (n - a) a) with w | w
    · exact w
    · exact absurd ⟨by omega, skp_ok (P := isLt) (Y := Y) (n - a) a (a + zLen.getD i 0) (by omega) w⟩ h2
theorem wd_one {i j a b : Nat} {Y : Nat → Int32} (hi : i < 5) (hj : j < 5) (h1 : wd i Y a b) (h2 : wd j Y a b) : i = j := by
  have e1 := h1.2 0 (zL hi).2
  have e2 := h2.2 0 (zL hj).2
  have e : zC i 0 = zC j 0 := e1.symm.trans e2
  have h : ∀ i j : Fin 5, zC i.val 0 = zC j.val 0 → i.val = j.val := by decide +kernel
  exact h ⟨i, hi⟩ ⟨j, hj⟩ e
set_option maxHeartbeats 1500000 in
set_option maxRecDepth 100000 in
theorem s5_byteAt {k : Nat} {d n : Nat} {h : AH} {Y : Nat → Int32} (x : TXm h n Y) (hk : k < 2 ^ 31) : AC mX5_byteAt d 0 0 [.ref 66, .int (nI k)] h (Qe (some (.int (bY n Y k))) h) := by
  have hn := x.1.1.1
  have hn4 := x.1.2.1
  have h8 := x.1.2.2
  refine AC.of (by decide) rfl (Nat.le_of_ble_eq_true rfl) (fun X => ?_)
  show AW X mX5_byteAt d 0 0 0 [(0, .ref 66), (1, .int (nI k))] [] h (Qe (some (.int (bY n Y k))) h)
  refine a_iload_n (pc := 0) (i := 1) dX5_byteAt_0 rfl rfl ?_
  refine a_aload_n (pc := 1) (i := 0) dX5_byteAt_1 rfl rfl ?_
  refine a_getI (pc := 2) (ci := 5) (k := 3) dX5_byteAt_2 (lf_RX5_70 rfl) (by decide) rfl rfl (lt90 hn (shK_lt (show shK 66 = _ from rfl))) ?_
  refine a_top (show (.int (hI h 66 3) : Value) = .int (nI n) from congrArg Value.int x.2.1) ?_
  refine n_icmp_ge (pc := 5) (tgt := 17) dX5_byteAt_5 (by decide) (by omega) (by omega) (fun c5 => ?_) (fun c5 => ?_)
  · have e : bY n Y k = -1 := if_neg (by omega)
    refine a_iconst (pc := 17) (v := (-1)) dX5_byteAt_17 (by decide) ?_
    exact a_ireturn (pc := 18) dX5_byteAt_18 rfl rfl (⟨by rw [e], rfl⟩)
  · have e : bY n Y k = Y k &&& 255 := if_pos c5
    refine a_aload_n (pc := 8) (i := 0) dX5_byteAt_8 rfl rfl ?_
    refine a_getR (pc := 9) (ci := 5) (k := 1) (b := 67) dX5_byteAt_9 (lf_RX5_9 rfl) (by decide) rfl rfl (lt90 hn (shK_lt (show shK 66 = _ from rfl))) x.1.1.2.2.2.2.2.2.2.2.1.1 ?_
    refine a_iload_n (pc := 12) (i := 1) dX5_byteAt_12 rfl rfl ?_
    refine a_iald (pc := 13) (j := k) dX5_byteAt_13 rfl (lt90 hn (shK_lt (show shK 67 = _ from rfl))) rfl (by omega) ?_
    refine a_top (show (.int (hI h 67 k) : Value) = .int (Y k &&& 255) from congrArg Value.int (x.2.2 k c5)) ?_
    refine a_goto (pc := 14) (tgt := 18) dX5_byteAt_14 (by decide) ?_
    exact a_ireturn (pc := 18) dX5_byteAt_18 rfl rfl (⟨by rw [e], rfl⟩)
def At5 (h h2 : AH) (b : Nat) : Prop := Fr [66] h h2 ∧ hI h2 66 4 = nI b ∧ ∀ j, j ≠ 4 → hI h2 66 j = hI h 66 j
theorem At5.k {h h2 : AH} {b : Nat} (a : At5 h h2 b) : KM [66] h h2 := ⟨a.1, fun j h1 _ _ _ => a.2.2 j h1⟩
theorem At5.r {h h2 : AH} {b : Nat} {q : PS} (a : At5 h h2 b) (r : R5 h q) : R5 h2 (b, q.2) := ⟨a.2.1, (a.2.2 5 (by omega)).trans r.2.1, (a.2.2 6 (by omega)).trans r.2.2⟩
theorem At5.trans {h h2 h3 : AH} {b b2 : Nat} (a : At5 h h2 b) (a2 : At5 h2 h3 b2) : At5 h h3 b2 := ⟨a.1.trans a2.1, a2.2.1, fun j hj => (a2.2.2 j hj).trans (a.2.2 j hj)⟩
set_option maxHeartbeats 1500000 in
set_option maxRecDepth 100000 in
theorem s5_ahead {a : Nat} {d n : Nat} {h : AH} {Y : Nat → Int32} (x : TXm h n Y) (h4 : hI h 66 4 = nI a) (ha : a ≤ n) : AC mX5_ahead (d + 1) 0 0 [.ref 66] h (Qx (fun v h2 => v = bY n Y (skp (fun z => z = nI 32) Y (n - a) a) ∧ At5 h h2 (skp (fun z => z = nI 32) Y (n - a) a))) := by
  have hn := x.1.1.1
  have hn4 := x.1.2.1
  have h8 := x.1.2.2
  refine AC.of (by decide) rfl (Nat.le_of_ble_eq_true rfl) (fun X => ?_)
  show AW X mX5_ahead (d + 1) 0 0 0 [(0, .ref 66)] [] h (Qx (fun v h2 => v = bY n Y (skp (fun z => z = nI 32) Y (n - a) a) ∧ At5 h h2 (skp (fun z => z = nI 32) Y (n - a) a)))
  have LP : ∀ (fu : Nat) (b : Nat) (H : AH), a ≤ b ∧ b ≤ n → At5 h H b → skp (fun z => z = nI 32) Y (n - b) b = skp (fun z => z = nI 32) Y (n - a) a → n - b < fu → AW X mX5_ahead (d + 1) 0 0 0 [(0, .ref 66)] [] H (Qx (fun v h2 => v = bY n Y (skp (fun z => z = nI 32) Y (n - a) a) ∧ At5 h h2 (skp (fun z => z = nI 32) Y (n - a) a))) := by
    intro fu
    induction fu with
    | zero => intro b H hb ha5 hs hz; exact absurd hz (Nat.not_lt_zero _)
    | succ fu ih =>
      intro b H hb ha5 hs hz
      have xx := x.k ha5.k (by simp)
      have hn2 := xx.1.1.1
      refine a_aload_n (pc := 0) (i := 0) dX5_ahead_0 rfl rfl ?_
      refine a_aload_n (pc := 1) (i := 0) dX5_ahead_1 rfl rfl ?_
      refine a_getI (pc := 2) (ci := 5) (k := 4) dX5_ahead_2 (lf_RX5_73 rfl) (by decide) rfl rfl (lt90 hn2 (shK_lt (show shK 66 = _ from rfl))) ?_
      refine a_top (show (.int (hI H 66 4) : Value) = .int (nI b) from congrArg Value.int ha5.2.1) ?_
      refine a_vV1 (pc := 5) (as := [.int (nI b)]) (b := 66) (ci := 5) (v := .int (bY n Y b)) (h' := H) dX5_ahead_5 (lc_RX5_76 rfl) ceX5_byteAt rfl (lt90 hn2 (shK_lt (show shK 66 = _ from rfl))) (s5_byteAt xx (by omega)) rfl rfl (Nat.le_of_ble_eq_true rfl) rfl ?_
      refine a_bipush (pc := 8) (v := nI 32) dX5_ahead_8 (by decide) ?_
      refine a_icmp_ne (pc := 10) (tgt := 26) dX5_ahead_10 (by decide) (fun c10 => ?_) (fun c10 => ?_)
      · have e : skp (fun z => z = nI 32) Y (n - b) b = b := by
          rcases (if z : b = n then Or.inl z else Or.inr ⟨n - b - 1, by omega⟩ : b = n ∨ ∃ v, n - b = v + 1) with z | ⟨v, z⟩
          · rw [show n - b = 0 by omega]; rfl
          · rw [z]; exact cif_f (fun y => c10 ((bY_eq h8 (by omega)).mpr ⟨by omega, y⟩))
        rw [e] at hs
        refine a_aload_n (pc := 26) (i := 0) dX5_ahead_26 rfl rfl ?_
        refine a_aload_n (pc := 27) (i := 0) dX5_ahead_27 rfl rfl ?_
        refine a_getI (pc := 28) (ci := 5) (k := 4) dX5_ahead_28 (lf_RX5_73 rfl) (by decide) rfl rfl (lt90 hn2 (shK_lt (show shK 66 = _ from rfl))) ?_
        refine a_top (show (.int (hI H 66 4) : Value) = .int (nI b) from congrArg Value.int ha5.2.1) ?_
        refine a_vV1 (pc := 31) (as := [.int (nI b)]) (b := 66) (ci := 5) (v := .int (bY n Y b)) (h' := H) dX5_ahead_31 (lc_RX5_76 rfl) ceX5_byteAt rfl (lt90 hn2 (shK_lt (show shK 66 = _ from rfl))) (s5_byteAt xx (by omega)) rfl rfl (Nat.le_of_ble_eq_true rfl) rfl ?_
        exact a_ireturn (pc := 34) dX5_ahead_34 rfl rfl (⟨_, rfl, by rw [hs], hs ▸ ha5⟩)
      · obtain ⟨hbn, hY⟩ := (bY_eq h8 (by omega)).mp c10
        obtain ⟨v, hv⟩ : ∃ v, n - b = v + 1 := ⟨n - b - 1, by omega⟩
        have e : skp (fun z => z = nI 32) Y (n - b) b = skp (fun z => z = nI 32) Y (n - (b + 1)) (b + 1) := by rw [hv, show n - (b + 1) = v by omega]; exact cif_t hY
        refine a_aload_n (pc := 13) (i := 0) dX5_ahead_13 rfl rfl ?_
        refine a_dup (pc := 14) dX5_ahead_14 rfl ?_
        refine a_getI (pc := 15) (ci := 5) (k := 4) dX5_ahead_15 (lf_RX5_73 rfl) (by decide) rfl rfl (lt90 hn2 (shK_lt (show shK 66 = _ from rfl))) ?_
        refine a_top (show (.int (hI H 66 4) : Value) = .int (nI b) from congrArg Value.int ha5.2.1) ?_
        refine a_iconst (pc := 18) (v := nI 1) dX5_ahead_18 (by decide) ?_
        refine n_iadd (pc := 19) dX5_ahead_19 ?_
        refine a_putI (pc := 20) (ci := 5) (k := 4) dX5_ahead_20 (lf_RX5_73 rfl) (by decide) (Or.inl rfl) rfl (lt90 hn2 (shK_lt (show shK 66 = _ from rfl))) rfl ?_
        refine a_goto (pc := 23) (tgt := 0) dX5_ahead_23 (by decide) ?_
        exact ih (b + 1) _ (by omega) (ha5.trans ⟨Fr.refl.sI (by simp), rd2 ⟨rfl, rfl⟩, fun j hj => rd1 (by omega)⟩) (by rw [← e]; exact hs) (by omega)
  exact LP (n + 1) a h ⟨Nat.le_refl _, ha⟩ ⟨Fr.refl, h4, fun _ _ => rfl⟩ rfl (by omega)
set_option maxHeartbeats 1500000 in
set_option maxRecDepth 100000 in
theorem s5_isGood {d : Nat} {h : AH} {e : Int32} (c : CB h) (he : hI h 66 5 = e) : AC mX5_isGood d 0 0 [.ref 66] h (Qe (some (.int (bi (e = 0)))) h) := by
  have hn := c.1
  refine AC.of (by decide) rfl (Nat.le_of_ble_eq_true rfl) (fun X => ?_)
  show AW X mX5_isGood d 0 0 0 [(0, .ref 66)] [] h (Qe (some (.int (bi (e = 0)))) h)
  refine a_aload_n (pc := 0) (i := 0) dX5_isGood_0 rfl rfl ?_
  refine a_getI (pc := 1) (ci := 5) (k := 5) dX5_isGood_1 (lf_RX5_80 rfl) (by decide) rfl rfl (lt90 hn (shK_lt (show shK 66 = _ from rfl))) ?_
  refine a_top (show (.int (hI h 66 5) : Value) = .int e from congrArg Value.int he) ?_
  refine a_if_ne (pc := 4) (tgt := 11) dX5_isGood_4 (by decide) (fun c4 => ?_) (fun c4 => ?_)
  · skip
    refine a_iconst (pc := 11) (v := nI 0) dX5_isGood_11 (by decide) ?_
    exact a_ireturn (pc := 12) dX5_isGood_12 rfl rfl (⟨by rw [bi_f c4]; rfl, rfl⟩)
  · skip
    refine a_iconst (pc := 7) (v := nI 1) dX5_isGood_7 (by decide) ?_
    refine a_goto (pc := 8) (tgt := 12) dX5_isGood_8 (by decide) ?_
    exact a_ireturn (pc := 12) dX5_isGood_12 rfl rfl (⟨by rw [bi_t c4]; rfl, rfl⟩)
set_option maxHeartbeats 1500000 in
set_option maxRecDepth 100000 in
theorem s5_report {d : Nat} {h : AH} {q : PS} {code : Int32} {off : Nat} (c : CB h) (r : R5 h q) : AC mX5_report d 0 0 [.ref 66, .int code, .int (nI off)] h (Qu (fun h2 => KM [66] h h2 ∧ R5 h2 (pF q code off))) := by
  have hn := c.1
  refine AC.of (by decide) rfl (Nat.le_of_ble_eq_true rfl) (fun X => ?_)
  show AW X mX5_report d 0 0 0 [(0, .ref 66), (1, .int code), (2, .int (nI off))] [] h (Qu (fun h2 => KM [66] h h2 ∧ R5 h2 (pF q code off)))
  refine a_aload_n (pc := 0) (i := 0) dX5_report_0 rfl rfl ?_
  refine a_getI (pc := 1) (ci := 5) (k := 5) dX5_report_1 (lf_RX5_80 rfl) (by decide) rfl rfl (lt90 hn (shK_lt (show shK 66 = _ from rfl))) ?_
  refine a_top (show (.int (hI h 66 5) : Value) = .int q.2.1 from congrArg Value.int r.2.1) ?_
  refine a_if_eq (pc := 4) (tgt := 8) dX5_report_4 (by decide) (fun c4 => ?_) (fun c4 => ?_)
  · have e : pF q code off = _ := cif_t c4
    refine a_aload_n (pc := 8) (i := 0) dX5_report_8 rfl rfl ?_
    refine a_iload_n (pc := 9) (i := 1) dX5_report_9 rfl rfl ?_
    refine a_putI (pc := 10) (ci := 5) (k := 5) dX5_report_10 (lf_RX5_80 rfl) (by decide) (Or.inl rfl) rfl (lt90 hn (shK_lt (show shK 66 = _ from rfl))) rfl ?_
    refine a_aload_n (pc := 13) (i := 0) dX5_report_13 rfl rfl ?_
    refine a_iload_n (pc := 14) (i := 2) dX5_report_14 rfl rfl ?_
    refine a_putI (pc := 15) (ci := 5) (k := 6) dX5_report_15 (lf_RX5_83 rfl) (by decide) (Or.inl rfl) rfl (lt90 hn (shK_lt (show shK 66 = _ from rfl))) rfl ?_
    exact a_return (pc := 18) dX5_report_18 rfl (⟨rfl, ⟨(Fr.refl.sI (by simp)).sI (by simp), fun j h1 h2 h3 h4 => by rw [rd1 (by omega), rd1 (by omega)]⟩, by rw [e]; exact ⟨by rw [rd1 (by omega), rd1 (by omega)]; exact r.1, by rw [rd1 (by omega), rd2 ⟨rfl, rfl⟩], rd2 ⟨rfl, rfl⟩⟩⟩)
  · skip
    exact a_return (pc := 7) dX5_report_7 rfl (⟨rfl, KM.refl, by rw [show pF q code off = q from cif_f c4]; exact r⟩)
set_option maxHeartbeats 1500000 in
set_option maxRecDepth 100000 in
theorem s5_isDigit {d : Nat} {h : AH} {v : Int32} : AC mX5_isDigit (d + 1) 0 0 [.int v] h (Qe (some (.int (bi (inB v (nI 48) (nI 57))))) h) := by
  refine AC.of (by decide) rfl (Nat.le_of_ble_eq_true rfl) (fun X => ?_)
  show AW X mX5_isDigit (d + 1) 0 0 0 [(0, .int v)] [] h (Qe (some (.int (bi (inB v (nI 48) (nI 57))))) h)
  refine a_iload_n (pc := 0) (i := 0) dX5_isDigit_0 rfl rfl ?_
  refine a_bipush (pc := 1) (v := nI 48) dX5_isDigit_1 (by decide) ?_
  refine a_bipush (pc := 3) (v := nI 57) dX5_isDigit_3 (by decide) ?_
  refine a_vS1 (pc := 5) (as := [.int v, .int (nI 48), .int (nI 57)]) (v := .int (bi (inB v (nI 48) (nI 57)))) (h' := h) dX5_isDigit_5 (lc_RX5_86 rfl) ceX5_in s5_in rfl rfl (Nat.le_of_ble_eq_true rfl) rfl ?_
  exact a_ireturn (pc := 8) dX5_isDigit_8 rfl (bi_nb _) (⟨rfl, rfl⟩)
set_option maxHeartbeats 1500000 in
set_option maxRecDepth 100000 in
theorem s5_isLine {d : Nat} {h : AH} {v : Int32} : AC mX5_isLine (d + 1) 0 0 [.int v] h (Qe (some (.int (bi (v = nI 45 ∨ inB v (nI 97) (nI 122))))) h) := by
  refine AC.of (by decide) rfl (Nat.le_of_ble_eq_true rfl) (fun X => ?_)
  show AW X mX5_isLine (d + 1) 0 0 0 [(0, .int v)] [] h (Qe (some (.int (bi (v = nI 45 ∨ inB v (nI 97) (nI 122))))) h)
  refine a_iload_n (pc := 0) (i := 0) dX5_isLine_0 rfl rfl ?_
  refine a_bipush (pc := 1) (v := nI 45) dX5_isLine_1 (by decide) ?_
  refine a_icmp_eq (pc := 3) (tgt := 17) dX5_isLine_3 (by decide) (fun c3 => ?_) (fun c3 => ?_)
  · have e : v = nI 45 ∨ inB v (nI 97) (nI 122) := Or.inl c3
    refine a_iconst (pc := 17) (v := nI 1) dX5_isLine_17 (by decide) ?_
    refine a_goto (pc := 18) (tgt := 22) dX5_isLine_18 (by decide) ?_
    exact a_ireturn (pc := 22) dX5_isLine_22 rfl rfl (⟨by rw [bi_t e]; rfl, rfl⟩)
  · skip
    refine a_iload_n (pc := 6) (i := 0) dX5_isLine_6 rfl rfl ?_
    refine a_bipush (pc := 7) (v := nI 97) dX5_isLine_7 (by decide) ?_
    refine a_bipush (pc := 9) (v := nI 122) dX5_isLine_9 (by decide) ?_
    refine a_vS1 (pc := 11) (as := [.int v, .int (nI 97), .int (nI 122)]) (v := .int (bi (inB v (nI 97) (nI 122)))) (h' := h) dX5_isLine_11 (lc_RX5_86 rfl) ceX5_in s5_in rfl rfl (Nat.le_of_ble_eq_true rfl) rfl ?_
    refine b_if_eq (pc := 14) (tgt := 21) dX5_isLine_14 (by decide) (fun c14 => ?_) (fun c14 => ?_)
    · have e : ¬ (v = nI 45 ∨ inB v (nI 97) (nI 122)) := fun z => z.elim c3 c14
      refine a_iconst (pc := 21) (v := nI 0) dX5_isLine_21 (by decide) ?_
      exact a_ireturn (pc := 22) dX5_isLine_22 rfl rfl (⟨by rw [bi_f e]; rfl, rfl⟩)
    · have e : v = nI 45 ∨ inB v (nI 97) (nI 122) := Or.inr c14
      refine a_iconst (pc := 17) (v := nI 1) dX5_isLine_17 (by decide) ?_
      refine a_goto (pc := 18) (tgt := 22) dX5_isLine_18 (by decide) ?_
      exact a_ireturn (pc := 22) dX5_isLine_22 rfl rfl (⟨by rw [bi_t e]; rfl, rfl⟩)
set_option maxHeartbeats 1500000 in
set_option maxRecDepth 100000 in
theorem s5_takeWord {i : Nat} {q : PS} {d n : Nat} {h : AH} {Y : Nat → Int32} (x : TXm h n Y) (r : R5 h q) (ha : q.1 ≤ n) (he : q.2.1 = 0) (hi : i < 5) : AC mX5_takeWord (d + 5) 0 0 [.ref 66, .ref (1001 + i)] h (Qb (fun b h2 => KM [66] h h2 ∧ (b ↔ wd i Y (pSp n Y q).1 (pW n Y (pSp n Y q)).1) ∧ (b → R5 h2 (pW n Y (pSp n Y q))) ∧ (¬ b → R5 h2 (pSp n Y q)))) := by
  have hn := x.1.1.1
  have hn4 := x.1.2.1
  have h8 := x.1.2.2
  refine AC.of (by decide) rfl (Nat.le_of_ble_eq_true rfl) (fun X => ?_)
  show AW X mX5_takeWord (d + 5) 0 0 0 [(0, .ref 66), (1, .ref (1001 + i))] [] h (Qb (fun b h2 => KM [66] h h2 ∧ (b ↔ wd i Y (pSp n Y q).1 (pW n Y (pSp n Y q)).1) ∧ (b → R5 h2 (pW n Y (pSp n Y q))) ∧ (¬ b → R5 h2 (pSp n Y q))))
  have hz := zL hi
  have hle := pSp_le (Y := Y) ha
  obtain ⟨a, hae⟩ : ∃ a, a = (pSp n Y q).1 := ⟨_, rfl⟩
  have hiff : wd i Y a (pW n Y (pSp n Y q)).1 ↔ ((∀ j, j < zLen.getD i 0 → a + j < n ∧ Y (a + j) = zC i j) ∧ ¬ (a + zLen.getD i 0 < n ∧ isLt (Y (a + zLen.getD i 0)))) := by rw [hae]; exact wd_iff hi hle.2
  rw [← hae] at hle
  refine a_aload_n (pc := 0) (i := 0) dX5_takeWord_0 rfl rfl ?_
  refine a_vV1 (pc := 1) (as := []) (b := 66) (ci := 5) (v := .int (bi (q.2.1 = 0))) (h' := h) dX5_takeWord_1 (lc_RX5_90 rfl) ceX5_isGood rfl (lt90 hn (shK_lt (show shK 66 = _ from rfl))) (s5_isGood x.1.1 r.2.1) rfl rfl (Nat.le_of_ble_eq_true rfl) rfl ?_
  refine b_if_ne (pc := 4) (tgt := 9) dX5_takeWord_4 (by decide) (fun c4 => ?_) (fun c4 => ?_)
  · skip
    refine a_aload_n (pc := 9) (i := 0) dX5_takeWord_9 rfl rfl ?_
    refine a_xV (pc := 10) (as := []) (b := 66) (ci := 5) dX5_takeWord_10 (lc_RX5_94 rfl) ceX5_ahead rfl (lt90 hn (shK_lt (show shK 66 = _ from rfl))) (s5_ahead (d := d + 3) x r.1 ha) rfl rfl (Nat.le_of_ble_eq_true rfl) (fun b h2 y => y.2.1.1) (fun v H y => ?_)
    obtain ⟨-, y⟩ := y
    have x1 := x.k y.k (by simp)
    have hn1 := x1.1.1.1
    have r1 : R5 H (pSp n Y q) := y.r r
    have r10 : hI H 66 4 = nI a := by rw [hae]; exact r1.1
    refine a_pop (pc := 13) dX5_takeWord_13 rfl ?_
    refine a_iconst (pc := 14) (v := nI 0) dX5_takeWord_14 (by decide) ?_
    refine a_istore_n (pc := 15) (i := 2) (ls' := [(0, .ref 66), (1, .ref (1001 + i)), (2, .int (nI 0))]) dX5_takeWord_15 rfl (by decide) rfl ?_
    have LP : ∀ (fu : Nat) (k : Nat), k ≤ zLen.getD i 0 → (∀ j, j < k → a + j < n ∧ Y (a + j) = zC i j) → zLen.getD i 0 - k < fu → AW X mX5_takeWord (d + 5) 0 0 16 [(0, .ref 66), (1, .ref (1001 + i)), (2, .int (nI k))] [] H (Qb (fun b h2 => KM [66] h h2 ∧ (b ↔ wd i Y (pSp n Y q).1 (pW n Y (pSp n Y q)).1) ∧ (b → R5 h2 (pW n Y (pSp n Y q))) ∧ (¬ b → R5 h2 (pSp n Y q)))) := by
      intro fu
      induction fu with
      | zero => intro k hk hm hz; exact absurd hz (Nat.not_lt_zero _)
      | succ fu ih =>
        intro k hk hm hz
        refine a_iload_n (pc := 16) (i := 2) dX5_takeWord_16 rfl rfl ?_
        refine a_aload_n (pc := 17) (i := 1) dX5_takeWord_17 rfl rfl ?_
        refine a_vStr (pc := 18) (i := i) (as := []) (v := .int (nI (zLen.getD i 0))) (h' := H) dX5_takeWord_18 (lc_RX5_98 rfl) ceJ0_length_8abf5 (by assumption) (sp_strlen hi) rfl rfl (Nat.le_of_ble_eq_true rfl) rfl ?_
        refine n_icmp_ge (pc := 21) (tgt := 48) dX5_takeWord_21 (by decide) (by omega) (by omega) (fun c21 => ?_) (fun c21 => ?_)
        · skip
          refine a_iload_n (pc := 48) (i := 2) dX5_takeWord_48 rfl rfl ?_
          refine a_aload_n (pc := 49) (i := 1) dX5_takeWord_49 rfl rfl ?_
          refine a_vStr (pc := 50) (i := i) (as := []) (v := .int (nI (zLen.getD i 0))) (h' := H) dX5_takeWord_50 (lc_RX5_98 rfl) ceJ0_length_8abf5 (by assumption) (sp_strlen hi) rfl rfl (Nat.le_of_ble_eq_true rfl) rfl ?_
          refine n_icmp_lt (pc := 53) (tgt := 76) dX5_takeWord_53 (by decide) (by omega) (by omega) (fun c53 => ?_) (fun c53 => ?_)
          · exact absurd c53 (by omega)
          · have ek : k = zLen.getD i 0 := by omega
            refine a_aload_n (pc := 56) (i := 0) dX5_takeWord_56 rfl rfl ?_
            refine a_aload_n (pc := 57) (i := 0) dX5_takeWord_57 rfl rfl ?_
            refine a_getI (pc := 58) (ci := 5) (k := 4) dX5_takeWord_58 (lf_RX5_73 rfl) (by decide) rfl rfl (lt90 hn1 (shK_lt (show shK 66 = _ from rfl))) ?_
            refine a_top (show (.int (hI H 66 4) : Value) = .int (nI a) from congrArg Value.int r10) ?_
            refine a_iload_n (pc := 61) (i := 2) dX5_takeWord_61 rfl rfl ?_
            refine n_iadd (pc := 62) dX5_takeWord_62 ?_
            refine a_vV1 (pc := 63) (as := [.int (nI (a + k))]) (b := 66) (ci := 5) (v := .int (bY n Y (a + k))) (h' := H) dX5_takeWord_63 (lc_RX5_76 rfl) ceX5_byteAt rfl (lt90 hn1 (shK_lt (show shK 66 = _ from rfl))) (s5_byteAt x1 (by omega)) rfl rfl (Nat.le_of_ble_eq_true rfl) rfl ?_
            refine a_bipush (pc := 66) (v := nI 97) dX5_takeWord_66 (by decide) ?_
            refine a_bipush (pc := 68) (v := nI 122) dX5_takeWord_68 (by decide) ?_
            refine a_vS1 (pc := 70) (as := [.int (bY n Y (a + k)), .int (nI 97), .int (nI 122)]) (v := .int (bi (inB (bY n Y (a + k)) (nI 97) (nI 122)))) (h' := H) dX5_takeWord_70 (lc_RX5_86 rfl) ceX5_in s5_in rfl rfl (Nat.le_of_ble_eq_true rfl) rfl ?_
            refine b_if_eq (pc := 73) (tgt := 78) dX5_takeWord_73 (by decide) (fun c73 => ?_) (fun c73 => ?_)
            · have e : wd i Y a (pW n Y (pSp n Y q)).1 := hiff.mpr ⟨fun j hj => hm j (by omega), fun z => c73 ((bY_in h8 (by omega) (by omega)).mpr (by rw [ek]; exact z))⟩
              refine a_aload_n (pc := 78) (i := 0) dX5_takeWord_78 rfl rfl ?_
              refine a_dup (pc := 79) dX5_takeWord_79 rfl ?_
              refine a_getI (pc := 80) (ci := 5) (k := 4) dX5_takeWord_80 (lf_RX5_73 rfl) (by decide) rfl rfl (lt90 hn1 (shK_lt (show shK 66 = _ from rfl))) ?_
              refine a_top (show (.int (hI H 66 4) : Value) = .int (nI a) from congrArg Value.int r10) ?_
              refine a_iload_n (pc := 83) (i := 2) dX5_takeWord_83 rfl rfl ?_
              refine n_iadd (pc := 84) dX5_takeWord_84 ?_
              refine a_putI (pc := 85) (ci := 5) (k := 4) dX5_takeWord_85 (lf_RX5_73 rfl) (by decide) (Or.inl rfl) rfl (lt90 hn1 (shK_lt (show shK 66 = _ from rfl))) rfl ?_
              refine a_iconst (pc := 88) (v := nI 1) dX5_takeWord_88 (by decide) ?_
              exact a_ireturn (pc := 89) dX5_takeWord_89 rfl rfl (⟨True, by rw [bi_t trivial]; rfl, y.k.trans ⟨Fr.refl.sI (by simp), fun j h1 _ _ _ => rd1 (by omega)⟩, ⟨fun _ => by rw [← hae]; exact e, fun _ => trivial⟩, fun _ => ⟨by rw [rd2 ⟨rfl, rfl⟩, e.1, ek], by rw [rd1 (by omega)]; exact r1.2.1, by rw [rd1 (by omega)]; exact r1.2.2⟩, fun z => absurd trivial z⟩)
            · skip
              have e : ¬ wd i Y a (pW n Y (pSp n Y q)).1 := fun z => (hiff.mp z).2 (by rw [← ek]; exact (bY_in h8 (by omega) (by omega)).mp c73)
              refine a_iconst (pc := 76) (v := nI 0) dX5_takeWord_76 (by decide) ?_
              exact a_ireturn (pc := 77) dX5_takeWord_77 rfl rfl (⟨False, by rw [bi_f id]; rfl, y.k, ⟨fun z => z.elim, fun z => e (by rw [hae]; exact z)⟩, fun z => z.elim, fun _ => r1⟩)
        · skip
          refine a_aload_n (pc := 24) (i := 0) dX5_takeWord_24 rfl rfl ?_
          refine a_aload_n (pc := 25) (i := 0) dX5_takeWord_25 rfl rfl ?_
          refine a_getI (pc := 26) (ci := 5) (k := 4) dX5_takeWord_26 (lf_RX5_73 rfl) (by decide) rfl rfl (lt90 hn1 (shK_lt (show shK 66 = _ from rfl))) ?_
          refine a_top (show (.int (hI H 66 4) : Value) = .int (nI a) from congrArg Value.int r10) ?_
          refine a_iload_n (pc := 29) (i := 2) dX5_takeWord_29 rfl rfl ?_
          refine n_iadd (pc := 30) dX5_takeWord_30 ?_
          refine a_vV1 (pc := 31) (as := [.int (nI (a + k))]) (b := 66) (ci := 5) (v := .int (bY n Y (a + k))) (h' := H) dX5_takeWord_31 (lc_RX5_76 rfl) ceX5_byteAt rfl (lt90 hn1 (shK_lt (show shK 66 = _ from rfl))) (s5_byteAt x1 (by omega)) rfl rfl (Nat.le_of_ble_eq_true rfl) rfl ?_
          refine a_aload_n (pc := 34) (i := 1) dX5_takeWord_34 rfl rfl ?_
          refine a_iload_n (pc := 35) (i := 2) dX5_takeWord_35 rfl rfl ?_
          refine a_vStr (pc := 36) (i := i) (as := [.int (nI k)]) (v := .int (zC i k)) (h' := H) dX5_takeWord_36 (lc_RX5_103 rfl) ceJ0_charAt_5068e (by assumption) (sp_charAt hi c21) rfl rfl (Nat.le_of_ble_eq_true rfl) rfl ?_
          obtain ⟨cc, hcc, ecc⟩ := zC_ok hi c21
          refine a_icmp_ne (pc := 39) (tgt := 48) dX5_takeWord_39 (by decide) (fun c39 => ?_) (fun c39 => ?_)
          · skip
            refine a_iload_n (pc := 48) (i := 2) dX5_takeWord_48 rfl rfl ?_
            refine a_aload_n (pc := 49) (i := 1) dX5_takeWord_49 rfl rfl ?_
            refine a_vStr (pc := 50) (i := i) (as := []) (v := .int (nI (zLen.getD i 0))) (h' := H) dX5_takeWord_50 (lc_RX5_98 rfl) ceJ0_length_8abf5 (by assumption) (sp_strlen hi) rfl rfl (Nat.le_of_ble_eq_true rfl) rfl ?_
            refine n_icmp_lt (pc := 53) (tgt := 76) dX5_takeWord_53 (by decide) (by omega) (by omega) (fun c53 => ?_) (fun c53 => ?_)
            · skip
              have e : ¬ wd i Y a (pW n Y (pSp n Y q)).1 := fun z => c39 (by rw [ecc]; exact (bY_eq h8 (by omega)).mpr (by rw [← ecc]; exact (hiff.mp z).1 k c21))
              refine a_iconst (pc := 76) (v := nI 0) dX5_takeWord_76 (by decide) ?_
              exact a_ireturn (pc := 77) dX5_takeWord_77 rfl rfl (⟨False, by rw [bi_f id]; rfl, y.k, ⟨fun z => z.elim, fun z => e (by rw [hae]; exact z)⟩, fun z => z.elim, fun _ => r1⟩)
            · exact absurd c53 (by omega)
          · rw [ecc] at c39
            have hbe := (bY_eq h8 (by omega)).mp c39
            refine n_iinc (pc := 42) (k := 1) (ls' := [(0, .ref 66), (1, .ref (1001 + i)), (2, .int (nI (k + 1)))]) dX5_takeWord_42 rfl (by decide) (by decide) rfl ?_
            refine a_goto (pc := 45) (tgt := 16) dX5_takeWord_45 (by decide) ?_
            exact ih (k + 1) (by omega) (fun j hj => by rcases (by omega : j < k ∨ j = k) with z | rfl; exact hm j z; exact ⟨hbe.1, by rw [ecc]; exact hbe.2⟩) (by omega)
    exact LP (zLen.getD i 0 + 1) 0 (Nat.zero_le _) (fun j hj => absurd hj (by omega)) (by omega)
  · exact absurd he c4
set_option maxHeartbeats 1500000 in
set_option maxRecDepth 100000 in
theorem s5_takeWord0 {i : Nat} {q : PS} {d n : Nat} {h : AH} {Y : Nat → Int32} (x : TXm h n Y) (r : R5 h q) (he : q.2.1 ≠ 0) : AC mX5_takeWord (d + 5) 0 0 [.ref 66, .ref (1001 + i)] h (Qf [66] (some (.int (nI 0))) h (fun h2 => h2 = h)) := by
  have hn := x.1.1.1
  have hn4 := x.1.2.1
  have h8 := x.1.2.2
  refine AC.of (by decide) rfl (Nat.le_of_ble_eq_true rfl) (fun X => ?_)
  show AW X mX5_takeWord (d + 5) 0 0 0 [(0, .ref 66), (1, .ref (1001 + i))] [] h (Qf [66] (some (.int (nI 0))) h (fun h2 => h2 = h))
  refine a_aload_n (pc := 0) (i := 0) dX5_takeWord_0 rfl rfl ?_
  refine a_vV1 (pc := 1) (as := []) (b := 66) (ci := 5) (v := .int (bi (q.2.1 = 0))) (h' := h) dX5_takeWord_1 (lc_RX5_90 rfl) ceX5_isGood rfl (lt90 hn (shK_lt (show shK 66 = _ from rfl))) (s5_isGood x.1.1 r.2.1) rfl rfl (Nat.le_of_ble_eq_true rfl) rfl ?_
  refine b_if_ne (pc := 4) (tgt := 9) dX5_takeWord_4 (by decide) (fun c4 => ?_) (fun c4 => ?_)
  · exact absurd c4 he
  · skip
    refine a_iconst (pc := 7) (v := nI 0) dX5_takeWord_7 (by decide) ?_
    exact a_ireturn (pc := 8) dX5_takeWord_8 rfl rfl (⟨rfl, Fr.refl, rfl⟩)
set_option maxHeartbeats 1500000 in
set_option maxRecDepth 100000 in
theorem s5_expect {q1 q : PS} {d n : Nat} {h : AH} {Y : Nat → Int32} (x : TXm h n Y) (r : R5 h q1) (ha : q1.1 ≤ n) (sm : Sm q1 q) : AC mX5_expect (d + 2) 0 0 [.ref 66, .int (nI 59)] h (Qu (Q5 [66] h n (pSc n Y q))) := by
  have hn := x.1.1.1
  have hn4 := x.1.2.1
  have h8 := x.1.2.2
  refine AC.of (by decide) rfl (Nat.le_of_ble_eq_true rfl) (fun X => ?_)
  show AW X mX5_expect (d + 2) 0 0 0 [(0, .ref 66), (1, .int (nI 59))] [] h (Qu (Q5 [66] h n (pSc n Y q)))
  refine a_aload_n (pc := 0) (i := 0) dX5_expect_0 rfl rfl ?_
  refine a_vV1 (pc := 1) (as := []) (b := 66) (ci := 5) (v := .int (bi (q1.2.1 = 0))) (h' := h) dX5_expect_1 (lc_RX5_90 rfl) ceX5_isGood rfl (lt90 hn (shK_lt (show shK 66 = _ from rfl))) (s5_isGood x.1.1 r.2.1) rfl rfl (Nat.le_of_ble_eq_true rfl) rfl ?_
  refine b_if_ne (pc := 4) (tgt := 8) dX5_expect_4 (by decide) (fun c4 => ?_) (fun c4 => ?_)
  · have he : q.2.1 = 0 := by rw [← sm.1]; exact c4
    have eq := sm.eq he
    subst eq
    have hle := pSp_le (Y := Y) ha
    refine a_aload_n (pc := 8) (i := 0) dX5_expect_8 rfl rfl ?_
    refine a_xV (pc := 9) (as := []) (b := 66) (ci := 5) dX5_expect_9 (lc_RX5_94 rfl) ceX5_ahead rfl (lt90 hn (shK_lt (show shK 66 = _ from rfl))) (s5_ahead (d := d) x r.1 ha) rfl rfl (Nat.le_of_ble_eq_true rfl) (fun b h2 y => y.2.1.1) (fun v H y => ?_)
    obtain ⟨ev, y⟩ := y
    have x1 := x.k y.k (by simp)
    have hn1 := x1.1.1.1
    have r1 : R5 H (pSp n Y q1) := y.r r
    have ev : v = bY n Y (pSp n Y q1).1 := ev
    refine a_iload_n (pc := 12) (i := 1) dX5_expect_12 rfl rfl ?_
    refine a_icmp_ne (pc := 13) (tgt := 29) dX5_expect_13 (by decide) (fun c13 => ?_) (fun c13 => ?_)
    · rw [ev] at c13
      have e : pSc n Y q1 = pF (pSp n Y q1) (-2) (pSp n Y q1).1 := cif_f (fun z => c13 ((bY_eq h8 (by omega)).mpr z))
      refine a_aload_n (pc := 29) (i := 0) dX5_expect_29 rfl rfl ?_
      refine a_bipush (pc := 30) (v := (-2)) dX5_expect_30 (by decide) ?_
      refine a_aload_n (pc := 32) (i := 0) dX5_expect_32 rfl rfl ?_
      refine a_getI (pc := 33) (ci := 5) (k := 4) dX5_expect_33 (lf_RX5_73 rfl) (by decide) rfl rfl (lt90 hn1 (shK_lt (show shK 66 = _ from rfl))) ?_
      refine a_top (show (.int (hI H 66 4) : Value) = .int (nI ((pSp n Y q1).1)) from congrArg Value.int r1.1) ?_
      refine a_uV (pc := 36) (as := [.int ((-2)), .int (nI ((pSp n Y q1).1))]) (b := 66) (ci := 5) dX5_expect_36 (lc_RX5_107 rfl) ceX5_report rfl (lt90 hn1 (shK_lt (show shK 66 = _ from rfl))) (s5_report (d := d + 1) x1.1.1 r1) rfl rfl (Nat.le_of_ble_eq_true rfl) (fun h2 z => z.1.1.1) (fun H2 z => ?_)
      exact a_return (pc := 39) dX5_expect_39 rfl (⟨rfl, y.k.trans z.1, _, z.2, by rw [e]; exact Sm.refl, by rw [pF_1]; exact hle.2⟩)
    · rw [ev] at c13
      have hbe := (bY_eq h8 (by omega)).mp c13
      have e : pSc n Y q1 = ((pSp n Y q1).1 + 1, q1.2) := cif_t hbe
      refine a_aload_n (pc := 16) (i := 0) dX5_expect_16 rfl rfl ?_
      refine a_dup (pc := 17) dX5_expect_17 rfl ?_
      refine a_getI (pc := 18) (ci := 5) (k := 4) dX5_expect_18 (lf_RX5_73 rfl) (by decide) rfl rfl (lt90 hn1 (shK_lt (show shK 66 = _ from rfl))) ?_
      refine a_top (show (.int (hI H 66 4) : Value) = .int (nI ((pSp n Y q1).1)) from congrArg Value.int r1.1) ?_
      refine a_iconst (pc := 21) (v := nI 1) dX5_expect_21 (by decide) ?_
      refine n_iadd (pc := 22) dX5_expect_22 ?_
      refine a_putI (pc := 23) (ci := 5) (k := 4) dX5_expect_23 (lf_RX5_73 rfl) (by decide) (Or.inl rfl) rfl (lt90 hn1 (shK_lt (show shK 66 = _ from rfl))) rfl ?_
      refine a_goto (pc := 26) (tgt := 39) dX5_expect_26 (by decide) ?_
      exact a_return (pc := 39) dX5_expect_39 rfl (⟨rfl, y.k.trans ⟨Fr.refl.sI (by simp), fun j h1 _ _ _ => rd1 (by omega)⟩, ((pSp n Y q1).1 + 1, q1.2), ⟨rd2 ⟨rfl, rfl⟩, (rd1 (by omega)).trans r1.2.1, (rd1 (by omega)).trans r1.2.2⟩, by rw [e]; exact Sm.refl, hbe.1⟩)
  · have he : q.2.1 ≠ 0 := by rw [← sm.1]; exact c4
    exact a_return (pc := 7) dX5_expect_7 rfl (⟨rfl, KM.refl, q1, r, sm.bad he (pSc_keep he), ha⟩)
set_option maxHeartbeats 1500000 in
set_option maxRecDepth 100000 in
theorem s5_number {most : Nat} {q1 q : PS} {d n : Nat} {h : AH} {Y : Nat → Int32} (x : TXm h n Y) (r : R5 h q1) (ha : q1.1 ≤ n) (sm : Sm q1 q) (hmost : most < 100) : AC mX5_number (d + 2) 0 0 [.ref 66, .int (nI 1), .int (nI most)] h (Qx (fun v h2 => Q5 [66] h n (pN n Y most q) h2 ∧ (∃ w, w ≤ most ∧ v = nI w) ∧ ((pN n Y most q).2.1 = 0 → v = nI (pNn n Y q).2))) := by
  have hn := x.1.1.1
  have hn4 := x.1.2.1
  have h8 := x.1.2.2
  refine AC.of (by decide) rfl (Nat.le_of_ble_eq_true rfl) (fun X => ?_)
  show AW X mX5_number (d + 2) 0 0 0 [(0, .ref 66), (1, .int (nI 1)), (2, .int (nI most))] [] h (Qx (fun v h2 => Q5 [66] h n (pN n Y most q) h2 ∧ (∃ w, w ≤ most ∧ v = nI w) ∧ ((pN n Y most q).2.1 = 0 → v = nI (pNn n Y q).2)))
  refine a_aload_n (pc := 0) (i := 0) dX5_number_0 rfl rfl ?_
  refine a_vV1 (pc := 1) (as := []) (b := 66) (ci := 5) (v := .int (bi (q1.2.1 = 0))) (h' := h) dX5_number_1 (lc_RX5_90 rfl) ceX5_isGood rfl (lt90 hn (shK_lt (show shK 66 = _ from rfl))) (s5_isGood x.1.1 r.2.1) rfl rfl (Nat.le_of_ble_eq_true rfl) rfl ?_
  refine b_if_ne (pc := 4) (tgt := 9) dX5_number_4 (by decide) (fun c4 => ?_) (fun c4 => ?_)
  · have he : q.2.1 = 0 := by rw [← sm.1]; exact c4
    have eq := sm.eq he
    subst eq
    have hle := pSp_le (Y := Y) ha
    refine a_aload_n (pc := 9) (i := 0) dX5_number_9 rfl rfl ?_
    refine a_xV (pc := 10) (as := []) (b := 66) (ci := 5) dX5_number_10 (lc_RX5_94 rfl) ceX5_ahead rfl (lt90 hn (shK_lt (show shK 66 = _ from rfl))) (s5_ahead (d := d) x r.1 ha) rfl rfl (Nat.le_of_ble_eq_true rfl) (fun b h2 y => y.2.1.1) (fun v H y => ?_)
    obtain ⟨ev, y⟩ := y
    have x1 := x.k y.k (by simp)
    have hn1 := x1.1.1.1
    have r1 : R5 H (pSp n Y q1) := y.r r
    have ev : v = bY n Y (pSp n Y q1).1 := ev
    obtain ⟨a, hae⟩ : ∃ a, a = (pSp n Y q1).1 := ⟨_, rfl⟩
    have hN : pNn n Y q1 = numF Y (n - a) a 0 := by rw [hae]; rfl
    have e0 : pN n Y most q1 = cif ((pNn n Y q1).1 = a) (pF ((pNn n Y q1).1, q1.2) (-2) a) (cif ((pNn n Y q1).2 < 1 ∨ most < (pNn n Y q1).2) (pF ((pNn n Y q1).1, q1.2) (-3) a) ((pNn n Y q1).1, q1.2)) := by rw [hae]; rfl
    rw [← hae] at hle ev
    have r10 : hI H 66 4 = nI a := by rw [hae]; exact r1.1
    refine a_vS1 (pc := 13) (as := [.int v]) (v := .int (bi (inB v (nI 48) (nI 57)))) (h' := H) dX5_number_13 (lc_RX5_111 rfl) ceX5_isDigit s5_isDigit rfl rfl (Nat.le_of_ble_eq_true rfl) rfl ?_
    refine b_if_ne (pc := 16) (tgt := 31) dX5_number_16 (by decide) (fun c16 => ?_) (fun c16 => ?_)
    · rw [ev] at c16
      have hd := (bY_in h8 (by omega) (by omega)).mp c16
      obtain ⟨m0, hm0⟩ : ∃ m0, n - a = m0 + 1 := ⟨n - a - 1, by omega⟩
      refine a_aload_n (pc := 31) (i := 0) dX5_number_31 rfl rfl ?_
      refine a_aload_n (pc := 32) (i := 0) dX5_number_32 rfl rfl ?_
      refine a_getI (pc := 33) (ci := 5) (k := 4) dX5_number_33 (lf_RX5_73 rfl) (by decide) rfl rfl (lt90 hn1 (shK_lt (show shK 66 = _ from rfl))) ?_
      refine a_top (show (.int (hI H 66 4) : Value) = .int (nI a) from congrArg Value.int r10) ?_
      refine a_putI (pc := 36) (ci := 5) (k := 13) dX5_number_36 (lf_RX5_115 rfl) (by decide) (Or.inl rfl) rfl (lt90 hn1 (shK_lt (show shK 66 = _ from rfl))) rfl ?_
      refine a_iconst (pc := 39) (v := nI 0) dX5_number_39 (by decide) ?_
      refine a_istore_n (pc := 40) (i := 3) (ls' := [(0, .ref 66), (1, .int (nI 1)), (2, .int (nI most)), (3, .int (nI 0))]) dX5_number_40 rfl (by decide) rfl ?_
      obtain ⟨H1, hH1⟩ : ∃ Hx, Hx = sI H 66 13 (nI a) := ⟨_, rfl⟩
      have k1 : KM [66] H H1 := by rw [hH1]; exact ⟨Fr.refl.sI (by simp), fun j _ _ _ h1 => rd1 (by omega)⟩
      have s1 : hI H1 66 13 = nI a := by rw [hH1]; exact rd2 ⟨rfl, rfl⟩
      have rr1 : R5 H1 (a, q1.2) := by rw [hH1]; exact ⟨by rw [rd1 (by omega)]; exact r10, by rw [rd1 (by omega)]; exact r1.2.1, by rw [rd1 (by omega)]; exact r1.2.2⟩
      refine a_heap (h' := H1) hH1.symm ?_
      have LP : ∀ (fu : Nat) (b w : Nat) (H2 : AH), a ≤ b ∧ b ≤ n → w ≤ 100000000 → KM [66] H H2 → R5 H2 (b, q1.2) → hI H2 66 13 = nI a → numF Y (n - b) b (min 1000 w) = pNn n Y q1 → (b = a → w = 0) → n - b < fu → AW X mX5_number (d + 2) 0 0 41 [(0, .ref 66), (1, .int (nI 1)), (2, .int (nI most)), (3, .int (nI w))] [] H2 (Qx (fun v h2 => Q5 [66] h n (pN n Y most q1) h2 ∧ (∃ w, w ≤ most ∧ v = nI w) ∧ ((pN n Y most q1).2.1 = 0 → v = nI (pNn n Y q1).2))) := by
        intro fu
        induction fu with
        | zero => intro b w H2 hb hw hk2 rr hs1 hs hba hz; exact absurd hz (Nat.not_lt_zero _)
        | succ fu ih =>
          intro b w H2 hb hw hk2 rr hs1 hs hba hz
          have xx := x1.k hk2 (by simp)
          have hn2 := xx.1.1.1
          refine a_aload_n (pc := 41) (i := 0) dX5_number_41 rfl rfl ?_
          refine a_aload_n (pc := 42) (i := 0) dX5_number_42 rfl rfl ?_
          refine a_getI (pc := 43) (ci := 5) (k := 4) dX5_number_43 (lf_RX5_73 rfl) (by decide) rfl rfl (lt90 hn2 (shK_lt (show shK 66 = _ from rfl))) ?_
          refine a_top (show (.int (hI H2 66 4) : Value) = .int (nI b) from congrArg Value.int rr.1) ?_
          refine a_vV1 (pc := 46) (as := [.int (nI b)]) (b := 66) (ci := 5) (v := .int (bY n Y b)) (h' := H2) dX5_number_46 (lc_RX5_76 rfl) ceX5_byteAt rfl (lt90 hn2 (shK_lt (show shK 66 = _ from rfl))) (s5_byteAt xx (by omega)) rfl rfl (Nat.le_of_ble_eq_true rfl) rfl ?_
          refine a_vS1 (pc := 49) (as := [.int (bY n Y b)]) (v := .int (bi (inB (bY n Y b) (nI 48) (nI 57)))) (h' := H2) dX5_number_49 (lc_RX5_111 rfl) ceX5_isDigit s5_isDigit rfl rfl (Nat.le_of_ble_eq_true rfl) rfl ?_
          refine b_if_eq (pc := 52) (tgt := 90) dX5_number_52 (by decide) (fun c52 => ?_) (fun c52 => ?_)
          · have hnd : ¬ (b < n ∧ inB (Y b) (nI 48) (nI 57)) := fun z => c52 ((bY_in h8 (by omega) (by omega)).mpr z)
            have ef : pNn n Y q1 = (b, min 1000 w) := by
              rw [← hs]
              rcases (if z : b = n then Or.inl z else Or.inr ⟨n - b - 1, by omega⟩ : b = n ∨ ∃ v, n - b = v + 1) with z | ⟨v, z⟩
              · rw [show n - b = 0 by omega]; rfl
              · rw [z]; exact cif_f (fun y => hnd ⟨by omega, y⟩)
            have hba2 : b ≠ a := fun z => hnd (by rw [z]; exact hd)
            rw [ef] at e0
            have e0 : pN n Y most q1 = cif (b = a) (pF (b, q1.2) (-2) a) (cif (min 1000 w < 1 ∨ most < min 1000 w) (pF (b, q1.2) (-3) a) (b, q1.2)) := e0
            have e1 := e0.trans (cif_f hba2)
            refine a_iload_n (pc := 90) (i := 3) dX5_number_90 rfl rfl ?_
            refine a_iload_n (pc := 91) (i := 1) dX5_number_91 rfl rfl ?_
            refine a_iload_n (pc := 92) (i := 2) dX5_number_92 rfl rfl ?_
            refine a_vS1 (pc := 93) (as := [.int (nI w), .int (nI 1), .int (nI most)]) (v := .int (bi (inB (nI w) (nI 1) (nI most)))) (h' := H2) dX5_number_93 (lc_RX5_86 rfl) ceX5_in s5_in rfl rfl (Nat.le_of_ble_eq_true rfl) rfl ?_
            refine b_if_ne (pc := 96) (tgt := 109) dX5_number_96 (by decide) (fun c96 => ?_) (fun c96 => ?_)
            · have hin : 1 ≤ w ∧ w ≤ most := by obtain ⟨c, hc1, hc2⟩ := (inB_n (by omega) (by omega)).mp c96; have := (nI_eq (by omega) (by omega)).mp hc2; omega
              have e2 : pN n Y most q1 = (b, q1.2) := e1.trans (cif_f (by omega))
              refine a_aload_n (pc := 109) (i := 0) dX5_number_109 rfl rfl ?_
              refine a_vV1 (pc := 110) (as := []) (b := 66) (ci := 5) (v := .int (bi (q1.2.1 = 0))) (h' := H2) dX5_number_110 (lc_RX5_90 rfl) ceX5_isGood rfl (lt90 hn2 (shK_lt (show shK 66 = _ from rfl))) (s5_isGood xx.1.1 rr.2.1) rfl rfl (Nat.le_of_ble_eq_true rfl) rfl ?_
              refine b_if_eq (pc := 113) (tgt := 120) dX5_number_113 (by decide) (fun c113 => ?_) (fun c113 => ?_)
              · exact absurd he c113
              · skip
                refine a_iload_n (pc := 116) (i := 3) dX5_number_116 rfl rfl ?_
                refine a_goto (pc := 117) (tgt := 121) dX5_number_117 (by decide) ?_
                exact a_ireturn (pc := 121) dX5_number_121 rfl rfl (⟨_, rfl, ⟨y.k.trans hk2, _, rr, by rw [e2]; exact Sm.refl, hb.2⟩, ⟨w, hin.2, rfl⟩, fun _ => by rw [ef, show min 1000 w = w by omega]⟩)
            · have hin : ¬ (1 ≤ w ∧ w ≤ most) := fun z => c96 ((inB_n (by omega) (by omega)).mpr ⟨w, z, rfl⟩)
              have e2 : pN n Y most q1 = pF (b, q1.2) (-3) a := e1.trans (cif_t (by omega))
              refine a_aload_n (pc := 99) (i := 0) dX5_number_99 rfl rfl ?_
              refine a_bipush (pc := 100) (v := (-3)) dX5_number_100 (by decide) ?_
              refine a_aload_n (pc := 102) (i := 0) dX5_number_102 rfl rfl ?_
              refine a_getI (pc := 103) (ci := 5) (k := 13) dX5_number_103 (lf_RX5_115 rfl) (by decide) rfl rfl (lt90 hn2 (shK_lt (show shK 66 = _ from rfl))) ?_
              refine a_top (show (.int (hI H2 66 13) : Value) = .int (nI a) from congrArg Value.int hs1) ?_
              refine a_uV (pc := 106) (as := [.int ((-3)), .int (nI a)]) (b := 66) (ci := 5) dX5_number_106 (lc_RX5_107 rfl) ceX5_report rfl (lt90 hn2 (shK_lt (show shK 66 = _ from rfl))) (s5_report (d := d + 1) xx.1.1 rr) rfl rfl (Nat.le_of_ble_eq_true rfl) (fun h2 z => z.1.1.1) (fun H3 z => ?_)
              have x3 := xx.k z.1 (by simp)
              have hn3 := x3.1.1.1
              have hpf : (pF (b, q1.2) (-3) a).2.1 ≠ 0 := pF_ne (by decide)
              refine a_aload_n (pc := 109) (i := 0) dX5_number_109 rfl rfl ?_
              refine a_vV1 (pc := 110) (as := []) (b := 66) (ci := 5) (v := .int (bi ((pF (b, q1.2) (-3) a).2.1 = 0))) (h' := H3) dX5_number_110 (lc_RX5_90 rfl) ceX5_isGood rfl (lt90 hn3 (shK_lt (show shK 66 = _ from rfl))) (s5_isGood x3.1.1 z.2.2.1) rfl rfl (Nat.le_of_ble_eq_true rfl) rfl ?_
              refine b_if_eq (pc := 113) (tgt := 120) dX5_number_113 (by decide) (fun c113 => ?_) (fun c113 => ?_)
              · skip
                refine a_iconst (pc := 120) (v := nI 0) dX5_number_120 (by decide) ?_
                exact a_ireturn (pc := 121) dX5_number_121 rfl rfl (⟨_, rfl, ⟨(y.k.trans hk2).trans z.1, _, z.2, by rw [e2]; exact Sm.refl, by rw [pF_1]; exact hb.2⟩, ⟨0, Nat.zero_le _, rfl⟩, fun z0 => absurd (by rw [e2] at z0; exact z0) hpf⟩)
              · exact absurd c113 hpf
          · obtain ⟨hbn, hdg⟩ := (bY_in h8 (by omega) (by omega)).mp c52
            obtain ⟨c, hc1, hc2⟩ := (inB_n (by omega) (by omega)).mp hdg
            have hbY : bY n Y b = nI c := (bY_eq h8 (by omega)).mpr ⟨hbn, hc2⟩
            obtain ⟨m1, hm1⟩ : ∃ m1, n - b = m1 + 1 := ⟨n - b - 1, by omega⟩
            have hs2 : numF Y (n - (b + 1)) (b + 1) (min 1000 (min 1000 w * 10 + c - 48)) = pNn n Y q1 := by
              rw [← hs, hm1, show n - (b + 1) = m1 by omega]
              have z := (cif_t (a := numF Y m1 (b + 1) (min 1000 (min 1000 w * 10 + i2n (Y b) - 48))) (b := (b, min 1000 w)) (P := ¬ Y b < nI 48 ∧ ¬ nI 57 < Y b) hdg).symm
              rw [hc2, i2n_nI (by omega)] at z
              rw [hc2] at hdg
              show _ = cif (¬ Y b < nI 48 ∧ ¬ nI 57 < Y b) (numF Y m1 (b + 1) (min 1000 (min 1000 w * 10 + i2n (Y b) - 48))) (b, min 1000 w)
              rw [hc2, i2n_nI (by omega)]
              exact z
            refine a_ldc (pc := 55) (v := nI 100000000) dX5_number_55 (li_RX5_118 rfl) ?_
            refine a_bipush (pc := 57) (v := nI 10) dX5_number_57 (by decide) ?_
            refine a_iload_n (pc := 59) (i := 3) dX5_number_59 rfl rfl ?_
            refine n_imul (pc := 60) dX5_number_60 ?_
            refine a_aload_n (pc := 61) (i := 0) dX5_number_61 rfl rfl ?_
            refine a_aload_n (pc := 62) (i := 0) dX5_number_62 rfl rfl ?_
            refine a_getI (pc := 63) (ci := 5) (k := 4) dX5_number_63 (lf_RX5_73 rfl) (by decide) rfl rfl (lt90 hn2 (shK_lt (show shK 66 = _ from rfl))) ?_
            refine a_top (show (.int (hI H2 66 4) : Value) = .int (nI b) from congrArg Value.int rr.1) ?_
            refine a_vV1 (pc := 66) (as := [.int (nI b)]) (b := 66) (ci := 5) (v := .int (bY n Y b)) (h' := H2) dX5_number_66 (lc_RX5_76 rfl) ceX5_byteAt rfl (lt90 hn2 (shK_lt (show shK 66 = _ from rfl))) (s5_byteAt xx (by omega)) rfl rfl (Nat.le_of_ble_eq_true rfl) rfl ?_
            refine a_top (show (.int (bY n Y b) : Value) = .int (nI c) from congrArg Value.int hbY) ?_
            refine n_iadd (pc := 69) dX5_number_69 ?_
            refine a_bipush (pc := 70) (v := nI 48) dX5_number_70 (by decide) ?_
            refine n_isub (pc := 72) dX5_number_72 (by omega) ?_
            refine a_vS1 (pc := 73) (as := [.int (nI 100000000), .int (nI (((10 * w) + c) - 48))]) (v := .int (nI (min 100000000 (10 * w + c - 48)))) (h' := H2) dX5_number_73 (lc_RX5_119 rfl) ceX5_min (s5_min (by omega) (by omega)) rfl rfl (Nat.le_of_ble_eq_true rfl) rfl ?_
            refine a_istore_n (pc := 76) (i := 3) (ls' := [(0, .ref 66), (1, .int (nI 1)), (2, .int (nI most)), (3, .int (nI (min 100000000 (10 * w + c - 48))))]) dX5_number_76 rfl (by decide) rfl ?_
            refine a_aload_n (pc := 77) (i := 0) dX5_number_77 rfl rfl ?_
            refine a_dup (pc := 78) dX5_number_78 rfl ?_
            refine a_getI (pc := 79) (ci := 5) (k := 4) dX5_number_79 (lf_RX5_73 rfl) (by decide) rfl rfl (lt90 hn2 (shK_lt (show shK 66 = _ from rfl))) ?_
            refine a_top (show (.int (hI H2 66 4) : Value) = .int (nI b) from congrArg Value.int rr.1) ?_
            refine a_iconst (pc := 82) (v := nI 1) dX5_number_82 (by decide) ?_
            refine n_iadd (pc := 83) dX5_number_83 ?_
            refine a_putI (pc := 84) (ci := 5) (k := 4) dX5_number_84 (lf_RX5_73 rfl) (by decide) (Or.inl rfl) rfl (lt90 hn2 (shK_lt (show shK 66 = _ from rfl))) rfl ?_
            refine a_goto (pc := 87) (tgt := 41) dX5_number_87 (by decide) ?_
            exact ih (b + 1) (min 100000000 (10 * w + c - 48)) _ (by omega) (by omega) (hk2.trans ⟨Fr.refl.sI (by simp), fun j h1 _ _ _ => rd1 (by omega)⟩) ⟨rd2 ⟨rfl, rfl⟩, (rd1 (by omega)).trans rr.2.1, (rd1 (by omega)).trans rr.2.2⟩ ((rd1 (by omega)).trans hs1) (by rw [show min 1000 (min 100000000 (10 * w + c - 48)) = min 1000 (min 1000 w * 10 + c - 48) by omega]; exact hs2) (by omega) (by omega)
      exact LP (n + 1) a 0 H1 (by omega) (by omega) k1 rr1 s1 hN.symm (fun _ => rfl) (by omega)
    · rw [ev] at c16
      have hnd : ¬ (a < n ∧ inB (Y a) (nI 48) (nI 57)) := fun z => c16 ((bY_in h8 (by omega) (by omega)).mpr z)
      have ef : pNn n Y q1 = (a, 0) := by
        rw [hN]
        rcases (if z : a = n then Or.inl z else Or.inr ⟨n - a - 1, by omega⟩ : a = n ∨ ∃ v, n - a = v + 1) with z | ⟨v, z⟩
        · rw [show n - a = 0 by omega]; rfl
        · rw [z]; exact cif_f (fun y => hnd ⟨by omega, y⟩)
      have e2 : pN n Y most q1 = pF (a, q1.2) (-2) a := by rw [e0, ef]; exact cif_t rfl
      have rr1 : R5 H (a, q1.2) := ⟨r10, r1.2⟩
      have hpf : (pF (a, q1.2) (-2) a).2.1 ≠ 0 := pF_ne (by decide)
      refine a_aload_n (pc := 19) (i := 0) dX5_number_19 rfl rfl ?_
      refine a_bipush (pc := 20) (v := (-2)) dX5_number_20 (by decide) ?_
      refine a_aload_n (pc := 22) (i := 0) dX5_number_22 rfl rfl ?_
      refine a_getI (pc := 23) (ci := 5) (k := 4) dX5_number_23 (lf_RX5_73 rfl) (by decide) rfl rfl (lt90 hn1 (shK_lt (show shK 66 = _ from rfl))) ?_
      refine a_top (show (.int (hI H 66 4) : Value) = .int (nI a) from congrArg Value.int r10) ?_
      refine a_uV (pc := 26) (as := [.int ((-2)), .int (nI a)]) (b := 66) (ci := 5) dX5_number_26 (lc_RX5_107 rfl) ceX5_report rfl (lt90 hn1 (shK_lt (show shK 66 = _ from rfl))) (s5_report (d := d + 1) x1.1.1 rr1) rfl rfl (Nat.le_of_ble_eq_true rfl) (fun h2 z => z.1.1.1) (fun H3 z => ?_)
      refine a_iconst (pc := 29) (v := nI 0) dX5_number_29 (by decide) ?_
      exact a_ireturn (pc := 30) dX5_number_30 rfl rfl (⟨_, rfl, ⟨y.k.trans z.1, _, z.2, by rw [e2]; exact Sm.refl, by rw [pF_1]; exact hle.2⟩, ⟨0, Nat.zero_le _, rfl⟩, fun z0 => absurd (by rw [e2] at z0; exact z0) hpf⟩)
  · have he : q.2.1 ≠ 0 := by rw [← sm.1]; exact c4
    refine a_iconst (pc := 7) (v := nI 0) dX5_number_7 (by decide) ?_
    exact a_ireturn (pc := 8) dX5_number_8 rfl rfl (⟨_, rfl, ⟨KM.refl, q1, r, sm.bad he (pN_keep he), ha⟩, ⟨0, Nat.zero_le _, rfl⟩, fun z0 => absurd (by rw [pN_keep he] at z0; exact z0) he⟩)
