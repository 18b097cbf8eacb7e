/-! the class LetterCutsModel: counts; its state; asks without a plan -/
theorem c_side {s : SH} (g : GS s) {P : Nat → Prop} (hP : ∀ q, P q → qhas s q) {x : Nat} (hx : x < 2) : cnt (fun q => P (48 * x + q)) 48 = cnt (fun p => P (mq s x p)) (sCells s) := by
  have e : sCells s = sH s * sW s := Nat.mul_comm _ _
  rw [e]
  have gw := g.1
  have gh := g.2.1
  refine cnt_sub (P := fun q => P (48 * x + q)) (P' := fun p => P (mq s x p)) (w := sW s) (W := 8) (h := sH s) (H := 6) gw.2 gh.2 (fun r c hr hc => ?_) (fun r c hr hc ho hp => ?_)
  · have e2 : mq s x (r * sW s + c) = 48 * x + (r * 8 + c) := by
      unfold mq
      rw [show (r * sW s + c) / sW s = r by rw [Nat.mul_comm, Nat.mul_add_div (by omega), Nat.div_eq_of_lt hc]; rfl, show (r * sW s + c) % sW s = c by rw [Nat.mul_comm, Nat.mul_add_mod, Nat.mod_eq_of_lt hc]]
      omega
    show P (48 * x + (r * 8 + c)) ↔ P (mq s x (r * sW s + c))
    rw [e2]
  · have h := hP _ hp
    have h1 : (48 * x + (r * 8 + c)) % 48 / 8 < sH s := h.1
    have h2 : (48 * x + (r * 8 + c)) % 8 < sW s := h.2
    omega
theorem c_two {s : SH} (g : GS s) {P : Nat → Prop} (hP : ∀ q, P q → qhas s q) : cnt P 96 = cnt (fun p => P (mq s 0 p)) (sCells s) + cnt (fun p => P (mq s 1 p)) (sCells s) := by
  have h0 := c_side g hP (x := 0) (by omega)
  have h1 := c_side g hP (x := 1) (by omega)
  have e : cnt P 96 = cnt P 48 + cnt (fun i => P (48 + i)) 48 := cnt_add P 48 48
  rw [e, ← h0, ← h1]
  rw [show (fun q => P (48 * 0 + q)) = P from funext fun q => by rw [show 48 * 0 + q = q by omega]]
theorem c_cell {s : SH} (g : GS s) {P : Nat → Prop} (hP : ∀ b, P b → b / 8 < sH s ∧ b % 8 < sW s) : cnt P 64 = cnt (fun p => P (mb s p)) (sCells s) := by
  have gh := g.2.1
  have e1 : cnt P 64 = cnt P 48 := cnt_cut (by omega) (fun i h1 h2 hp => by have := (hP i hp).1; omega)
  have e2 := c_side g (P := fun q => q < 48 ∧ P q) (fun q hq => ⟨by have := (hP q hq.2).1; omega, (hP q hq.2).2⟩) (x := 0) (by omega)
  rw [e1, show cnt P 48 = cnt (fun q => (48 * 0 + q) < 48 ∧ P (48 * 0 + q)) 48 from cnt_congr _ fun i hi => by rw [show 48 * 0 + i = i by omega]; exact ⟨fun z => ⟨hi, z⟩, fun z => z.2⟩]
  rw [e2]
  refine cnt_congr _ fun p hp => ?_
  have h3 := (mq_ok g (x := 0) (by omega) hp)
  have e3 : mq s 0 p = mb s p := by unfold mq mb; omega
  rw [e3]
  rw [e3] at h3
  exact ⟨fun z => z.2, fun z => ⟨by omega, z⟩⟩
theorem mbh2 {s : SH} (g : GS s) {p : Nat} (hp : p < sCells s) : mbh s (mbh s p) = p := by
  obtain ⟨b0, b1, b2⟩ := mbh_ok g hp
  have h5 := (cell_q g hp).2.2.2.2
  have h4 := (cell_q g hp).2.2.2.1
  have gw := g.1
  show mbh s p / sW s * sW s + sW s - 1 - mbh s p % sW s = p
  rw [b1, b2]
  omega
theorem c_perm {s : SH} (g : GS s) {P : Nat → Prop} : cnt (fun p => P (mbh s p)) (sCells s) = cnt P (sCells s) := by
  have inj : ∀ i j, i < sCells s → j < sCells s → mbh s i = mbh s j → i = j := fun i j hi hj e => by rw [← mbh2 g hi, ← mbh2 g hj, e]
  refine Nat.le_antisymm (cnt_map (f := mbh s) (fun i hi hp => ⟨(mbh_ok g hi).1, hp⟩) (fun i j hi hj _ _ e => inj i j hi hj e)) (cnt_map (f := mbh s) (fun i hi hp => ⟨(mbh_ok g hi).1, ?_⟩) (fun i j hi hj _ _ e => inj i j hi hj e))
  show P (mbh s (mbh s i))
  rw [mbh2 g hi]
  exact hp
theorem there_step {P : Nat → Prop} {c : Nat} : nI (c - cnt P c) + (nI 1 - bi (P c)) = nI (c + 1 - cnt P (c + 1)) := by
  have h := cnt_le P c
  rcases Classical.em (P c) with z | z
  · rw [cnt_yes z, bi_t z, show (nI 1 - 1 : Int32) = nI 0 from rfl, nI_add]
    congr 1
    omega
  · rw [cnt_no z, bi_f z, show (nI 1 - 0 : Int32) = nI 1 from rfl, nI_add]
    congr 1
    omega
/-- the cells below 66 stand as they did -/
def Fm (h h2 : AH) : Prop := hN h2 = hN h ∧ hR h2 = hR h ∧ ∀ a, a < 66 ∨ a = 89 → hI h2 a = hI h a ∧ hL h2 a = hL h a
theorem Fm.refl {h : AH} : Fm h h := ⟨rfl, rfl, fun _ _ => ⟨rfl, rfl⟩⟩
theorem Fm.trans {h h2 h3 : AH} (f : Fm h h2) (k : Fm h2 h3) : Fm h h3 := ⟨k.1.trans f.1, k.2.1.trans f.2.1, fun a ha => ⟨(k.2.2 a ha).1.trans (f.2.2 a ha).1, (k.2.2 a ha).2.trans (f.2.2 a ha).2⟩⟩
theorem Fr.fm' {S : List Nat} {h h2 : AH} (f : Fr S h h2) (hs : ∀ a, a ∈ S → 66 ≤ a ∧ a ≠ 89) : Fm h h2 := ⟨f.1, f.2.1, fun a ha => f.2.2 a (fun z => by have := hs a z; omega)⟩
theorem Fr.fm {h h2 : AH} (f : Fr [66] h h2) : Fm h h2 := f.fm' (by simp)
/-- the object 66 holds t -/
def MM (h : AH) (t : ST) : Prop := CB h ∧ GT t ∧ DM h 68 (tC t) ∧ (hI h 66 2 = nI (tB t) ∧ ∀ j, j < tB t → hI h 67 j = tY t j &&& 255) ∧ hI h 66 7 = tE t ∧ hI h 66 12 = nI (tN t) ∧ ∀ i, i < tN t → DM h (72 + i) (tP t i)
theorem MM.scr {S : List Nat} {h h2 : AH} {t : ST} (m : MM h t) (f : Fr S h h2) (hs : ∀ a, a ∈ S → a = 66 ∨ a = 69 ∨ a = 70 ∨ 80 ≤ a) (e2 : hI h2 66 2 = hI h 66 2) (e7 : hI h2 66 7 = hI h 66 7) (e12 : hI h2 66 12 = hI h 66 12) : MM h2 t := by
  obtain ⟨c, g, r, ⟨b1, b2⟩, a7, a12, p⟩ := m
  have hg := g.2.2.2.1
  refine ⟨c.fr f, g, r.fr f (fun z => by have := hs _ z; omega), ⟨e2.trans b1, fun j hj => by rw [(f.2.2 67 (fun z => by have := hs _ z; omega)).1]; exact b2 j hj⟩, e7.trans a7, e12.trans a12, fun i hi => (p i hi).fr f (fun z => by have := hs _ z; omega)⟩
def exI : List String → String → Nat
  | [], _ => 0
  | E :: r, F => if F = E then 0 else exI r F + 1
def kn (Es : List String) : Res → Nat
  | .inl _ => 0
  | .inr E => exI Es E + 1
/-- ends as v says, in the state t -/
def Qm (Es : List String) (v : Res) (t : ST) (h : AH) : Res → AH → Prop := fun r h2 => ∃ u : Int32, r = .inl (some (.int u)) ∧ (∀ w, v = .inl (some (.int w)) → u = w) ∧ hI h2 66 0 = nI (kn Es v) ∧ MM h2 t ∧ Fm h h2
/-- ends with v, in the state t -/
def Qn (v : Value) (t : ST) (h : AH) : Res → AH → Prop := fun r h2 => r = .inl (some v) ∧ MM h2 t ∧ Fm h h2
set_option maxHeartbeats 1500000 in
set_option maxRecDepth 100000 in
theorem s5_cellsThere {d : Nat} {h : AH} {s : SH} (c : CB h) (g : GS s) (r : DM h 68 s) : AC mX5_cellsThere (d + 1) 0 0 [.ref 66] h (Qe (some (.int (nI (nThere s)))) h) := by
  have hn := c.1
  have gw := g.1
  have gh := g.2.1
  have gl := g.2.2.2.2.2.1
  have gc := cells48 g
  refine AC.of (by decide) rfl (Nat.le_of_ble_eq_true rfl) (fun X => ?_)
  show AW X mX5_cellsThere (d + 1) 0 0 0 [(0, .ref 66)] [] h (Qe (some (.int (nI (nThere s)))) h)
  have LP : ∀ (fu : Nat) (k : Nat), k ≤ sCells s → sCells s - k < fu → AW X mX5_cellsThere (d + 1) 0 0 4 [(0, .ref 66), (1, .int (nI (k - cnt (sGn s) k))), (2, .int (nI k))] [] h (Qe (some (.int (nI (nThere s)))) h) := by
    intro fu
    induction fu with
    | zero => intro k hk hz; exact absurd hz (Nat.not_lt_zero _)
    | succ fu ih =>
      intro k hk hz
      refine a_iload_n (pc := 4) (i := 2) dX5_cellsThere_4 rfl rfl ?_
      refine a_aload_n (pc := 5) (i := 0) dX5_cellsThere_5 rfl rfl ?_
      refine a_vV1 (pc := 6) (as := []) (b := 66) (ci := 5) (v := .int (nI (sCells s))) (h' := h) dX5_cellsThere_6 (lc_RX5_172 rfl) ceX5_cells rfl (lt90 hn (shK_lt (show shK 66 = _ from rfl))) (s5_cells c g r) rfl rfl (Nat.le_of_ble_eq_true rfl) rfl ?_
      refine n_icmp_ge (pc := 9) (tgt := 32) dX5_cellsThere_9 (by decide) (by omega) (by omega) (fun c9 => ?_) (fun c9 => ?_)
      · have ek : k = sCells s := by omega
        subst ek
        refine a_iload_n (pc := 32) (i := 1) dX5_cellsThere_32 rfl rfl ?_
        exact a_ireturn (pc := 33) dX5_cellsThere_33 rfl rfl (⟨rfl, rfl⟩)
      · skip
        refine a_iload_n (pc := 12) (i := 1) dX5_cellsThere_12 rfl rfl ?_
        refine a_iconst (pc := 13) (v := nI 1) dX5_cellsThere_13 (by decide) ?_
        refine a_aload_n (pc := 14) (i := 0) dX5_cellsThere_14 rfl rfl ?_
        refine a_getR (pc := 15) (ci := 5) (k := 8) (b := 68) dX5_cellsThere_15 (lf_RX5_17 rfl) (by decide) rfl rfl (lt90 hn (shK_lt (show shK 66 = _ from rfl))) c.2.2.2.2.2.2.2.2.1.2.1 ?_
        refine a_bipush (pc := 18) (v := nI 114) dX5_cellsThere_18 (by decide) ?_
        refine a_iload_n (pc := 20) (i := 2) dX5_cellsThere_20 rfl rfl ?_
        refine n_iadd (pc := 21) dX5_cellsThere_21 ?_
        refine a_iald (pc := 22) (j := (114 + k)) dX5_cellsThere_22 rfl (lt90 hn (shK_lt (show shK 68 = _ from rfl))) rfl (by omega) ?_
        refine a_top (show (.int (hI h 68 (114 + k)) : Value) = .int (bi (sGn s k)) from congrArg Value.int (r.2.2.2.1 k c9)) ?_
        refine a_isub (pc := 23) dX5_cellsThere_23 ?_
        refine a_iadd (pc := 24) dX5_cellsThere_24 ?_
        refine a_top (show (.int ((nI (k - cnt (sGn s) k)) + ((nI 1) - (bi (sGn s k)))) : Value) = .int (nI (k + 1 - cnt (sGn s) (k + 1))) from congrArg Value.int there_step) ?_
        refine a_istore_n (pc := 25) (i := 1) (ls' := [(0, .ref 66), (1, .int (nI (k + 1 - cnt (sGn s) (k + 1)))), (2, .int (nI k))]) dX5_cellsThere_25 rfl (by decide) rfl ?_
        refine n_iinc (pc := 26) (k := 1) (ls' := [(0, .ref 66), (1, .int (nI (k + 1 - cnt (sGn s) (k + 1)))), (2, .int (nI (k + 1)))]) dX5_cellsThere_26 rfl (by decide) (by decide) rfl ?_
        refine a_goto (pc := 29) (tgt := 4) dX5_cellsThere_29 (by decide) ?_
        exact ih (k + 1) (by omega) (by omega)
  refine a_iconst (pc := 0) (v := nI 0) dX5_cellsThere_0 (by decide) ?_
  refine a_istore_n (pc := 1) (i := 1) (ls' := [(0, .ref 66), (1, .int (nI 0))]) dX5_cellsThere_1 rfl (by decide) rfl ?_
  refine a_iconst (pc := 2) (v := nI 0) dX5_cellsThere_2 (by decide) ?_
  refine a_istore_n (pc := 3) (i := 2) (ls' := [(0, .ref 66), (1, .int (nI 0)), (2, .int (nI 0))]) dX5_cellsThere_3 rfl (by decide) rfl ?_
  refine a_locs (ls' := [(0, .ref 66), (1, .int (nI (0 - cnt (sGn s) 0))), (2, .int (nI 0))]) rfl ?_
  exact LP (sCells s + 1) 0 (Nat.zero_le _) (by omega)
set_option maxHeartbeats 1500000 in
set_option maxRecDepth 100000 in
theorem s5_usable {d : Nat} {h : AH} {s : SH} (c : CB h) (g : GS s) (r : DM h 68 s) : AC mX5_usable (d + 4) 0 0 [.ref 66] h (Qe (some (.int (nI (cnt (qcu s) 96)))) h) := by
  have hn := c.1
  have gw := g.1
  have gh := g.2.1
  have gl := g.2.2.2.2.2.1
  have gc := cells48 g
  refine AC.of (by decide) rfl (Nat.le_of_ble_eq_true rfl) (fun X => ?_)
  show AW X mX5_usable (d + 4) 0 0 0 [(0, .ref 66)] [] h (Qe (some (.int (nI (cnt (qcu s) 96)))) h)
  have e2 := c_two g (P := qcu s) (fun q => qcu_has)
  have L1 : ∀ (fu : Nat) (k : Nat), k ≤ sCells s → sCells s - k < fu → AW X mX5_usable (d + 4) 0 0 11 [(0, .ref 66), (1, .int (nI (cnt (fun p => qcu s (mq s 0 p)) (sCells s) + (cnt (fun p => qcu s (mq s 1 p)) k)))), (2, .int (nI 1)), (3, .int (nI k))] [] h (Qe (some (.int (nI (cnt (qcu s) 96)))) h) := by
    intro fu
    induction fu with
    | zero => intro k hk hz; exact absurd hz (Nat.not_lt_zero _)
    | succ fu ih =>
      intro k hk hz
      refine a_iload_n (pc := 11) (i := 3) dX5_usable_11 rfl rfl ?_
      refine a_aload_n (pc := 12) (i := 0) dX5_usable_12 rfl rfl ?_
      refine a_vV1 (pc := 13) (as := []) (b := 66) (ci := 5) (v := .int (nI (sCells s))) (h' := h) dX5_usable_13 (lc_RX5_172 rfl) ceX5_cells rfl (lt90 hn (shK_lt (show shK 66 = _ from rfl))) (s5_cells c g r) rfl rfl (Nat.le_of_ble_eq_true rfl) rfl ?_
      refine n_icmp_ge (pc := 16) (tgt := 42) dX5_usable_16 (by decide) (by omega) (by omega) (fun c16 => ?_) (fun c16 => ?_)
      · have ek : k = sCells s := by omega
        refine n_iinc (pc := 42) (k := 1) (ls' := [(0, .ref 66), (1, .int (nI (cnt (fun p => qcu s (mq s 0 p)) (sCells s) + (cnt (fun p => qcu s (mq s 1 p)) k)))), (2, .int (nI (1 + 1))), (3, .int (nI k))]) dX5_usable_42 rfl (by decide) (by decide) rfl ?_
        refine a_goto (pc := 45) (tgt := 4) dX5_usable_45 (by decide) ?_
        refine a_iload_n (pc := 4) (i := 2) dX5_usable_4 rfl rfl ?_
        refine a_iconst (pc := 5) (v := nI 2) dX5_usable_5 (by decide) ?_
        refine n_icmp_ge (pc := 6) (tgt := 48) dX5_usable_6 (by decide) (by omega) (by omega) (fun c6 => ?_) (fun c6 => ?_)
        · skip
          refine a_iload_n (pc := 48) (i := 1) dX5_usable_48 rfl rfl ?_
          exact a_ireturn (pc := 49) dX5_usable_49 rfl rfl (⟨by rw [e2, ek], rfl⟩)
        · exact absurd c6 (by omega)
      · skip
        refine a_iload_n (pc := 19) (i := 1) dX5_usable_19 rfl rfl ?_
        refine a_aload_n (pc := 20) (i := 0) dX5_usable_20 rfl rfl ?_
        refine a_iload_n (pc := 21) (i := 2) dX5_usable_21 rfl rfl ?_
        refine a_iload_n (pc := 22) (i := 3) dX5_usable_22 rfl rfl ?_
        refine a_vV1 (pc := 23) (as := [.int (nI 1), .int (nI k)]) (b := 66) (ci := 5) (v := .int (bi (qcu s (mq s 1 k)))) (h' := h) dX5_usable_23 (lc_RX5_191 rfl) ceX5_canUse rfl (lt90 hn (shK_lt (show shK 66 = _ from rfl))) (s5_canUse (d := d) (x := 1) c g r (by omega) c16) rfl rfl (Nat.le_of_ble_eq_true rfl) rfl ?_
        refine b_if_eq (pc := 26) (tgt := 33) dX5_usable_26 (by decide) (fun c26 => ?_) (fun c26 => ?_)
        · skip
          refine a_iconst (pc := 33) (v := nI 0) dX5_usable_33 (by decide) ?_
          refine n_iadd (pc := 34) dX5_usable_34 ?_
          refine a_istore_n (pc := 35) (i := 1) (ls' := [(0, .ref 66), (1, .int (nI ((cnt (fun p => qcu s (mq s 0 p)) (sCells s) + (cnt (fun p => qcu s (mq s 1 p)) k)) + 0))), (2, .int (nI 1)), (3, .int (nI k))]) dX5_usable_35 rfl (by decide) rfl ?_
          refine n_iinc (pc := 36) (k := 1) (ls' := [(0, .ref 66), (1, .int (nI ((cnt (fun p => qcu s (mq s 0 p)) (sCells s) + (cnt (fun p => qcu s (mq s 1 p)) k)) + 0))), (2, .int (nI 1)), (3, .int (nI (k + 1)))]) dX5_usable_36 rfl (by decide) (by decide) rfl ?_
          refine a_goto (pc := 39) (tgt := 11) dX5_usable_39 (by decide) ?_
          refine a_locs (ls' := [(0, .ref 66), (1, .int (nI (cnt (fun p => qcu s (mq s 0 p)) (sCells s) + (cnt (fun p => qcu s (mq s 1 p)) (k + 1))))), (2, .int (nI 1)), (3, .int (nI (k + 1)))]) (by rw [cnt_no (P := fun p => qcu s (mq s 1 p)) c26]; rfl) ?_
          exact ih (k + 1) (by omega) (by omega)
        · skip
          refine a_iconst (pc := 29) (v := nI 1) dX5_usable_29 (by decide) ?_
          refine a_goto (pc := 30) (tgt := 34) dX5_usable_30 (by decide) ?_
          refine n_iadd (pc := 34) dX5_usable_34 ?_
          refine a_istore_n (pc := 35) (i := 1) (ls' := [(0, .ref 66), (1, .int (nI ((cnt (fun p => qcu s (mq s 0 p)) (sCells s) + (cnt (fun p => qcu s (mq s 1 p)) k)) + 1))), (2, .int (nI 1)), (3, .int (nI k))]) dX5_usable_35 rfl (by decide) rfl ?_
          refine n_iinc (pc := 36) (k := 1) (ls' := [(0, .ref 66), (1, .int (nI ((cnt (fun p => qcu s (mq s 0 p)) (sCells s) + (cnt (fun p => qcu s (mq s 1 p)) k)) + 1))), (2, .int (nI 1)), (3, .int (nI (k + 1)))]) dX5_usable_36 rfl (by decide) (by decide) rfl ?_
          refine a_goto (pc := 39) (tgt := 11) dX5_usable_39 (by decide) ?_
          refine a_locs (ls' := [(0, .ref 66), (1, .int (nI (cnt (fun p => qcu s (mq s 0 p)) (sCells s) + (cnt (fun p => qcu s (mq s 1 p)) (k + 1))))), (2, .int (nI 1)), (3, .int (nI (k + 1)))]) (by rw [cnt_yes (P := fun p => qcu s (mq s 1 p)) c26, ← Nat.add_assoc]) ?_
          exact ih (k + 1) (by omega) (by omega)
  have L0 : ∀ (fu : Nat) (k : Nat), k ≤ sCells s → sCells s - k < fu → AW X mX5_usable (d + 4) 0 0 11 [(0, .ref 66), (1, .int (nI ((cnt (fun p => qcu s (mq s 0 p)) k)))), (2, .int (nI 0)), (3, .int (nI k))] [] h (Qe (some (.int (nI (cnt (qcu s) 96)))) h) := by
    intro fu
    induction fu with
    | zero => intro k hk hz; exact absurd hz (Nat.not_lt_zero _)
    | succ fu ih =>
      intro k hk hz
      refine a_iload_n (pc := 11) (i := 3) dX5_usable_11 rfl rfl ?_
      refine a_aload_n (pc := 12) (i := 0) dX5_usable_12 rfl rfl ?_
      refine a_vV1 (pc := 13) (as := []) (b := 66) (ci := 5) (v := .int (nI (sCells s))) (h' := h) dX5_usable_13 (lc_RX5_172 rfl) ceX5_cells rfl (lt90 hn (shK_lt (show shK 66 = _ from rfl))) (s5_cells c g r) rfl rfl (Nat.le_of_ble_eq_true rfl) rfl ?_
      refine n_icmp_ge (pc := 16) (tgt := 42) dX5_usable_16 (by decide) (by omega) (by omega) (fun c16 => ?_) (fun c16 => ?_)
      · have ek : k = sCells s := by omega
        refine n_iinc (pc := 42) (k := 1) (ls' := [(0, .ref 66), (1, .int (nI ((cnt (fun p => qcu s (mq s 0 p)) k)))), (2, .int (nI (0 + 1))), (3, .int (nI k))]) dX5_usable_42 rfl (by decide) (by decide) rfl ?_
        refine a_goto (pc := 45) (tgt := 4) dX5_usable_45 (by decide) ?_
        refine a_iload_n (pc := 4) (i := 2) dX5_usable_4 rfl rfl ?_
        refine a_iconst (pc := 5) (v := nI 2) dX5_usable_5 (by decide) ?_
        refine n_icmp_ge (pc := 6) (tgt := 48) dX5_usable_6 (by decide) (by omega) (by omega) (fun c6 => ?_) (fun c6 => ?_)
        · exact absurd c6 (by omega)
        · skip
          refine a_iconst (pc := 9) (v := nI 0) dX5_usable_9 (by decide) ?_
          refine a_istore_n (pc := 10) (i := 3) (ls' := [(0, .ref 66), (1, .int (nI ((cnt (fun p => qcu s (mq s 0 p)) k)))), (2, .int (nI (0 + 1))), (3, .int (nI 0))]) dX5_usable_10 rfl (by decide) rfl ?_
          refine a_locs (ls' := [(0, .ref 66), (1, .int (nI (cnt (fun p => qcu s (mq s 0 p)) (sCells s) + (cnt (fun p => qcu s (mq s 1 p)) 0)))), (2, .int (nI 1)), (3, .int (nI 0))]) (by rw [ek]; rfl) ?_
          exact L1 (sCells s + 1) 0 (Nat.zero_le _) (by omega)
      · skip
        refine a_iload_n (pc := 19) (i := 1) dX5_usable_19 rfl rfl ?_
        refine a_aload_n (pc := 20) (i := 0) dX5_usable_20 rfl rfl ?_
        refine a_iload_n (pc := 21) (i := 2) dX5_usable_21 rfl rfl ?_
        refine a_iload_n (pc := 22) (i := 3) dX5_usable_22 rfl rfl ?_
        refine a_vV1 (pc := 23) (as := [.int (nI 0), .int (nI k)]) (b := 66) (ci := 5) (v := .int (bi (qcu s (mq s 0 k)))) (h' := h) dX5_usable_23 (lc_RX5_191 rfl) ceX5_canUse rfl (lt90 hn (shK_lt (show shK 66 = _ from rfl))) (s5_canUse (d := d) (x := 0) c g r (by omega) c16) rfl rfl (Nat.le_of_ble_eq_true rfl) rfl ?_
        refine b_if_eq (pc := 26) (tgt := 33) dX5_usable_26 (by decide) (fun c26 => ?_) (fun c26 => ?_)
        · skip
          refine a_iconst (pc := 33) (v := nI 0) dX5_usable_33 (by decide) ?_
          refine n_iadd (pc := 34) dX5_usable_34 ?_
          refine a_istore_n (pc := 35) (i := 1) (ls' := [(0, .ref 66), (1, .int (nI (((cnt (fun p => qcu s (mq s 0 p)) k)) + 0))), (2, .int (nI 0)), (3, .int (nI k))]) dX5_usable_35 rfl (by decide) rfl ?_
          refine n_iinc (pc := 36) (k := 1) (ls' := [(0, .ref 66), (1, .int (nI (((cnt (fun p => qcu s (mq s 0 p)) k)) + 0))), (2, .int (nI 0)), (3, .int (nI (k + 1)))]) dX5_usable_36 rfl (by decide) (by decide) rfl ?_
          refine a_goto (pc := 39) (tgt := 11) dX5_usable_39 (by decide) ?_
          refine a_locs (ls' := [(0, .ref 66), (1, .int (nI ((cnt (fun p => qcu s (mq s 0 p)) (k + 1))))), (2, .int (nI 0)), (3, .int (nI (k + 1)))]) (by rw [cnt_no (P := fun p => qcu s (mq s 0 p)) c26]; rfl) ?_
          exact ih (k + 1) (by omega) (by omega)
        · skip
          refine a_iconst (pc := 29) (v := nI 1) dX5_usable_29 (by decide) ?_
          refine a_goto (pc := 30) (tgt := 34) dX5_usable_30 (by decide) ?_
          refine n_iadd (pc := 34) dX5_usable_34 ?_
          refine a_istore_n (pc := 35) (i := 1) (ls' := [(0, .ref 66), (1, .int (nI (((cnt (fun p => qcu s (mq s 0 p)) k)) + 1))), (2, .int (nI 0)), (3, .int (nI k))]) dX5_usable_35 rfl (by decide) rfl ?_
          refine n_iinc (pc := 36) (k := 1) (ls' := [(0, .ref 66), (1, .int (nI (((cnt (fun p => qcu s (mq s 0 p)) k)) + 1))), (2, .int (nI 0)), (3, .int (nI (k + 1)))]) dX5_usable_36 rfl (by decide) (by decide) rfl ?_
          refine a_goto (pc := 39) (tgt := 11) dX5_usable_39 (by decide) ?_
          refine a_locs (ls' := [(0, .ref 66), (1, .int (nI ((cnt (fun p => qcu s (mq s 0 p)) (k + 1))))), (2, .int (nI 0)), (3, .int (nI (k + 1)))]) (by rw [cnt_yes (P := fun p => qcu s (mq s 0 p)) c26]) ?_
          exact ih (k + 1) (by omega) (by omega)
  refine a_iconst (pc := 0) (v := nI 0) dX5_usable_0 (by decide) ?_
  refine a_istore_n (pc := 1) (i := 1) (ls' := [(0, .ref 66), (1, .int (nI 0))]) dX5_usable_1 rfl (by decide) rfl ?_
  refine a_iconst (pc := 2) (v := nI 0) dX5_usable_2 (by decide) ?_
  refine a_istore_n (pc := 3) (i := 2) (ls' := [(0, .ref 66), (1, .int (nI 0)), (2, .int (nI 0))]) dX5_usable_3 rfl (by decide) rfl ?_
  refine a_iload_n (pc := 4) (i := 2) dX5_usable_4 rfl rfl ?_
  refine a_iconst (pc := 5) (v := nI 2) dX5_usable_5 (by decide) ?_
  refine n_icmp_ge (pc := 6) (tgt := 48) dX5_usable_6 (by decide) (by omega) (by omega) (fun c6 => ?_) (fun c6 => ?_)
  · exact absurd c6 (by omega)
  · skip
    refine a_iconst (pc := 9) (v := nI 0) dX5_usable_9 (by decide) ?_
    refine a_istore_n (pc := 10) (i := 3) (ls' := [(0, .ref 66), (1, .int (nI 0)), (2, .int (nI 0)), (3, .int (nI 0))]) dX5_usable_10 rfl (by decide) rfl ?_
    refine a_locs (ls' := [(0, .ref 66), (1, .int (nI ((cnt (fun p => qcu s (mq s 0 p)) 0)))), (2, .int (nI 0)), (3, .int (nI 0))]) rfl ?_
    exact L0 (sCells s + 1) 0 (Nat.zero_le _) (by omega)
set_option maxHeartbeats 1500000 in
set_option maxRecDepth 100000 in
theorem s5_told {d k : Nat} {h : AH} {s : SH} (c : CB h) (g : GS s) (r : DM h 68 s) (hk : k < 8) : AC mX5_told (d + 5) 0 0 [.ref 66, .int (nI k)] h (Qe (some (.int (stV s k))) h) := by
  have hn := c.1
  have gw := g.1
  have gh := g.2.1
  have gl := g.2.2.2.2.2.1
  have gc := cells48 g
  refine AC.of (by decide) rfl (Nat.le_of_ble_eq_true rfl) (fun X => ?_)
  show AW X mX5_told (d + 5) 0 0 0 [(0, .ref 66), (1, .int (nI k))] [] h (Qe (some (.int (stV s k))) h)
  have hs : ∀ j x, j < 8 → (stL s).getD j 0 = x → k = j → stV s k = x := fun j x _ h1 h2 => by subst h2; exact h1
  refine a_iload_n (pc := 0) (i := 1) dX5_told_0 rfl rfl ?_
  rcases (by omega : k < 3 ∨ k = 3 ∨ k = 4 ∨ k = 5 ∨ k = 6 ∨ k = 7) with hk3 | rfl | rfl | rfl | rfl | rfl
  · refine a_tableOut (pc := 1) (tgt := 55) dX5_told_1 (by rw [nI_toInt (by omega)]; omega) (by decide) ?_
    rcases (by omega : k = 0 ∨ k = 1 ∨ k = 2) with rfl | rfl | rfl
    · skip
      refine a_aload_n (pc := 55) (i := 0) dX5_told_55 rfl rfl ?_
      refine a_getR (pc := 56) (ci := 5) (k := 8) (b := 68) dX5_told_56 (lf_RX5_17 rfl) (by decide) rfl rfl (lt90 hn (shK_lt (show shK 66 = _ from rfl))) c.2.2.2.2.2.2.2.2.1.2.1 ?_
      refine a_iload_n (pc := 59) (i := 1) dX5_told_59 rfl rfl ?_
      refine a_iald (pc := 60) (j := 0) dX5_told_60 rfl (lt90 hn (shK_lt (show shK 68 = _ from rfl))) rfl (by omega) ?_
      refine a_top (show (.int (hI h 68 0) : Value) = .int (nI (sW s)) from congrArg Value.int r.1.1) ?_
      exact a_ireturn (pc := 61) dX5_told_61 rfl rfl (⟨rfl, rfl⟩)
    · skip
      refine a_aload_n (pc := 55) (i := 0) dX5_told_55 rfl rfl ?_
      refine a_getR (pc := 56) (ci := 5) (k := 8) (b := 68) dX5_told_56 (lf_RX5_17 rfl) (by decide) rfl rfl (lt90 hn (shK_lt (show shK 66 = _ from rfl))) c.2.2.2.2.2.2.2.2.1.2.1 ?_
      refine a_iload_n (pc := 59) (i := 1) dX5_told_59 rfl rfl ?_
      refine a_iald (pc := 60) (j := 1) dX5_told_60 rfl (lt90 hn (shK_lt (show shK 68 = _ from rfl))) rfl (by omega) ?_
      refine a_top (show (.int (hI h 68 1) : Value) = .int (nI (sH s)) from congrArg Value.int r.1.2.1) ?_
      exact a_ireturn (pc := 61) dX5_told_61 rfl rfl (⟨rfl, rfl⟩)
    · skip
      refine a_aload_n (pc := 55) (i := 0) dX5_told_55 rfl rfl ?_
      refine a_getR (pc := 56) (ci := 5) (k := 8) (b := 68) dX5_told_56 (lf_RX5_17 rfl) (by decide) rfl rfl (lt90 hn (shK_lt (show shK 66 = _ from rfl))) c.2.2.2.2.2.2.2.2.1.2.1 ?_
      refine a_iload_n (pc := 59) (i := 1) dX5_told_59 rfl rfl ?_
      refine a_iald (pc := 60) (j := 2) dX5_told_60 rfl (lt90 hn (shK_lt (show shK 68 = _ from rfl))) rfl (by omega) ?_
      refine a_top (show (.int (hI h 68 2) : Value) = .int (nI (sS s)) from congrArg Value.int r.1.2.2.1) ?_
      exact a_ireturn (pc := 61) dX5_told_61 rfl rfl (⟨rfl, rfl⟩)
  · refine a_tableIn (pc := 1) (tgt := 36) dX5_told_1 (by decide) (by decide) rfl (by decide) ?_
    refine a_aload_n (pc := 36) (i := 0) dX5_told_36 rfl rfl ?_
    refine a_vV1 (pc := 37) (as := []) (b := 66) (ci := 5) (v := .int (nI (nThere s))) (h' := h) dX5_told_37 (lc_RX5_257 rfl) ceX5_cellsThere rfl (lt90 hn (shK_lt (show shK 66 = _ from rfl))) (s5_cellsThere (d := d + 3) c g r) rfl rfl (Nat.le_of_ble_eq_true rfl) rfl ?_
    exact a_ireturn (pc := 40) dX5_told_40 rfl rfl (⟨rfl, rfl⟩)
  · refine a_tableIn (pc := 1) (tgt := 41) dX5_told_1 (by decide) (by decide) rfl (by decide) ?_
    refine a_aload_n (pc := 41) (i := 0) dX5_told_41 rfl rfl ?_
    refine a_getR (pc := 42) (ci := 5) (k := 8) (b := 68) dX5_told_42 (lf_RX5_17 rfl) (by decide) rfl rfl (lt90 hn (shK_lt (show shK 66 = _ from rfl))) c.2.2.2.2.2.2.2.2.1.2.1 ?_
    refine a_iload_n (pc := 45) (i := 1) dX5_told_45 rfl rfl ?_
    refine a_iconst (pc := 46) (v := nI 1) dX5_told_46 (by decide) ?_
    refine n_isub (pc := 47) dX5_told_47 (by omega) ?_
    refine a_iald (pc := 48) (j := (4 - 1)) dX5_told_48 rfl (lt90 hn (shK_lt (show shK 68 = _ from rfl))) rfl (by omega) ?_
    refine a_top (show (.int (hI h 68 (4 - 1)) : Value) = .int (nI (sLen s)) from congrArg Value.int r.1.2.2.2.1) ?_
    exact a_ireturn (pc := 49) dX5_told_49 rfl rfl (⟨rfl, rfl⟩)
  · refine a_tableIn (pc := 1) (tgt := 41) dX5_told_1 (by decide) (by decide) rfl (by decide) ?_
    refine a_aload_n (pc := 41) (i := 0) dX5_told_41 rfl rfl ?_
    refine a_getR (pc := 42) (ci := 5) (k := 8) (b := 68) dX5_told_42 (lf_RX5_17 rfl) (by decide) rfl rfl (lt90 hn (shK_lt (show shK 66 = _ from rfl))) c.2.2.2.2.2.2.2.2.1.2.1 ?_
    refine a_iload_n (pc := 45) (i := 1) dX5_told_45 rfl rfl ?_
    refine a_iconst (pc := 46) (v := nI 1) dX5_told_46 (by decide) ?_
    refine n_isub (pc := 47) dX5_told_47 (by omega) ?_
    refine a_iald (pc := 48) (j := (5 - 1)) dX5_told_48 rfl (lt90 hn (shK_lt (show shK 68 = _ from rfl))) rfl (by omega) ?_
    refine a_top (show (.int (hI h 68 (5 - 1)) : Value) = .int (nI (sCu s)) from congrArg Value.int r.1.2.2.2.2.1) ?_
    exact a_ireturn (pc := 49) dX5_told_49 rfl rfl (⟨rfl, rfl⟩)
  · refine a_tableIn (pc := 1) (tgt := 41) dX5_told_1 (by decide) (by decide) rfl (by decide) ?_
    refine a_aload_n (pc := 41) (i := 0) dX5_told_41 rfl rfl ?_
    refine a_getR (pc := 42) (ci := 5) (k := 8) (b := 68) dX5_told_42 (lf_RX5_17 rfl) (by decide) rfl rfl (lt90 hn (shK_lt (show shK 66 = _ from rfl))) c.2.2.2.2.2.2.2.2.1.2.1 ?_
    refine a_iload_n (pc := 45) (i := 1) dX5_told_45 rfl rfl ?_
    refine a_iconst (pc := 46) (v := nI 1) dX5_told_46 (by decide) ?_
    refine n_isub (pc := 47) dX5_told_47 (by omega) ?_
    refine a_iald (pc := 48) (j := (6 - 1)) dX5_told_48 rfl (lt90 hn (shK_lt (show shK 68 = _ from rfl))) rfl (by omega) ?_
    refine a_top (show (.int (hI h 68 (6 - 1)) : Value) = .int (nI (sTk s)) from congrArg Value.int r.1.2.2.2.2.2) ?_
    exact a_ireturn (pc := 49) dX5_told_49 rfl rfl (⟨rfl, rfl⟩)
  · refine a_tableIn (pc := 1) (tgt := 50) dX5_told_1 (by decide) (by decide) rfl (by decide) ?_
    refine a_aload_n (pc := 50) (i := 0) dX5_told_50 rfl rfl ?_
    refine a_vV1 (pc := 51) (as := []) (b := 66) (ci := 5) (v := .int (nI (cnt (qcu s) 96))) (h' := h) dX5_told_51 (lc_RX5_260 rfl) ceX5_usable rfl (lt90 hn (shK_lt (show shK 66 = _ from rfl))) (s5_usable (d := d) c g r) rfl rfl (Nat.le_of_ble_eq_true rfl) rfl ?_
    exact a_ireturn (pc := 54) dX5_told_54 rfl rfl (⟨rfl, rfl⟩)
set_option maxHeartbeats 1500000 in
set_option maxRecDepth 100000 in
theorem s5_isWanted {d x p : Nat} {h : AH} {s : SH} (c : CB h) (g : GS s) (r : DM h 68 s) (hx : x < 2) (hp : p < sCells s) : AC mX5_isWanted (d + 4) 0 0 [.ref 66, .int (nI x), .int (nI p)] h (Qe (some (.int (bi (usM s (mq s x p))))) h) := by
  have hn := c.1
  have gw := g.1
  have gh := g.2.1
  have gl := g.2.2.2.2.2.1
  have gc := cells48 g
  refine AC.of (by decide) rfl (Nat.le_of_ble_eq_true rfl) (fun X => ?_)
  show AW X mX5_isWanted (d + 4) 0 0 0 [(0, .ref 66), (1, .int (nI x)), (2, .int (nI p))] [] h (Qe (some (.int (bi (usM s (mq s x p))))) h)
  have hm := cnt_le (fun k => nI (sMs s k) = qlt s (mq s x p)) (sLen s)
  have hm2 : inMs s (qlt s (mq s x p)) ≤ 24 := Nat.le_trans hm gl
  refine a_aload_n (pc := 0) (i := 0) dX5_isWanted_0 rfl rfl ?_
  refine a_iload_n (pc := 1) (i := 1) dX5_isWanted_1 rfl rfl ?_
  refine a_iload_n (pc := 2) (i := 2) dX5_isWanted_2 rfl rfl ?_
  refine a_vV1 (pc := 3) (as := [.int (nI x), .int (nI p)]) (b := 66) (ci := 5) (v := .int (bi (qcu s (mq s x p)))) (h' := h) dX5_isWanted_3 (lc_RX5_191 rfl) ceX5_canUse rfl (lt90 hn (shK_lt (show shK 66 = _ from rfl))) (s5_canUse (d := d) c g r hx hp) rfl rfl (Nat.le_of_ble_eq_true rfl) rfl ?_
  refine b_if_eq (pc := 6) (tgt := 26) dX5_isWanted_6 (by decide) (fun c6 => ?_) (fun c6 => ?_)
  · skip
    have e : ¬ usM s (mq s x p) := fun z => c6 z.1
    refine a_iconst (pc := 26) (v := nI 0) dX5_isWanted_26 (by decide) ?_
    exact a_ireturn (pc := 27) dX5_isWanted_27 rfl rfl (⟨by rw [bi_f e]; rfl, rfl⟩)
  · skip
    refine a_aload_n (pc := 9) (i := 0) dX5_isWanted_9 rfl rfl ?_
    refine a_aload_n (pc := 10) (i := 0) dX5_isWanted_10 rfl rfl ?_
    refine a_iload_n (pc := 11) (i := 1) dX5_isWanted_11 rfl rfl ?_
    refine a_iload_n (pc := 12) (i := 2) dX5_isWanted_12 rfl rfl ?_
    refine a_vV1 (pc := 13) (as := [.int (nI x), .int (nI p)]) (b := 66) (ci := 5) (v := .int (qlt s (mq s x p))) (h' := h) dX5_isWanted_13 (lc_RX5_181 rfl) ceX5_letterAt rfl (lt90 hn (shK_lt (show shK 66 = _ from rfl))) (s5_letterAt c g r hx hp) rfl rfl (Nat.le_of_ble_eq_true rfl) rfl ?_
    refine a_vV1 (pc := 16) (as := [.int (qlt s (mq s x p))]) (b := 66) (ci := 5) (v := .int (nI (inMs s (qlt s (mq s x p))))) (h' := h) dX5_isWanted_16 (lc_RX5_272 rfl) ceX5_inMessage rfl (lt90 hn (shK_lt (show shK 66 = _ from rfl))) (s5_inMessage c g r) rfl rfl (Nat.le_of_ble_eq_true rfl) rfl ?_
    refine n_if_le (pc := 19) (tgt := 26) dX5_isWanted_19 (by decide) (by omega) (fun c19 => ?_) (fun c19 => ?_)
    · skip
      have e : ¬ usM s (mq s x p) := fun z => by have := z.2; omega
      refine a_iconst (pc := 26) (v := nI 0) dX5_isWanted_26 (by decide) ?_
      exact a_ireturn (pc := 27) dX5_isWanted_27 rfl rfl (⟨by rw [bi_f e]; rfl, rfl⟩)
    · have e : usM s (mq s x p) := ⟨c6, c19⟩
      refine a_iconst (pc := 22) (v := nI 1) dX5_isWanted_22 (by decide) ?_
      refine a_goto (pc := 23) (tgt := 27) dX5_isWanted_23 (by decide) ?_
      exact a_ireturn (pc := 27) dX5_isWanted_27 rfl rfl (⟨by rw [bi_t e]; rfl, rfl⟩)
set_option maxHeartbeats 1500000 in
set_option maxRecDepth 100000 in
theorem s5_clashesNow {d : Nat} {h : AH} {s : SH} (c : CB h) (g : GS s) (r : DM h 68 s) : AC mX5_clashesNow (d + 5) 0 0 [.ref 66] h (Qe (some (.int (nI (nClash s)))) h) := by
  have hn := c.1
  have gw := g.1
  have gh := g.2.1
  have gl := g.2.2.2.2.2.1
  have gc := cells48 g
  refine AC.of (by decide) rfl (Nat.le_of_ble_eq_true rfl) (fun X => ?_)
  show AW X mX5_clashesNow (d + 5) 0 0 0 [(0, .ref 66)] [] h (Qe (some (.int (nI (nClash s)))) h)
  have ec : nClash s = cnt (fun p => usM s (mq s 0 p) ∧ usM s (mq s 1 (mbh s p))) (sCells s) := by
    have e1 := c_side g (P := fun q => usM s q ∧ usM s (qbh s q)) (fun q hq => qcu_has hq.1.1) (x := 0) (by omega)
    rw [show (fun q => (fun q => usM s q ∧ usM s (qbh s q)) (48 * 0 + q)) = (fun q => usM s q ∧ usM s (qbh s q)) from funext fun q => by rw [show 48 * 0 + q = q by omega]] at e1
    refine e1.trans (cnt_congr _ fun p hp => ?_)
    show (usM s (mq s 0 p) ∧ usM s (qbh s (mq s 0 p))) ↔ _
    rw [mq_bh g (by omega) hp]
  have LP : ∀ (fu : Nat) (k : Nat), k ≤ sCells s → sCells s - k < fu → AW X mX5_clashesNow (d + 5) 0 0 4 [(0, .ref 66), (1, .int (nI (cnt (fun p => usM s (mq s 0 p) ∧ usM s (mq s 1 (mbh s p))) k))), (2, .int (nI k))] [] h (Qe (some (.int (nI (nClash s)))) h) := by
    intro fu
    induction fu with
    | zero => intro k hk hz; exact absurd hz (Nat.not_lt_zero _)
    | succ fu ih =>
      intro k hk hz
      refine a_iload_n (pc := 4) (i := 2) dX5_clashesNow_4 rfl rfl ?_
      refine a_aload_n (pc := 5) (i := 0) dX5_clashesNow_5 rfl rfl ?_
      refine a_vV1 (pc := 6) (as := []) (b := 66) (ci := 5) (v := .int (nI (sCells s))) (h' := h) dX5_clashesNow_6 (lc_RX5_172 rfl) ceX5_cells rfl (lt90 hn (shK_lt (show shK 66 = _ from rfl))) (s5_cells c g r) rfl rfl (Nat.le_of_ble_eq_true rfl) rfl ?_
      refine n_icmp_ge (pc := 9) (tgt := 48) dX5_clashesNow_9 (by decide) (by omega) (by omega) (fun c9 => ?_) (fun c9 => ?_)
      · have ek : k = sCells s := by omega
        subst ek
        refine a_iload_n (pc := 48) (i := 1) dX5_clashesNow_48 rfl rfl ?_
        exact a_ireturn (pc := 49) dX5_clashesNow_49 rfl rfl (⟨by rw [ec], rfl⟩)
      · have hb := (mbh_ok g c9).1
        refine a_iload_n (pc := 12) (i := 1) dX5_clashesNow_12 rfl rfl ?_
        refine a_aload_n (pc := 13) (i := 0) dX5_clashesNow_13 rfl rfl ?_
        refine a_iconst (pc := 14) (v := nI 0) dX5_clashesNow_14 (by decide) ?_
        refine a_iload_n (pc := 15) (i := 2) dX5_clashesNow_15 rfl rfl ?_
        refine a_vV1 (pc := 16) (as := [.int (nI 0), .int (nI k)]) (b := 66) (ci := 5) (v := .int (bi (usM s (mq s 0 k)))) (h' := h) dX5_clashesNow_16 (lc_RX5_296 rfl) ceX5_isWanted rfl (lt90 hn (shK_lt (show shK 66 = _ from rfl))) (s5_isWanted (d := d) (x := 0) c g r (by omega) c9) rfl rfl (Nat.le_of_ble_eq_true rfl) rfl ?_
        refine b_if_eq (pc := 19) (tgt := 39) dX5_clashesNow_19 (by decide) (fun c19 => ?_) (fun c19 => ?_)
        · skip
          refine a_iconst (pc := 39) (v := nI 0) dX5_clashesNow_39 (by decide) ?_
          refine n_iadd (pc := 40) dX5_clashesNow_40 ?_
          refine a_istore_n (pc := 41) (i := 1) (ls' := [(0, .ref 66), (1, .int (nI ((cnt (fun p => usM s (mq s 0 p) ∧ usM s (mq s 1 (mbh s p))) k) + 0))), (2, .int (nI k))]) dX5_clashesNow_41 rfl (by decide) rfl ?_
          refine n_iinc (pc := 42) (k := 1) (ls' := [(0, .ref 66), (1, .int (nI ((cnt (fun p => usM s (mq s 0 p) ∧ usM s (mq s 1 (mbh s p))) k) + 0))), (2, .int (nI (k + 1)))]) dX5_clashesNow_42 rfl (by decide) (by decide) rfl ?_
          refine a_goto (pc := 45) (tgt := 4) dX5_clashesNow_45 (by decide) ?_
          refine a_locs (ls' := [(0, .ref 66), (1, .int (nI (cnt (fun p => usM s (mq s 0 p) ∧ usM s (mq s 1 (mbh s p))) (k + 1)))), (2, .int (nI (k + 1)))]) (by rw [cnt_no (P := (fun p => usM s (mq s 0 p) ∧ usM s (mq s 1 (mbh s p)))) (fun z => c19 z.1)]; rfl) ?_
          exact ih (k + 1) (by omega) (by omega)
        · skip
          refine a_aload_n (pc := 22) (i := 0) dX5_clashesNow_22 rfl rfl ?_
          refine a_iconst (pc := 23) (v := nI 1) dX5_clashesNow_23 (by decide) ?_
          refine a_aload_n (pc := 24) (i := 0) dX5_clashesNow_24 rfl rfl ?_
          refine a_iload_n (pc := 25) (i := 2) dX5_clashesNow_25 rfl rfl ?_
          refine a_vV1 (pc := 26) (as := [.int (nI k)]) (b := 66) (ci := 5) (v := .int (nI (mbh s k))) (h' := h) dX5_clashesNow_26 (lc_RX5_175 rfl) ceX5_behind rfl (lt90 hn (shK_lt (show shK 66 = _ from rfl))) (s5_behind c g r c9) rfl rfl (Nat.le_of_ble_eq_true rfl) rfl ?_
          refine a_vV1 (pc := 29) (as := [.int (nI 1), .int (nI (mbh s k))]) (b := 66) (ci := 5) (v := .int (bi (usM s (mq s 1 (mbh s k))))) (h' := h) dX5_clashesNow_29 (lc_RX5_296 rfl) ceX5_isWanted rfl (lt90 hn (shK_lt (show shK 66 = _ from rfl))) (s5_isWanted (d := d) (x := 1) c g r (by omega) hb) rfl rfl (Nat.le_of_ble_eq_true rfl) rfl ?_
          refine b_if_eq (pc := 32) (tgt := 39) dX5_clashesNow_32 (by decide) (fun c32 => ?_) (fun c32 => ?_)
          · skip
            refine a_iconst (pc := 39) (v := nI 0) dX5_clashesNow_39 (by decide) ?_
            refine n_iadd (pc := 40) dX5_clashesNow_40 ?_
            refine a_istore_n (pc := 41) (i := 1) (ls' := [(0, .ref 66), (1, .int (nI ((cnt (fun p => usM s (mq s 0 p) ∧ usM s (mq s 1 (mbh s p))) k) + 0))), (2, .int (nI k))]) dX5_clashesNow_41 rfl (by decide) rfl ?_
            refine n_iinc (pc := 42) (k := 1) (ls' := [(0, .ref 66), (1, .int (nI ((cnt (fun p => usM s (mq s 0 p) ∧ usM s (mq s 1 (mbh s p))) k) + 0))), (2, .int (nI (k + 1)))]) dX5_clashesNow_42 rfl (by decide) (by decide) rfl ?_
            refine a_goto (pc := 45) (tgt := 4) dX5_clashesNow_45 (by decide) ?_
            refine a_locs (ls' := [(0, .ref 66), (1, .int (nI (cnt (fun p => usM s (mq s 0 p) ∧ usM s (mq s 1 (mbh s p))) (k + 1)))), (2, .int (nI (k + 1)))]) (by rw [cnt_no (P := (fun p => usM s (mq s 0 p) ∧ usM s (mq s 1 (mbh s p)))) (fun z => c32 z.2)]; rfl) ?_
            exact ih (k + 1) (by omega) (by omega)
          · skip
            refine a_iconst (pc := 35) (v := nI 1) dX5_clashesNow_35 (by decide) ?_
            refine a_goto (pc := 36) (tgt := 40) dX5_clashesNow_36 (by decide) ?_
            refine n_iadd (pc := 40) dX5_clashesNow_40 ?_
            refine a_istore_n (pc := 41) (i := 1) (ls' := [(0, .ref 66), (1, .int (nI ((cnt (fun p => usM s (mq s 0 p) ∧ usM s (mq s 1 (mbh s p))) k) + 1))), (2, .int (nI k))]) dX5_clashesNow_41 rfl (by decide) rfl ?_
            refine n_iinc (pc := 42) (k := 1) (ls' := [(0, .ref 66), (1, .int (nI ((cnt (fun p => usM s (mq s 0 p) ∧ usM s (mq s 1 (mbh s p))) k) + 1))), (2, .int (nI (k + 1)))]) dX5_clashesNow_42 rfl (by decide) (by decide) rfl ?_
            refine a_goto (pc := 45) (tgt := 4) dX5_clashesNow_45 (by decide) ?_
            refine a_locs (ls' := [(0, .ref 66), (1, .int (nI (cnt (fun p => usM s (mq s 0 p) ∧ usM s (mq s 1 (mbh s p))) (k + 1)))), (2, .int (nI (k + 1)))]) (by rw [cnt_yes (P := (fun p => usM s (mq s 0 p) ∧ usM s (mq s 1 (mbh s p)))) ⟨c19, c32⟩]) ?_
            exact ih (k + 1) (by omega) (by omega)
  refine a_iconst (pc := 0) (v := nI 0) dX5_clashesNow_0 (by decide) ?_
  refine a_istore_n (pc := 1) (i := 1) (ls' := [(0, .ref 66), (1, .int (nI 0))]) dX5_clashesNow_1 rfl (by decide) rfl ?_
  refine a_iconst (pc := 2) (v := nI 0) dX5_clashesNow_2 (by decide) ?_
  refine a_istore_n (pc := 3) (i := 2) (ls' := [(0, .ref 66), (1, .int (nI 0)), (2, .int (nI 0))]) dX5_clashesNow_3 rfl (by decide) rfl ?_
  refine a_locs (ls' := [(0, .ref 66), (1, .int (nI (cnt (fun p => usM s (mq s 0 p) ∧ usM s (mq s 1 (mbh s p))) 0))), (2, .int (nI 0))]) rfl ?_
  exact LP (sCells s + 1) 0 (Nat.zero_le _) (by omega)
set_option maxHeartbeats 1500000 in
set_option maxRecDepth 100000 in
theorem s5_toldLetter {d x p : Nat} {h : AH} {s : SH} (c : CB h) (g : GS s) (r : DM h 68 s) (hx : x < 2) (hp : p < sCells s) : AC mX5_toldLetter (d + 3) 0 0 [.ref 66, .int (nI x), .int (nI p)] h (Qe (some (.int (flet s (mq s x p)))) h) := by
  have hn := c.1
  have gw := g.1
  have gh := g.2.1
  have gl := g.2.2.2.2.2.1
  have gc := cells48 g
  refine AC.of (by decide) rfl (Nat.le_of_ble_eq_true rfl) (fun X => ?_)
  show AW X mX5_toldLetter (d + 3) 0 0 0 [(0, .ref 66), (1, .int (nI x)), (2, .int (nI p))] [] h (Qe (some (.int (flet s (mq s x p)))) h)
  refine a_aload_n (pc := 0) (i := 0) dX5_toldLetter_0 rfl rfl ?_
  refine a_iload_n (pc := 1) (i := 1) dX5_toldLetter_1 rfl rfl ?_
  refine a_iload_n (pc := 2) (i := 2) dX5_toldLetter_2 rfl rfl ?_
  refine a_vV1 (pc := 3) (as := [.int (nI x), .int (nI p)]) (b := 66) (ci := 5) (v := .int (bi (gnB s (qcell s (mq s x p))))) (h' := h) dX5_toldLetter_3 (lc_RX5_184 rfl) ceX5_isGone rfl (lt90 hn (shK_lt (show shK 66 = _ from rfl))) (s5_isGone (d := d) c g r hx hp) rfl rfl (Nat.le_of_ble_eq_true rfl) rfl ?_
  refine b_if_eq (pc := 6) (tgt := 14) dX5_toldLetter_6 (by decide) (fun c6 => ?_) (fun c6 => ?_)
  · skip
    refine a_aload_n (pc := 14) (i := 0) dX5_toldLetter_14 rfl rfl ?_
    refine a_iload_n (pc := 15) (i := 1) dX5_toldLetter_15 rfl rfl ?_
    refine a_iload_n (pc := 16) (i := 2) dX5_toldLetter_16 rfl rfl ?_
    refine a_vV1 (pc := 17) (as := [.int (nI x), .int (nI p)]) (b := 66) (ci := 5) (v := .int (qlt s (mq s x p))) (h' := h) dX5_toldLetter_17 (lc_RX5_181 rfl) ceX5_letterAt rfl (lt90 hn (shK_lt (show shK 66 = _ from rfl))) (s5_letterAt c g r hx hp) rfl rfl (Nat.le_of_ble_eq_true rfl) rfl ?_
    exact a_ireturn (pc := 20) dX5_toldLetter_20 rfl rfl (⟨by rw [show flet s (mq s x p) = _ from cif_f c6], rfl⟩)
  · skip
    refine a_bipush (pc := 9) (v := (-2)) dX5_toldLetter_9 (by decide) ?_
    refine a_goto (pc := 11) (tgt := 20) dX5_toldLetter_11 (by decide) ?_
    exact a_ireturn (pc := 20) dX5_toldLetter_20 rfl rfl (⟨by rw [show flet s (mq s x p) = _ from cif_t c6], rfl⟩)
noncomputable def plL (s : SH) (q : Nat) : List Int32 := [nI (qpl s (qcell s q)), nI (qsz s q), nI (qpl s (qbh s q)), bi (qcu s q), nI (inMs s (qlt s q))]
theorem qpl_mb {s : SH} (g : GS s) {p : Nat} (hp : p < sCells s) : qpl s (mb s p) = p := by
  have h := (mq_ok g (x := 0) (by omega) hp).2.2.2.2.2
  rwa [show mq s 0 p = mb s p by unfold mq mb; omega] at h
theorem inMs_m1 {s : SH} (g : GS s) : inMs s (-1) = 0 := cnt_none _ fun i _ h => by
  have h1 := g.2.2.2.2.2.2 i
  have h2 : nI (sMs s i) < 0 := by rw [h]; decide
  exact nI_pos (by omega) h2
set_option maxHeartbeats 1500000 in
set_option maxRecDepth 100000 in
theorem s5_toldPlace {d x p w : Nat} {h : AH} {s : SH} (c : CB h) (g : GS s) (r : DM h 68 s) (hx : x < 2) (hp : p < sCells s) (hw : w < 5) : AC mX5_toldPlace (d + 4) 0 0 [.ref 66, .int (nI x), .int (nI p), .int (nI w)] h (Qe (some (.int ((plL s (mq s x p)).getD w 0))) h) := by
  have hn := c.1
  have gw := g.1
  have gh := g.2.1
  have gl := g.2.2.2.2.2.1
  have gc := cells48 g
  refine AC.of (by decide) rfl (Nat.le_of_ble_eq_true rfl) (fun X => ?_)
  show AW X mX5_toldPlace (d + 4) 0 0 0 [(0, .ref 66), (1, .int (nI x)), (2, .int (nI p)), (3, .int (nI w))] [] h (Qe (some (.int ((plL s (mq s x p)).getD w 0))) h)
  refine a_iload_n (pc := 0) (i := 3) dX5_toldPlace_0 rfl rfl ?_
  rcases (by omega : w = 0 ∨ w = 1 ∨ w = 2 ∨ w = 3 ∨ w = 4) with rfl | rfl | rfl | rfl | rfl
  · refine a_tableIn (pc := 1) (tgt := 32) dX5_toldPlace_1 (by decide) (by decide) rfl (by decide) ?_
    refine a_aload_n (pc := 32) (i := 0) dX5_toldPlace_32 rfl rfl ?_
    refine a_iload_n (pc := 33) (i := 1) dX5_toldPlace_33 rfl rfl ?_
    refine a_iload_n (pc := 34) (i := 2) dX5_toldPlace_34 rfl rfl ?_
    refine a_vV1 (pc := 35) (as := [.int (nI x), .int (nI p)]) (b := 66) (ci := 5) (v := .int (nI (mcl s x p))) (h' := h) dX5_toldPlace_35 (lc_RX5_178 rfl) ceX5_cellOf rfl (lt90 hn (shK_lt (show shK 66 = _ from rfl))) (s5_cellOf (d := d + 2) c g r hx hp) rfl rfl (Nat.le_of_ble_eq_true rfl) rfl ?_
    exact a_ireturn (pc := 38) dX5_toldPlace_38 rfl rfl (⟨by show _ = Sum.inl (some (Value.int (nI (qpl s (qcell s (mq s x p)))))); rw [mq_cell g hx hp, qpl_mb g (mcl_lt g hp)], rfl⟩)
  · refine a_tableIn (pc := 1) (tgt := 39) dX5_toldPlace_1 (by decide) (by decide) rfl (by decide) ?_
    refine a_aload_n (pc := 39) (i := 0) dX5_toldPlace_39 rfl rfl ?_
    refine a_iload_n (pc := 40) (i := 1) dX5_toldPlace_40 rfl rfl ?_
    refine a_iload_n (pc := 41) (i := 2) dX5_toldPlace_41 rfl rfl ?_
    refine a_vV1 (pc := 42) (as := [.int (nI x), .int (nI p)]) (b := 66) (ci := 5) (v := .int (nI (qsz s (mq s x p)))) (h' := h) dX5_toldPlace_42 (lc_RX5_188 rfl) ceX5_sizeAt rfl (lt90 hn (shK_lt (show shK 66 = _ from rfl))) (s5_sizeAt c g r hx hp) rfl rfl (Nat.le_of_ble_eq_true rfl) rfl ?_
    exact a_ireturn (pc := 45) dX5_toldPlace_45 rfl rfl (⟨rfl, rfl⟩)
  · refine a_tableIn (pc := 1) (tgt := 46) dX5_toldPlace_1 (by decide) (by decide) rfl (by decide) ?_
    refine a_aload_n (pc := 46) (i := 0) dX5_toldPlace_46 rfl rfl ?_
    refine a_iload_n (pc := 47) (i := 2) dX5_toldPlace_47 rfl rfl ?_
    refine a_vV1 (pc := 48) (as := [.int (nI p)]) (b := 66) (ci := 5) (v := .int (nI (mbh s p))) (h' := h) dX5_toldPlace_48 (lc_RX5_175 rfl) ceX5_behind rfl (lt90 hn (shK_lt (show shK 66 = _ from rfl))) (s5_behind c g r hp) rfl rfl (Nat.le_of_ble_eq_true rfl) rfl ?_
    exact a_ireturn (pc := 51) dX5_toldPlace_51 rfl rfl (⟨by show _ = Sum.inl (some (Value.int (nI (qpl s (qbh s (mq s x p)))))); rw [mq_bh g hx hp, (mq_ok g (x := 1 - x) (by omega) (mbh_ok g hp).1).2.2.2.2.2], rfl⟩)
  · refine a_tableIn (pc := 1) (tgt := 52) dX5_toldPlace_1 (by decide) (by decide) rfl (by decide) ?_
    refine a_aload_n (pc := 52) (i := 0) dX5_toldPlace_52 rfl rfl ?_
    refine a_iload_n (pc := 53) (i := 1) dX5_toldPlace_53 rfl rfl ?_
    refine a_iload_n (pc := 54) (i := 2) dX5_toldPlace_54 rfl rfl ?_
    refine a_vV1 (pc := 55) (as := [.int (nI x), .int (nI p)]) (b := 66) (ci := 5) (v := .int (bi (qcu s (mq s x p)))) (h' := h) dX5_toldPlace_55 (lc_RX5_191 rfl) ceX5_canUse rfl (lt90 hn (shK_lt (show shK 66 = _ from rfl))) (s5_canUse (d := d) c g r hx hp) rfl rfl (Nat.le_of_ble_eq_true rfl) rfl ?_
    refine b_if_eq (pc := 58) (tgt := 65) dX5_toldPlace_58 (by decide) (fun c58 => ?_) (fun c58 => ?_)
    · skip
      refine a_iconst (pc := 65) (v := nI 0) dX5_toldPlace_65 (by decide) ?_
      exact a_ireturn (pc := 66) dX5_toldPlace_66 rfl rfl (⟨by show _ = Sum.inl (some (Value.int (bi (qcu s (mq s x p))))); rw [bi_f c58]; rfl, rfl⟩)
    · skip
      refine a_iconst (pc := 61) (v := nI 1) dX5_toldPlace_61 (by decide) ?_
      refine a_goto (pc := 62) (tgt := 66) dX5_toldPlace_62 (by decide) ?_
      exact a_ireturn (pc := 66) dX5_toldPlace_66 rfl rfl (⟨by show _ = Sum.inl (some (Value.int (bi (qcu s (mq s x p))))); rw [bi_t c58]; rfl, rfl⟩)
  · refine a_tableOut (pc := 1) (tgt := 67) dX5_toldPlace_1 (by decide) (by decide) ?_
    refine a_aload_n (pc := 67) (i := 0) dX5_toldPlace_67 rfl rfl ?_
    refine a_iload_n (pc := 68) (i := 1) dX5_toldPlace_68 rfl rfl ?_
    refine a_iload_n (pc := 69) (i := 2) dX5_toldPlace_69 rfl rfl ?_
    refine a_vV1 (pc := 70) (as := [.int (nI x), .int (nI p)]) (b := 66) (ci := 5) (v := .int (qlt s (mq s x p))) (h' := h) dX5_toldPlace_70 (lc_RX5_181 rfl) ceX5_letterAt rfl (lt90 hn (shK_lt (show shK 66 = _ from rfl))) (s5_letterAt c g r hx hp) rfl rfl (Nat.le_of_ble_eq_true rfl) rfl ?_
    refine a_iconst (pc := 73) (v := (-1)) dX5_toldPlace_73 (by decide) ?_
    refine a_icmp_ne (pc := 74) (tgt := 81) dX5_toldPlace_74 (by decide) (fun c74 => ?_) (fun c74 => ?_)
    · skip
      refine a_aload_n (pc := 81) (i := 0) dX5_toldPlace_81 rfl rfl ?_
      refine a_aload_n (pc := 82) (i := 0) dX5_toldPlace_82 rfl rfl ?_
      refine a_iload_n (pc := 83) (i := 1) dX5_toldPlace_83 rfl rfl ?_
      refine a_iload_n (pc := 84) (i := 2) dX5_toldPlace_84 rfl rfl ?_
      refine a_vV1 (pc := 85) (as := [.int (nI x), .int (nI p)]) (b := 66) (ci := 5) (v := .int (qlt s (mq s x p))) (h' := h) dX5_toldPlace_85 (lc_RX5_181 rfl) ceX5_letterAt rfl (lt90 hn (shK_lt (show shK 66 = _ from rfl))) (s5_letterAt c g r hx hp) rfl rfl (Nat.le_of_ble_eq_true rfl) rfl ?_
      refine a_vV1 (pc := 88) (as := [.int (qlt s (mq s x p))]) (b := 66) (ci := 5) (v := .int (nI (inMs s (qlt s (mq s x p))))) (h' := h) dX5_toldPlace_88 (lc_RX5_272 rfl) ceX5_inMessage rfl (lt90 hn (shK_lt (show shK 66 = _ from rfl))) (s5_inMessage c g r) rfl rfl (Nat.le_of_ble_eq_true rfl) rfl ?_
      exact a_ireturn (pc := 91) dX5_toldPlace_91 rfl rfl (⟨rfl, rfl⟩)
    · skip
      refine a_iconst (pc := 77) (v := nI 0) dX5_toldPlace_77 (by decide) ?_
      refine a_goto (pc := 78) (tgt := 91) dX5_toldPlace_78 (by decide) ?_
      exact a_ireturn (pc := 91) dX5_toldPlace_91 rfl rfl (⟨by show _ = Sum.inl (some (Value.int (nI (inMs s (qlt s (mq s x p)))))); rw [c74, inMs_m1 g], rfl⟩)
