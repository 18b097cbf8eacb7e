/-! the class LetterCuts: what asks without a plan -/
def Qr (v : Res) (h : AH) : Res → AH → Prop := fun r h2 => r = v ∧ h2 = h
def ri (x : Int32) : Res := .inl (some (.int x))
noncomputable def sel {α : Type} (w : Int32) (l : List α) (z : α) : α := cif (w.toInt < 0) z (l.getD w.toInt.toNat z)
theorem sel_in {α : Type} {k : Nat} {l : List α} {z : α} (h : k < 2 ^ 31) : sel (nI k) l z = l.getD k z := by
  have e := nI_toInt h
  unfold sel
  rw [e, cif_f (by omega)]; rfl
theorem sel_out {α : Type} {w : Int32} {l : List α} {z : α} (h : w.toInt < 0 ∨ (l.length : Int) - 1 < w.toInt) : sel w l z = z := by
  unfold sel
  rcases Classical.em (w.toInt < 0) with q | q
  · rw [cif_t q]
  · rw [cif_f q, List.getD_eq_getElem?_getD, List.getElem?_eq_none (by omega)]; rfl
theorem tb_n (N : Nat) (hN : N < 100) (x : Int32) : (∃ k, k ≤ N ∧ x = nI k) ∨ (x.toInt < 0 ∨ (N : Int) < x.toInt) := by
  rcases Classical.em (x < 0) with q | q
  · exact Or.inr (Or.inl (Int32.lt_iff_toInt_lt.mp q))
  · obtain ⟨n, hn, rfl⟩ := nI_of q
    rw [nI_toInt hn]
    rcases Nat.lt_or_ge N n with z | z
    · exact Or.inr (Or.inr (by omega))
    · exact Or.inl ⟨n, z, rfl⟩
theorem tb_2 (x : Int32) : x = nI 0 ∨ x = nI 1 ∨ x = nI 2 ∨ (x.toInt < 0 ∨ 2 < x.toInt) := by
  rcases tb_n 2 (by omega) x with ⟨k, hk, rfl⟩ | h
  · rcases (show k = 0 ∨ k = 1 ∨ k = 2 by omega) with rfl | rfl | rfl <;> simp
  · iterate 3 right
    exact h
theorem tb_3 (x : Int32) : x = nI 0 ∨ x = nI 1 ∨ x = nI 2 ∨ x = nI 3 ∨ (x.toInt < 0 ∨ 3 < x.toInt) := by
  rcases tb_n 3 (by omega) x with ⟨k, hk, rfl⟩ | h
  · rcases (show k = 0 ∨ k = 1 ∨ k = 2 ∨ k = 3 by omega) with rfl | rfl | rfl | rfl <;> simp
  · iterate 4 right
    exact h
theorem tb_4 (x : Int32) : x = nI 0 ∨ x = nI 1 ∨ x = nI 2 ∨ x = nI 3 ∨ x = nI 4 ∨ (x.toInt < 0 ∨ 4 < x.toInt) := by
  rcases tb_n 4 (by omega) x with ⟨k, hk, rfl⟩ | h
  · rcases (show k = 0 ∨ k = 1 ∨ k = 2 ∨ k = 3 ∨ k = 4 by omega) with rfl | rfl | rfl | rfl | rfl <;> simp
  · iterate 5 right
    exact h
theorem tb_7 (x : Int32) : x = nI 0 ∨ x = nI 1 ∨ x = nI 2 ∨ x = nI 3 ∨ x = nI 4 ∨ x = nI 5 ∨ x = nI 6 ∨ x = nI 7 ∨ (x.toInt < 0 ∨ 7 < x.toInt) := by
  rcases tb_n 7 (by omega) x with ⟨k, hk, rfl⟩ | h
  · rcases (show k = 0 ∨ k = 1 ∨ k = 2 ∨ k = 3 ∨ k = 4 ∨ k = 5 ∨ k = 6 ∨ k = 7 by omega) with rfl | rfl | rfl | rfl | rfl | rfl | rfl | rfl <;> simp
  · iterate 8 right
    exact h
/-- the letter of a spot; -2 where its cell is gone -/
noncomputable def flet (s : SH) (q : Nat) : Int32 := cif (gnB s (qcell s q)) (-2) (qlt s q)
def plOk (s : SH) (x y : Int32) : Prop := (x = 0 ∨ x = 1) ∧ ∃ n, n < sCells s ∧ y = nI n
def spt (s : SH) (x y : Int32) : Nat := 48 * i2n x + 8 * (i2n y / sW s) + i2n y % sW s
noncomputable def rLetter (s : SH) (x y : Int32) : Res := cif (plOk s x y) (ri (flet s (spt s x y))) (.inr eIO)
noncomputable def rPlace (s : SH) (x y w : Int32) : Res := cif (plOk s x y) (sel w [ri (nI (qpl s (qcell s (spt s x y)))), ri (nI (qsz s (spt s x y))), ri (nI (qpl s (qbh s (spt s x y)))), ri (bi (qcu s (spt s x y))), ri (nI (inMs s (qlt s (spt s x y))))] (.inr eIA)) (.inr eIO)
/-- the cells that a letter can be cut from -/
def cwP (s : SH) (x : Int32) : Nat → Prop := fun b => ∃ q, q < 96 ∧ (qlt s q = x ∧ qcu s q) ∧ b = qcell s q
noncomputable def rStock (s : SH) (x w : Int32) : Res := cif (∃ n, n < 26 ∧ x = nI n) (sel w [ri (nI (cnt (fun q => qlt s q = x ∧ qcu s q) 96)), ri (nI (cnt (cwP s x) 64)), ri (nI (inMs s x))] (.inr eIA)) (.inr eIA)
noncomputable def rMessage (s : SH) (x : Int32) : Res := cif (∃ n, n < sLen s ∧ x = nI n) (ri (msA s (i2n x))) (.inr eNS)
noncomputable def rState (s : SH) (w : Int32) : Res := sel w [ri (nI (sW s)), ri (nI (sH s)), ri (nI (sS s)), ri (nI (nThere s)), ri (nI (sLen s)), ri (nI (sCu s)), ri (nI (sTk s)), ri (nI (cnt (qcu s) 96))] (.inr eIA)
def maxN (f : Nat → Nat) : Nat → Nat
  | 0 => 0
  | n + 1 => max (maxN f n) (f n)
theorem maxN_lt {f : Nat → Nat} {b : Nat} (hb : 0 < b) (h : ∀ i, f i < b) : ∀ n, maxN f n < b
  | 0 => hb
  | n + 1 => by have := maxN_lt hb h n; have := h n; show max _ _ < b; omega
noncomputable def rLongest (s : SH) (x : Int32) : Res := cif (∃ n, n < sLen s ∧ x = nI n) (ri (nI (maxN (fun q => qrun s (i2n x) q) 96))) (.inr eNS)
def usM (s : SH) (q : Nat) : Prop := qcu s q ∧ 0 < inMs s (qlt s q)
noncomputable def nClash (s : SH) : Nat := cnt (fun q => usM s q ∧ usM s (qbh s q)) 48
noncomputable def mset (D : Nat → Nat → Prop) : Nat → Nat × (Nat → Nat → Prop)
  | 0 => (0, fun _ _ => False)
  | k + 1 => cif (SD ((mset D k).1 + 1) (cset (mset D k).2 (mset D k).1 (D k))) ((mset D k).1 + 1, cset (mset D k).2 (mset D k).1 (D k)) (mset D k)
theorem mset_le (D : Nat → Nat → Prop) : ∀ k, (mset D k).1 ≤ k
  | 0 => Nat.le_refl _
  | k + 1 => by
    have := mset_le D k
    unfold mset
    rcases Classical.em (SD ((mset D k).1 + 1) (cset (mset D k).2 (mset D k).1 (D k))) with h | h
    · rw [cif_t h]; show (mset D k).1 + 1 ≤ k + 1; omega
    · rw [cif_f h]; omega
noncomputable def nMiss (s : SH) : Nat := sLen s - (mset (fun k => cwP s (msA s k)) (sLen s)).1
theorem spt_lt {s : SH} (g : GS s) {x y : Int32} (h : plOk s x y) : spt s x y < 96 ∧ spt s x y % 8 < sW s ∧ (∃ i, i < 2 ∧ x = nI i) ∧ ∃ n, n < sCells s ∧ y = nI n := by
  have gw := g.1
  have gh := g.2.1
  obtain ⟨hx, n, hn, rfl⟩ := h
  have h1 : n < 48 := Nat.lt_of_lt_of_le hn (Nat.mul_le_mul gw.2 gh.2)
  have h3 : n / sW s < sH s := Nat.div_lt_of_lt_mul hn
  have h2 := Nat.mod_lt n (show 0 < sW s by omega)
  have e : i2n (nI n) = n := i2n_nI (by omega)
  have key : ∀ i, i < 2 → x = nI i → spt s x (nI n) < 96 ∧ spt s x (nI n) % 8 < sW s := fun i hi hxi => by
    unfold spt
    rw [hxi, i2n_nI (by omega), e]
    omega
  rcases hx with rfl | rfl
  · exact ⟨(key 0 (by omega) rfl).1, (key 0 (by omega) rfl).2, ⟨0, by omega, rfl⟩, n, hn, rfl⟩
  · exact ⟨(key 1 (by omega) rfl).1, (key 1 (by omega) rfl).2, ⟨1, by omega, rfl⟩, n, hn, rfl⟩
theorem spt_n {s : SH} {i n : Nat} (hi : i < 2) (hn : n < 48) : spt s (nI i) (nI n) = 48 * i + 8 * (n / sW s) + n % sW s := by
  unfold spt; rw [i2n_nI (by omega), i2n_nI (by omega)]
set_option maxHeartbeats 4000000 in
set_option maxRecDepth 100000 in
theorem sp_letterOrGone {d : Nat} {h : AH} {s : SH} (c : CB h) (g : GS s) (r : CR h 2 s) {q : Nat} (hq : q < 96) (hc : q % 8 < sW s) : AC mX4_letterOrGone (d + 8) 0 0 [.ref 0, .int (nI q)] h (Qe (some (.int (flet s q))) h) := by
  have hn := c.1
  have gw := g.1
  have gh := g.2.1
  have gs := g.2.2.1
  have gl := g.2.2.2.2.2.1
  refine AC.of (by decide) rfl (Nat.le_of_ble_eq_true rfl) (fun X => ?_)
  show AW X mX4_letterOrGone (d + 8) 0 0 0 [(0, .ref 0), (1, .int (nI q))] [] h (Qe (some (.int (flet s q))) h)
  refine a_aload_n (pc := 0) (i := 0) dX4_letterOrGone_0 rfl rfl ?_
  refine a_getR (pc := 1) (ci := 4) (k := 3) (b := 2) dX4_letterOrGone_1 (lf_RX4_23 rfl) (by decide) rfl rfl (lt90 hn (shK_lt (show shK 0 = _ from rfl))) c.2.1.2.1 ?_
  refine a_aload_n (pc := 4) (i := 0) dX4_letterOrGone_4 rfl rfl ?_
  refine a_getR (pc := 5) (ci := 4) (k := 3) (b := 2) dX4_letterOrGone_5 (lf_RX4_23 rfl) (by decide) rfl rfl (lt90 hn (shK_lt (show shK 0 = _ from rfl))) c.2.1.2.1 ?_
  refine a_iload_n (pc := 8) (i := 1) dX4_letterOrGone_8 rfl rfl ?_
  refine a_vVN1 (pc := 9) (as := [.int (nI q)]) (b := 2) (ci := 3) (v := .int (nI (qcell s q))) (h' := h) dX4_letterOrGone_9 (lc_RX4_126 rfl) ceX3_cellOf rfl (lt90 hn (shK_lt (show shK 2 = _ from rfl))) (sp_cellOf c g r hq hc) rfl rfl (Nat.le_of_ble_eq_true rfl) rfl ?_
  refine a_vVN1 (pc := 12) (as := [.int (nI (qcell s q))]) (b := 2) (ci := 3) (v := .int (bi (¬ gnB s (qcell s q)))) (h' := h) dX4_letterOrGone_12 (lc_RX4_240 rfl) ceX3_isThere rfl (lt90 hn (shK_lt (show shK 2 = _ from rfl))) (sp_isThere c g r (qcell_lt g hq)) rfl rfl (Nat.le_of_ble_eq_true rfl) rfl ?_
  refine b_if_eq (pc := 15) (tgt := 29) dX4_letterOrGone_15 (by decide) (fun c15 => ?_) (fun c15 => ?_)
  · have hz : gnB s (qcell s q) := Classical.byContradiction c15
    refine a_bipush (pc := 29) (v := (-2)) dX4_letterOrGone_29 (by decide) ?_
    exact a_ireturn (pc := 31) dX4_letterOrGone_31 rfl rfl (⟨by rw [show flet s q = -2 from cif_t hz], rfl⟩)
  · skip
    refine a_aload_n (pc := 18) (i := 0) dX4_letterOrGone_18 rfl rfl ?_
    refine a_getR (pc := 19) (ci := 4) (k := 3) (b := 2) dX4_letterOrGone_19 (lf_RX4_23 rfl) (by decide) rfl rfl (lt90 hn (shK_lt (show shK 0 = _ from rfl))) c.2.1.2.1 ?_
    refine a_iload_n (pc := 22) (i := 1) dX4_letterOrGone_22 rfl rfl ?_
    refine a_vVN1 (pc := 23) (as := [.int (nI q)]) (b := 2) (ci := 3) (v := .int (qlt s q)) (h' := h) dX4_letterOrGone_23 (lc_RX4_142 rfl) ceX3_letterAt rfl (lt90 hn (shK_lt (show shK 2 = _ from rfl))) (sp_letterAt c g r hq) rfl rfl (Nat.le_of_ble_eq_true rfl) rfl ?_
    refine a_goto (pc := 26) (tgt := 31) dX4_letterOrGone_26 (by decide) ?_
    exact a_ireturn (pc := 31) dX4_letterOrGone_31 rfl rfl (⟨by rw [show flet s q = _ from cif_f c15], rfl⟩)
set_option maxHeartbeats 4000000 in
set_option maxRecDepth 100000 in
theorem sp_letter {d : Nat} {h : AH} {s : SH} (c : CB h) (g : GS s) (r : CR h 2 s) {x y : Int32} : AC mX4_letter (d + 10) 1 6 [.ref 0, .int x, .int y] h (Qr (rLetter s x y) h) := by
  have hn := c.1
  have gw := g.1
  have gh := g.2.1
  have gs := g.2.2.1
  have gl := g.2.2.2.2.2.1
  refine AC.of (by decide) rfl (Nat.le_of_ble_eq_true rfl) (fun X => ?_)
  show AW X mX4_letter (d + 10) 1 6 0 [(0, .ref 0), (1, .int x), (2, .int y)] [] h (Qr (rLetter s x y) h)
  refine a_aload_n (pc := 0) (i := 0) dX4_letter_0 rfl rfl ?_
  refine a_getR (pc := 1) (ci := 4) (k := 3) (b := 2) dX4_letter_1 (lf_RX4_23 rfl) (by decide) rfl rfl (lt90 hn (shK_lt (show shK 0 = _ from rfl))) c.2.1.2.1 ?_
  refine a_iload_n (pc := 4) (i := 1) dX4_letter_4 rfl rfl ?_
  refine a_iload_n (pc := 5) (i := 2) dX4_letter_5 rfl rfl ?_
  refine a_vVN1 (pc := 6) (as := [.int x, .int y]) (b := 2) (ci := 3) (v := .int (bi ((x = 0 ∨ x = 1) ∧ ∃ n, n < sCells s ∧ y = nI n))) (h' := h) dX4_letter_6 (lc_RX4_111 rfl) ceX3_hasPlace rfl (lt90 hn (shK_lt (show shK 2 = _ from rfl))) (sp_hasPlace c g r) rfl rfl (Nat.le_of_ble_eq_true rfl) rfl ?_
  refine b_if_ne (pc := 9) (tgt := 20) dX4_letter_9 (by decide) (fun c9 => ?_) (fun c9 => ?_)
  · skip
    obtain ⟨hq, hc, ⟨i, hi, rfl⟩, n, hnl, rfl⟩ := spt_lt g c9
    have hn48 : n < 48 := Nat.lt_of_lt_of_le hnl (Nat.mul_le_mul gw.2 gh.2)
    rw [spt_n hi hn48] at hq hc
    obtain ⟨q, hqe⟩ : ∃ q, q = 48 * i + 8 * (n / sW s) + n % sW s := ⟨_, rfl⟩
    rw [← hqe] at hq hc
    refine a_aload_n (pc := 20) (i := 0) dX4_letter_20 rfl rfl ?_
    refine a_aload_n (pc := 21) (i := 0) dX4_letter_21 rfl rfl ?_
    refine a_getR (pc := 22) (ci := 4) (k := 3) (b := 2) dX4_letter_22 (lf_RX4_23 rfl) (by decide) rfl rfl (lt90 hn (shK_lt (show shK 0 = _ from rfl))) c.2.1.2.1 ?_
    refine a_iload_n (pc := 25) (i := 1) dX4_letter_25 rfl rfl ?_
    refine a_iload_n (pc := 26) (i := 2) dX4_letter_26 rfl rfl ?_
    refine a_vVN1 (pc := 27) (as := [.int (nI i), .int (nI n)]) (b := 2) (ci := 3) (v := .int (nI q)) (h' := h) dX4_letter_27 (lc_RX4_118 rfl) ceX3_spotOf rfl (lt90 hn (shK_lt (show shK 2 = _ from rfl))) (by rw [hqe]; exact sp_spotOf c g r hi hnl) rfl rfl (Nat.le_of_ble_eq_true rfl) rfl ?_
    refine a_vV1 (pc := 30) (as := [.int (nI q)]) (b := 0) (ci := 4) (v := .int (flet s q)) (h' := h) dX4_letter_30 (lc_RX4_122 rfl) ceX4_letterOrGone rfl (lt90 hn (shK_lt (show shK 0 = _ from rfl))) (sp_letterOrGone c g r hq hc) rfl rfl (Nat.le_of_ble_eq_true rfl) rfl ?_
    exact a_ireturn (pc := 33) dX4_letter_33 rfl rfl (⟨by rw [show rLetter s (nI i) (nI n) = _ from cif_t c9, spt_n hi hn48, ← hqe]; rfl, rfl⟩)
  · skip
    exact a_throw (kc := 0) (ks := 0) th_X4_letter_12 (by omega) (Nat.le_of_ble_eq_true rfl) (⟨by rw [show rLetter s x y = _ from cif_f c9], rfl⟩)
set_option maxHeartbeats 4000000 in
set_option maxRecDepth 100000 in
theorem sp_place {d : Nat} {h : AH} {s : SH} (c : CB h) (g : GS s) (r : CR h 2 s) {x y w : Int32} : AC mX4_place (d + 10) 1 6 [.ref 0, .int x, .int y, .int w] h (Qr (rPlace s x y w) h) := by
  have hn := c.1
  have gw := g.1
  have gh := g.2.1
  have gs := g.2.2.1
  have gl := g.2.2.2.2.2.1
  refine AC.of (by decide) rfl (Nat.le_of_ble_eq_true rfl) (fun X => ?_)
  show AW X mX4_place (d + 10) 1 6 0 [(0, .ref 0), (1, .int x), (2, .int y), (3, .int w)] [] h (Qr (rPlace s x y w) h)
  refine a_aload_n (pc := 0) (i := 0) dX4_place_0 rfl rfl ?_
  refine a_getR (pc := 1) (ci := 4) (k := 3) (b := 2) dX4_place_1 (lf_RX4_23 rfl) (by decide) rfl rfl (lt90 hn (shK_lt (show shK 0 = _ from rfl))) c.2.1.2.1 ?_
  refine a_iload_n (pc := 4) (i := 1) dX4_place_4 rfl rfl ?_
  refine a_iload_n (pc := 5) (i := 2) dX4_place_5 rfl rfl ?_
  refine a_vVN1 (pc := 6) (as := [.int x, .int y]) (b := 2) (ci := 3) (v := .int (bi ((x = 0 ∨ x = 1) ∧ ∃ n, n < sCells s ∧ y = nI n))) (h' := h) dX4_place_6 (lc_RX4_111 rfl) ceX3_hasPlace rfl (lt90 hn (shK_lt (show shK 2 = _ from rfl))) (sp_hasPlace c g r) rfl rfl (Nat.le_of_ble_eq_true rfl) rfl ?_
  refine b_if_ne (pc := 9) (tgt := 20) dX4_place_9 (by decide) (fun c9 => ?_) (fun c9 => ?_)
  · skip
    obtain ⟨hq, hc, ⟨i, hi, rfl⟩, n, hnl, rfl⟩ := spt_lt g c9
    have hn48 : n < 48 := Nat.lt_of_lt_of_le hnl (Nat.mul_le_mul gw.2 gh.2)
    rw [spt_n hi hn48] at hq hc
    obtain ⟨q, hqe⟩ : ∃ q, q = 48 * i + 8 * (n / sW s) + n % sW s := ⟨_, rfl⟩
    rw [← hqe] at hq hc
    have hR : rPlace s (nI i) (nI n) w = _ := cif_t c9
    rw [spt_n hi hn48, ← hqe] at hR
    refine a_aload_n (pc := 20) (i := 0) dX4_place_20 rfl rfl ?_
    refine a_getR (pc := 21) (ci := 4) (k := 3) (b := 2) dX4_place_21 (lf_RX4_23 rfl) (by decide) rfl rfl (lt90 hn (shK_lt (show shK 0 = _ from rfl))) c.2.1.2.1 ?_
    refine a_iload_n (pc := 24) (i := 1) dX4_place_24 rfl rfl ?_
    refine a_iload_n (pc := 25) (i := 2) dX4_place_25 rfl rfl ?_
    refine a_vVN1 (pc := 26) (as := [.int (nI i), .int (nI n)]) (b := 2) (ci := 3) (v := .int (nI q)) (h' := h) dX4_place_26 (lc_RX4_118 rfl) ceX3_spotOf rfl (lt90 hn (shK_lt (show shK 2 = _ from rfl))) (by rw [hqe]; exact sp_spotOf c g r hi hnl) rfl rfl (Nat.le_of_ble_eq_true rfl) rfl ?_
    refine a_istore (pc := 29) (i := 4) (ls' := [(0, .ref 0), (1, .int (nI i)), (2, .int (nI n)), (3, .int w), (4, .int (nI q))]) dX4_place_29 (by decide) rfl ?_
    refine a_iload_n (pc := 31) (i := 3) dX4_place_31 rfl rfl ?_
    rcases tb_4 w with e0 | e1 | e2 | e3 | e4 | e
    · refine a_tableIn (pc := 32) (tgt := 68) dX4_place_32 (by rw [e0]; decide) (by rw [e0]; decide) (by rw [e0]; rfl) (by decide) ?_
      refine a_aload_n (pc := 68) (i := 0) dX4_place_68 rfl rfl ?_
      refine a_getR (pc := 69) (ci := 4) (k := 3) (b := 2) dX4_place_69 (lf_RX4_23 rfl) (by decide) rfl rfl (lt90 hn (shK_lt (show shK 0 = _ from rfl))) c.2.1.2.1 ?_
      refine a_aload_n (pc := 72) (i := 0) dX4_place_72 rfl rfl ?_
      refine a_getR (pc := 73) (ci := 4) (k := 3) (b := 2) dX4_place_73 (lf_RX4_23 rfl) (by decide) rfl rfl (lt90 hn (shK_lt (show shK 0 = _ from rfl))) c.2.1.2.1 ?_
      refine a_iload (pc := 76) (i := 4) dX4_place_76 rfl ?_
      refine a_vVN1 (pc := 78) (as := [.int (nI q)]) (b := 2) (ci := 3) (v := .int (nI (qcell s q))) (h' := h) dX4_place_78 (lc_RX4_126 rfl) ceX3_cellOf rfl (lt90 hn (shK_lt (show shK 2 = _ from rfl))) (sp_cellOf c g r hq hc) rfl rfl (Nat.le_of_ble_eq_true rfl) rfl ?_
      refine a_vVN1 (pc := 81) (as := [.int (nI (qcell s q))]) (b := 2) (ci := 3) (v := .int (nI (qpl s (qcell s q)))) (h' := h) dX4_place_81 (lc_RX4_129 rfl) ceX3_placeOf rfl (lt90 hn (shK_lt (show shK 2 = _ from rfl))) (sp_placeOf c g r (by have := qcell_lt g hq; omega)) rfl rfl (Nat.le_of_ble_eq_true rfl) rfl ?_
      exact a_ireturn (pc := 84) dX4_place_84 rfl rfl (⟨by rw [hR, e0, sel_in (by decide)]; rfl, rfl⟩)
    · refine a_tableIn (pc := 32) (tgt := 85) dX4_place_32 (by rw [e1]; decide) (by rw [e1]; decide) (by rw [e1]; rfl) (by decide) ?_
      refine a_aload_n (pc := 85) (i := 0) dX4_place_85 rfl rfl ?_
      refine a_getR (pc := 86) (ci := 4) (k := 3) (b := 2) dX4_place_86 (lf_RX4_23 rfl) (by decide) rfl rfl (lt90 hn (shK_lt (show shK 0 = _ from rfl))) c.2.1.2.1 ?_
      refine a_iload (pc := 89) (i := 4) dX4_place_89 rfl ?_
      refine a_vVN1 (pc := 91) (as := [.int (nI q)]) (b := 2) (ci := 3) (v := .int (nI (qsz s q))) (h' := h) dX4_place_91 (lc_RX4_132 rfl) ceX3_sizeAt rfl (lt90 hn (shK_lt (show shK 2 = _ from rfl))) (sp_sizeAt c g r hq) rfl rfl (Nat.le_of_ble_eq_true rfl) rfl ?_
      exact a_ireturn (pc := 94) dX4_place_94 rfl rfl (⟨by rw [hR, e1, sel_in (by decide)]; rfl, rfl⟩)
    · refine a_tableIn (pc := 32) (tgt := 95) dX4_place_32 (by rw [e2]; decide) (by rw [e2]; decide) (by rw [e2]; rfl) (by decide) ?_
      refine a_aload_n (pc := 95) (i := 0) dX4_place_95 rfl rfl ?_
      refine a_getR (pc := 96) (ci := 4) (k := 3) (b := 2) dX4_place_96 (lf_RX4_23 rfl) (by decide) rfl rfl (lt90 hn (shK_lt (show shK 0 = _ from rfl))) c.2.1.2.1 ?_
      refine a_aload_n (pc := 99) (i := 0) dX4_place_99 rfl rfl ?_
      refine a_getR (pc := 100) (ci := 4) (k := 3) (b := 2) dX4_place_100 (lf_RX4_23 rfl) (by decide) rfl rfl (lt90 hn (shK_lt (show shK 0 = _ from rfl))) c.2.1.2.1 ?_
      refine a_iload (pc := 103) (i := 4) dX4_place_103 rfl ?_
      refine a_vVN1 (pc := 105) (as := [.int (nI q)]) (b := 2) (ci := 3) (v := .int (nI (qbh s q))) (h' := h) dX4_place_105 (lc_RX4_135 rfl) ceX3_spotBehind rfl (lt90 hn (shK_lt (show shK 2 = _ from rfl))) (sp_spotBehind c g r hq hc) rfl rfl (Nat.le_of_ble_eq_true rfl) rfl ?_
      refine a_vVN1 (pc := 108) (as := [.int (nI (qbh s q))]) (b := 2) (ci := 3) (v := .int (nI (qpl s (qbh s q)))) (h' := h) dX4_place_108 (lc_RX4_129 rfl) ceX3_placeOf rfl (lt90 hn (shK_lt (show shK 2 = _ from rfl))) (sp_placeOf c g r (by unfold qbh; split <;> omega)) rfl rfl (Nat.le_of_ble_eq_true rfl) rfl ?_
      exact a_ireturn (pc := 111) dX4_place_111 rfl rfl (⟨by rw [hR, e2, sel_in (by decide)]; rfl, rfl⟩)
    · refine a_tableIn (pc := 32) (tgt := 112) dX4_place_32 (by rw [e3]; decide) (by rw [e3]; decide) (by rw [e3]; rfl) (by decide) ?_
      refine a_aload_n (pc := 112) (i := 0) dX4_place_112 rfl rfl ?_
      refine a_getR (pc := 113) (ci := 4) (k := 3) (b := 2) dX4_place_113 (lf_RX4_23 rfl) (by decide) rfl rfl (lt90 hn (shK_lt (show shK 0 = _ from rfl))) c.2.1.2.1 ?_
      refine a_iload (pc := 116) (i := 4) dX4_place_116 rfl ?_
      refine a_vVN1 (pc := 118) (as := [.int (nI q)]) (b := 2) (ci := 3) (v := .int (bi (qcu s q))) (h' := h) dX4_place_118 (lc_RX4_138 rfl) ceX3_canUse rfl (lt90 hn (shK_lt (show shK 2 = _ from rfl))) (sp_canUse c g r hq) rfl rfl (Nat.le_of_ble_eq_true rfl) rfl ?_
      refine b_if_eq (pc := 121) (tgt := 128) dX4_place_121 (by decide) (fun c121 => ?_) (fun c121 => ?_)
      · skip
        refine a_iconst (pc := 128) (v := nI 0) dX4_place_128 (by decide) ?_
        exact a_ireturn (pc := 129) dX4_place_129 rfl rfl (⟨by rw [hR, e3, sel_in (by decide)]; show _ = ri (bi (qcu s q)); rw [bi_f c121]; rfl, rfl⟩)
      · skip
        refine a_iconst (pc := 124) (v := nI 1) dX4_place_124 (by decide) ?_
        refine a_goto (pc := 125) (tgt := 129) dX4_place_125 (by decide) ?_
        exact a_ireturn (pc := 129) dX4_place_129 rfl rfl (⟨by rw [hR, e3, sel_in (by decide)]; show _ = ri (bi (qcu s q)); rw [bi_t c121]; rfl, rfl⟩)
    · refine a_tableIn (pc := 32) (tgt := 130) dX4_place_32 (by rw [e4]; decide) (by rw [e4]; decide) (by rw [e4]; rfl) (by decide) ?_
      refine a_aload_n (pc := 130) (i := 0) dX4_place_130 rfl rfl ?_
      refine a_getR (pc := 131) (ci := 4) (k := 3) (b := 2) dX4_place_131 (lf_RX4_23 rfl) (by decide) rfl rfl (lt90 hn (shK_lt (show shK 0 = _ from rfl))) c.2.1.2.1 ?_
      refine a_aload_n (pc := 134) (i := 0) dX4_place_134 rfl rfl ?_
      refine a_getR (pc := 135) (ci := 4) (k := 3) (b := 2) dX4_place_135 (lf_RX4_23 rfl) (by decide) rfl rfl (lt90 hn (shK_lt (show shK 0 = _ from rfl))) c.2.1.2.1 ?_
      refine a_iload (pc := 138) (i := 4) dX4_place_138 rfl ?_
      refine a_vVN1 (pc := 140) (as := [.int (nI q)]) (b := 2) (ci := 3) (v := .int (qlt s q)) (h' := h) dX4_place_140 (lc_RX4_142 rfl) ceX3_letterAt rfl (lt90 hn (shK_lt (show shK 2 = _ from rfl))) (sp_letterAt c g r hq) rfl rfl (Nat.le_of_ble_eq_true rfl) rfl ?_
      refine a_vVN1 (pc := 143) (as := [.int (qlt s q)]) (b := 2) (ci := 3) (v := .int (nI (inMs s (qlt s q)))) (h' := h) dX4_place_143 (lc_RX4_145 rfl) ceX3_countInMessage rfl (lt90 hn (shK_lt (show shK 2 = _ from rfl))) (sp_countInMessage c g r) rfl rfl (Nat.le_of_ble_eq_true rfl) rfl ?_
      exact a_ireturn (pc := 146) dX4_place_146 rfl rfl (⟨by rw [hR, e4, sel_in (by decide)]; rfl, rfl⟩)
    · refine a_tableOut (pc := 32) (tgt := 147) dX4_place_32 e (by decide) ?_
      exact a_throw (kc := 0) (ks := 0) th_X4_place_147 (by omega) (Nat.le_of_ble_eq_true rfl) (⟨by rw [hR, sel_out e], rfl⟩)
  · skip
    exact a_throw (kc := 0) (ks := 0) th_X4_place_12 (by omega) (Nat.le_of_ble_eq_true rfl) (⟨by rw [show rPlace s x y w = _ from cif_f c9], rfl⟩)
set_option maxHeartbeats 4000000 in
set_option maxRecDepth 100000 in
theorem sp_stock {d : Nat} {h : AH} {s : SH} (c : CB h) (g : GS s) (r : CR h 2 s) {x w : Int32} : AC mX4_stock (d + 10) 1 6 [.ref 0, .int x, .int w] h (Qr (rStock s x w) h) := by
  have hn := c.1
  have gw := g.1
  have gh := g.2.1
  have gs := g.2.2.1
  have gl := g.2.2.2.2.2.1
  refine AC.of (by decide) rfl (Nat.le_of_ble_eq_true rfl) (fun X => ?_)
  show AW X mX4_stock (d + 10) 1 6 0 [(0, .ref 0), (1, .int x), (2, .int w)] [] h (Qr (rStock s x w) h)
  refine a_iload_n (pc := 0) (i := 1) dX4_stock_0 rfl rfl ?_
  refine a_if_lt (pc := 1) (tgt := 10) dX4_stock_1 (by decide) (fun c1 => ?_) (fun c1 => ?_)
  · skip
    exact a_throw (kc := 0) (ks := 0) th_X4_stock_10 (by omega) (Nat.le_of_ble_eq_true rfl) (⟨by rw [show rStock s x w = _ from cif_f (fun ⟨n, h1, h2⟩ => nI_pos (n := n) (by omega) (h2 ▸ c1))], rfl⟩)
  · obtain ⟨n, hn1, rfl⟩ := nI_of c1
    refine a_iload_n (pc := 4) (i := 1) dX4_stock_4 rfl rfl ?_
    refine a_bipush (pc := 5) (v := nI 26) dX4_stock_5 (by decide) ?_
    refine n_icmp_lt (pc := 7) (tgt := 18) dX4_stock_7 (by decide) (by omega) (by omega) (fun c7 => ?_) (fun c7 => ?_)
    · have hR : rStock s (nI n) w = _ := cif_t ⟨n, c7, rfl⟩
      refine a_iload_n (pc := 18) (i := 2) dX4_stock_18 rfl rfl ?_
      rcases tb_2 w with e0 | e1 | e2 | e
      · refine a_tableIn (pc := 19) (tgt := 44) dX4_stock_19 (by rw [e0]; decide) (by rw [e0]; decide) (by rw [e0]; rfl) (by decide) ?_
        refine a_aload_n (pc := 44) (i := 0) dX4_stock_44 rfl rfl ?_
        refine a_getR (pc := 45) (ci := 4) (k := 3) (b := 2) dX4_stock_45 (lf_RX4_23 rfl) (by decide) rfl rfl (lt90 hn (shK_lt (show shK 0 = _ from rfl))) c.2.1.2.1 ?_
        refine a_iload_n (pc := 48) (i := 1) dX4_stock_48 rfl rfl ?_
        refine a_vVN1 (pc := 49) (as := [.int (nI n)]) (b := 2) (ci := 3) (v := .int (nI (cnt (fun q => qlt s q = nI n ∧ qcu s q) 96))) (h' := h) dX4_stock_49 (lc_RX4_148 rfl) ceX3_countUsableOf rfl (lt90 hn (shK_lt (show shK 2 = _ from rfl))) (sp_countUsableOf c g r) rfl rfl (Nat.le_of_ble_eq_true rfl) rfl ?_
        exact a_ireturn (pc := 52) dX4_stock_52 rfl rfl (⟨by rw [hR, e0, sel_in (by decide)]; rfl, rfl⟩)
      · refine a_tableIn (pc := 19) (tgt := 53) dX4_stock_19 (by rw [e1]; decide) (by rw [e1]; decide) (by rw [e1]; rfl) (by decide) ?_
        refine a_aload_n (pc := 53) (i := 0) dX4_stock_53 rfl rfl ?_
        refine a_getR (pc := 54) (ci := 4) (k := 3) (b := 2) dX4_stock_54 (lf_RX4_23 rfl) (by decide) rfl rfl (lt90 hn (shK_lt (show shK 0 = _ from rfl))) c.2.1.2.1 ?_
        refine a_iload_n (pc := 57) (i := 1) dX4_stock_57 rfl rfl ?_
        refine a_vVN1 (pc := 58) (as := [.int (nI n)]) (b := 2) (ci := 3) (v := .long (mkL (cwP s (nI n)))) (h' := h) dX4_stock_58 (lc_RX4_151 rfl) ceX3_cellsWith rfl (lt90 hn (shK_lt (show shK 2 = _ from rfl))) (sp_cellsWith c g r) rfl rfl (Nat.le_of_ble_eq_true rfl) rfl ?_
        refine a_vS1 (pc := 61) (as := [.long (mkL (cwP s (nI n)))]) (v := .int (nI (cnt (cwP s (nI n)) 64))) (h' := h) dX4_stock_61 (lc_RX4_155 rfl) ceJ13_bitCount_95d88 sp_bitCount rfl rfl (Nat.le_of_ble_eq_true rfl) rfl ?_
        exact a_ireturn (pc := 64) dX4_stock_64 rfl rfl (⟨by rw [hR, e1, sel_in (by decide)]; rfl, rfl⟩)
      · refine a_tableIn (pc := 19) (tgt := 65) dX4_stock_19 (by rw [e2]; decide) (by rw [e2]; decide) (by rw [e2]; rfl) (by decide) ?_
        refine a_aload_n (pc := 65) (i := 0) dX4_stock_65 rfl rfl ?_
        refine a_getR (pc := 66) (ci := 4) (k := 3) (b := 2) dX4_stock_66 (lf_RX4_23 rfl) (by decide) rfl rfl (lt90 hn (shK_lt (show shK 0 = _ from rfl))) c.2.1.2.1 ?_
        refine a_iload_n (pc := 69) (i := 1) dX4_stock_69 rfl rfl ?_
        refine a_vVN1 (pc := 70) (as := [.int (nI n)]) (b := 2) (ci := 3) (v := .int (nI (inMs s (nI n)))) (h' := h) dX4_stock_70 (lc_RX4_145 rfl) ceX3_countInMessage rfl (lt90 hn (shK_lt (show shK 2 = _ from rfl))) (sp_countInMessage c g r) rfl rfl (Nat.le_of_ble_eq_true rfl) rfl ?_
        exact a_ireturn (pc := 73) dX4_stock_73 rfl rfl (⟨by rw [hR, e2, sel_in (by decide)]; rfl, rfl⟩)
      · refine a_tableOut (pc := 19) (tgt := 74) dX4_stock_19 e (by decide) ?_
        exact a_throw (kc := 0) (ks := 0) th_X4_stock_74 (by omega) (Nat.le_of_ble_eq_true rfl) (⟨by rw [hR, sel_out e], rfl⟩)
    · skip
      exact a_throw (kc := 0) (ks := 0) th_X4_stock_10 (by omega) (Nat.le_of_ble_eq_true rfl) (⟨by rw [show rStock s (nI n) w = _ from cif_f (fun ⟨m, h1, h2⟩ => by have := (nI_eq hn1 (by omega)).mp h2; omega)], rfl⟩)
set_option maxHeartbeats 4000000 in
set_option maxRecDepth 100000 in
theorem sp_message {d : Nat} {h : AH} {s : SH} (c : CB h) (g : GS s) (r : CR h 2 s) {x : Int32} : AC mX4_message (d + 10) 1 6 [.ref 0, .int x] h (Qr (rMessage s x) h) := by
  have hn := c.1
  have gw := g.1
  have gh := g.2.1
  have gs := g.2.2.1
  have gl := g.2.2.2.2.2.1
  refine AC.of (by decide) rfl (Nat.le_of_ble_eq_true rfl) (fun X => ?_)
  show AW X mX4_message (d + 10) 1 6 0 [(0, .ref 0), (1, .int x)] [] h (Qr (rMessage s x) h)
  refine a_aload_n (pc := 0) (i := 0) dX4_message_0 rfl rfl ?_
  refine a_getR (pc := 1) (ci := 4) (k := 3) (b := 2) dX4_message_1 (lf_RX4_23 rfl) (by decide) rfl rfl (lt90 hn (shK_lt (show shK 0 = _ from rfl))) c.2.1.2.1 ?_
  refine a_iload_n (pc := 4) (i := 1) dX4_message_4 rfl rfl ?_
  refine a_vVN1 (pc := 5) (as := [.int x]) (b := 2) (ci := 3) (v := .int (bi (∃ n, n < sLen s ∧ x = nI n))) (h' := h) dX4_message_5 (lc_RX4_161 rfl) ceX3_hasMessageLetter rfl (lt90 hn (shK_lt (show shK 2 = _ from rfl))) (sp_hasMsgI c g r) rfl rfl (Nat.le_of_ble_eq_true rfl) rfl ?_
  refine b_if_ne (pc := 8) (tgt := 19) dX4_message_8 (by decide) (fun c8 => ?_) (fun c8 => ?_)
  · have hR : rMessage s x = _ := cif_t c8
    obtain ⟨n, hn1, rfl⟩ := c8
    refine a_aload_n (pc := 19) (i := 0) dX4_message_19 rfl rfl ?_
    refine a_getR (pc := 20) (ci := 4) (k := 3) (b := 2) dX4_message_20 (lf_RX4_23 rfl) (by decide) rfl rfl (lt90 hn (shK_lt (show shK 0 = _ from rfl))) c.2.1.2.1 ?_
    refine a_iload_n (pc := 23) (i := 1) dX4_message_23 rfl rfl ?_
    refine a_vVN1 (pc := 24) (as := [.int (nI n)]) (b := 2) (ci := 3) (v := .int (msA s n)) (h' := h) dX4_message_24 (lc_RX4_167 rfl) ceX3_messageAt rfl (lt90 hn (shK_lt (show shK 2 = _ from rfl))) (sp_messageAt c g r (by omega)) rfl rfl (Nat.le_of_ble_eq_true rfl) rfl ?_
    exact a_ireturn (pc := 27) dX4_message_27 rfl rfl (⟨by rw [hR, i2n_nI (by omega)]; rfl, rfl⟩)
  · skip
    exact a_throw (kc := 0) (ks := 0) th_X4_message_11 (by omega) (Nat.le_of_ble_eq_true rfl) (⟨by rw [show rMessage s x = _ from cif_f c8], rfl⟩)
set_option maxHeartbeats 4000000 in
set_option maxRecDepth 100000 in
theorem sp_state {d : Nat} {h : AH} {s : SH} (c : CB h) (g : GS s) (r : CR h 2 s) {w : Int32} : AC mX4_state (d + 10) 1 6 [.ref 0, .int w] h (Qr (rState s w) h) := by
  have hn := c.1
  have gw := g.1
  have gh := g.2.1
  have gs := g.2.2.1
  have gl := g.2.2.2.2.2.1
  refine AC.of (by decide) rfl (Nat.le_of_ble_eq_true rfl) (fun X => ?_)
  show AW X mX4_state (d + 10) 1 6 0 [(0, .ref 0), (1, .int w)] [] h (Qr (rState s w) h)
  refine a_iload_n (pc := 0) (i := 1) dX4_state_0 rfl rfl ?_
  rcases tb_7 w with e0 | e1 | e2 | e3 | e4 | e5 | e6 | e7 | e
  · refine a_tableIn (pc := 1) (tgt := 48) dX4_state_1 (by rw [e0]; decide) (by rw [e0]; decide) (by rw [e0]; rfl) (by decide) ?_
    refine a_aload_n (pc := 48) (i := 0) dX4_state_48 rfl rfl ?_
    refine a_getR (pc := 49) (ci := 4) (k := 3) (b := 2) dX4_state_49 (lf_RX4_23 rfl) (by decide) rfl rfl (lt90 hn (shK_lt (show shK 0 = _ from rfl))) c.2.1.2.1 ?_
    refine a_getI (pc := 52) (ci := 3) (k := 0) dX4_state_52 (lf_RX4_87 rfl) (by decide) rfl rfl (lt90 hn (shK_lt (show shK 2 = _ from rfl))) ?_
    refine a_top (show (.int (hI h 2 0) : Value) = .int (nI (sW s)) from congrArg Value.int r.1.1) ?_
    exact a_ireturn (pc := 55) dX4_state_55 rfl rfl (⟨by unfold rState; rw [e0, sel_in (by decide)]; rfl, rfl⟩)
  · refine a_tableIn (pc := 1) (tgt := 56) dX4_state_1 (by rw [e1]; decide) (by rw [e1]; decide) (by rw [e1]; rfl) (by decide) ?_
    refine a_aload_n (pc := 56) (i := 0) dX4_state_56 rfl rfl ?_
    refine a_getR (pc := 57) (ci := 4) (k := 3) (b := 2) dX4_state_57 (lf_RX4_23 rfl) (by decide) rfl rfl (lt90 hn (shK_lt (show shK 0 = _ from rfl))) c.2.1.2.1 ?_
    refine a_getI (pc := 60) (ci := 3) (k := 1) dX4_state_60 (lf_RX4_90 rfl) (by decide) rfl rfl (lt90 hn (shK_lt (show shK 2 = _ from rfl))) ?_
    refine a_top (show (.int (hI h 2 1) : Value) = .int (nI (sH s)) from congrArg Value.int r.1.2.1) ?_
    exact a_ireturn (pc := 63) dX4_state_63 rfl rfl (⟨by unfold rState; rw [e1, sel_in (by decide)]; rfl, rfl⟩)
  · refine a_tableIn (pc := 1) (tgt := 64) dX4_state_1 (by rw [e2]; decide) (by rw [e2]; decide) (by rw [e2]; rfl) (by decide) ?_
    refine a_aload_n (pc := 64) (i := 0) dX4_state_64 rfl rfl ?_
    refine a_getR (pc := 65) (ci := 4) (k := 3) (b := 2) dX4_state_65 (lf_RX4_23 rfl) (by decide) rfl rfl (lt90 hn (shK_lt (show shK 0 = _ from rfl))) c.2.1.2.1 ?_
    refine a_getI (pc := 68) (ci := 3) (k := 2) dX4_state_68 (lf_RX4_93 rfl) (by decide) rfl rfl (lt90 hn (shK_lt (show shK 2 = _ from rfl))) ?_
    refine a_top (show (.int (hI h 2 2) : Value) = .int (nI (sS s)) from congrArg Value.int r.1.2.2.1) ?_
    exact a_ireturn (pc := 71) dX4_state_71 rfl rfl (⟨by unfold rState; rw [e2, sel_in (by decide)]; rfl, rfl⟩)
  · refine a_tableIn (pc := 1) (tgt := 72) dX4_state_1 (by rw [e3]; decide) (by rw [e3]; decide) (by rw [e3]; rfl) (by decide) ?_
    refine a_aload_n (pc := 72) (i := 0) dX4_state_72 rfl rfl ?_
    refine a_getR (pc := 73) (ci := 4) (k := 3) (b := 2) dX4_state_73 (lf_RX4_23 rfl) (by decide) rfl rfl (lt90 hn (shK_lt (show shK 0 = _ from rfl))) c.2.1.2.1 ?_
    refine a_vVN1 (pc := 76) (as := []) (b := 2) (ci := 3) (v := .int (nI (nThere s))) (h' := h) dX4_state_76 (lc_RX4_96 rfl) ceX3_countThere rfl (lt90 hn (shK_lt (show shK 2 = _ from rfl))) (sp_countThere c g r) rfl rfl (Nat.le_of_ble_eq_true rfl) rfl ?_
    exact a_ireturn (pc := 79) dX4_state_79 rfl rfl (⟨by unfold rState; rw [e3, sel_in (by decide)]; rfl, rfl⟩)
  · refine a_tableIn (pc := 1) (tgt := 80) dX4_state_1 (by rw [e4]; decide) (by rw [e4]; decide) (by rw [e4]; rfl) (by decide) ?_
    refine a_aload_n (pc := 80) (i := 0) dX4_state_80 rfl rfl ?_
    refine a_getR (pc := 81) (ci := 4) (k := 3) (b := 2) dX4_state_81 (lf_RX4_23 rfl) (by decide) rfl rfl (lt90 hn (shK_lt (show shK 0 = _ from rfl))) c.2.1.2.1 ?_
    refine a_getI (pc := 84) (ci := 3) (k := 7) dX4_state_84 (lf_RX4_99 rfl) (by decide) rfl rfl (lt90 hn (shK_lt (show shK 2 = _ from rfl))) ?_
    refine a_top (show (.int (hI h 2 7) : Value) = .int (nI (sLen s)) from congrArg Value.int r.1.2.2.2.2.1) ?_
    exact a_ireturn (pc := 87) dX4_state_87 rfl rfl (⟨by unfold rState; rw [e4, sel_in (by decide)]; rfl, rfl⟩)
  · refine a_tableIn (pc := 1) (tgt := 88) dX4_state_1 (by rw [e5]; decide) (by rw [e5]; decide) (by rw [e5]; rfl) (by decide) ?_
    refine a_aload_n (pc := 88) (i := 0) dX4_state_88 rfl rfl ?_
    refine a_getR (pc := 89) (ci := 4) (k := 3) (b := 2) dX4_state_89 (lf_RX4_23 rfl) (by decide) rfl rfl (lt90 hn (shK_lt (show shK 0 = _ from rfl))) c.2.1.2.1 ?_
    refine a_getI (pc := 92) (ci := 3) (k := 8) dX4_state_92 (lf_RX4_102 rfl) (by decide) rfl rfl (lt90 hn (shK_lt (show shK 2 = _ from rfl))) ?_
    refine a_top (show (.int (hI h 2 8) : Value) = .int (nI (sCu s)) from congrArg Value.int r.1.2.2.2.2.2.1) ?_
    exact a_ireturn (pc := 95) dX4_state_95 rfl rfl (⟨by unfold rState; rw [e5, sel_in (by decide)]; rfl, rfl⟩)
  · refine a_tableIn (pc := 1) (tgt := 96) dX4_state_1 (by rw [e6]; decide) (by rw [e6]; decide) (by rw [e6]; rfl) (by decide) ?_
    refine a_aload_n (pc := 96) (i := 0) dX4_state_96 rfl rfl ?_
    refine a_getR (pc := 97) (ci := 4) (k := 3) (b := 2) dX4_state_97 (lf_RX4_23 rfl) (by decide) rfl rfl (lt90 hn (shK_lt (show shK 0 = _ from rfl))) c.2.1.2.1 ?_
    refine a_getI (pc := 100) (ci := 3) (k := 9) dX4_state_100 (lf_RX4_105 rfl) (by decide) rfl rfl (lt90 hn (shK_lt (show shK 2 = _ from rfl))) ?_
    refine a_top (show (.int (hI h 2 9) : Value) = .int (nI (sTk s)) from congrArg Value.int r.1.2.2.2.2.2.2) ?_
    exact a_ireturn (pc := 103) dX4_state_103 rfl rfl (⟨by unfold rState; rw [e6, sel_in (by decide)]; rfl, rfl⟩)
  · refine a_tableIn (pc := 1) (tgt := 104) dX4_state_1 (by rw [e7]; decide) (by rw [e7]; decide) (by rw [e7]; rfl) (by decide) ?_
    refine a_aload_n (pc := 104) (i := 0) dX4_state_104 rfl rfl ?_
    refine a_getR (pc := 105) (ci := 4) (k := 3) (b := 2) dX4_state_105 (lf_RX4_23 rfl) (by decide) rfl rfl (lt90 hn (shK_lt (show shK 0 = _ from rfl))) c.2.1.2.1 ?_
    refine a_vVN1 (pc := 108) (as := []) (b := 2) (ci := 3) (v := .int (nI (cnt (qcu s) 96))) (h' := h) dX4_state_108 (lc_RX4_108 rfl) ceX3_countUsable rfl (lt90 hn (shK_lt (show shK 2 = _ from rfl))) (sp_countUsable c g r) rfl rfl (Nat.le_of_ble_eq_true rfl) rfl ?_
    exact a_ireturn (pc := 111) dX4_state_111 rfl rfl (⟨by unfold rState; rw [e7, sel_in (by decide)]; rfl, rfl⟩)
  · refine a_tableOut (pc := 1) (tgt := 112) dX4_state_1 e (by decide) ?_
    exact a_throw (kc := 0) (ks := 0) th_X4_state_112 (by omega) (Nat.le_of_ble_eq_true rfl) (⟨by unfold rState; rw [sel_out e], rfl⟩)
set_option maxHeartbeats 4000000 in
set_option maxRecDepth 100000 in
theorem sp_longest {d : Nat} {h : AH} {s : SH} (c : CB h) (g : GS s) (r : CR h 2 s) {x : Int32} : AC mX4_longest (d + 10) 1 6 [.ref 0, .int x] h (Qr (rLongest s x) h) := by
  have hn := c.1
  have gw := g.1
  have gh := g.2.1
  have gs := g.2.2.1
  have gl := g.2.2.2.2.2.1
  refine AC.of (by decide) rfl (Nat.le_of_ble_eq_true rfl) (fun X => ?_)
  show AW X mX4_longest (d + 10) 1 6 0 [(0, .ref 0), (1, .int x)] [] h (Qr (rLongest s x) h)
  refine a_aload_n (pc := 0) (i := 0) dX4_longest_0 rfl rfl ?_
  refine a_getR (pc := 1) (ci := 4) (k := 3) (b := 2) dX4_longest_1 (lf_RX4_23 rfl) (by decide) rfl rfl (lt90 hn (shK_lt (show shK 0 = _ from rfl))) c.2.1.2.1 ?_
  refine a_iload_n (pc := 4) (i := 1) dX4_longest_4 rfl rfl ?_
  refine a_vVN1 (pc := 5) (as := [.int x]) (b := 2) (ci := 3) (v := .int (bi (∃ n, n < sLen s ∧ x = nI n))) (h' := h) dX4_longest_5 (lc_RX4_161 rfl) ceX3_hasMessageLetter rfl (lt90 hn (shK_lt (show shK 2 = _ from rfl))) (sp_hasMsgI c g r) rfl rfl (Nat.le_of_ble_eq_true rfl) rfl ?_
  refine b_if_ne (pc := 8) (tgt := 19) dX4_longest_8 (by decide) (fun c8 => ?_) (fun c8 => ?_)
  · have hR : rLongest s x = _ := cif_t c8
    obtain ⟨f, hf1, rfl⟩ := c8
    rw [i2n_nI (by omega)] at hR
    have hq9 : ∀ q, qrun s f q < 100 := fun q => by have := (runF_le (okr s f q) (sW s - q % 8) 0).2; show runF _ _ _ < 100; omega
    have LP : ∀ (fu : Nat) (i : Nat), i ≤ 96 → 96 - i < fu → AW X mX4_longest (d + 10) 1 6 23 [(0, .ref 0), (1, .int (nI f)), (2, .int (nI (maxN (fun q => qrun s f q) i))), (3, .int (nI i))] [] h (Qr (rLongest s (nI f)) h) := by
      intro fu
      induction fu with
      | zero => intro i hi hz; exact absurd hz (Nat.not_lt_zero _)
      | succ fu ih =>
        intro i hi hz
        have hmx := maxN_lt (f := fun q => qrun s f q) (by omega) hq9 i
        have hq10 := hq9 i
        refine a_iload_n (pc := 23) (i := 3) dX4_longest_23 rfl rfl ?_
        refine a_bipush (pc := 24) (v := nI 96) dX4_longest_24 (by decide) ?_
        refine n_icmp_ge (pc := 26) (tgt := 49) dX4_longest_26 (by decide) (by omega) (by omega) (fun c26 => ?_) (fun c26 => ?_)
        · have e : i = 96 := by omega
          subst e
          refine a_iload_n (pc := 49) (i := 2) dX4_longest_49 rfl rfl ?_
          exact a_ireturn (pc := 50) dX4_longest_50 rfl rfl (⟨by rw [hR]; rfl, rfl⟩)
        · skip
          refine a_iload_n (pc := 29) (i := 2) dX4_longest_29 rfl rfl ?_
          refine a_aload_n (pc := 30) (i := 0) dX4_longest_30 rfl rfl ?_
          refine a_getR (pc := 31) (ci := 4) (k := 3) (b := 2) dX4_longest_31 (lf_RX4_23 rfl) (by decide) rfl rfl (lt90 hn (shK_lt (show shK 0 = _ from rfl))) c.2.1.2.1 ?_
          refine a_iload_n (pc := 34) (i := 3) dX4_longest_34 rfl rfl ?_
          refine a_iload_n (pc := 35) (i := 1) dX4_longest_35 rfl rfl ?_
          refine a_vVN1 (pc := 36) (as := [.int (nI i), .int (nI f)]) (b := 2) (ci := 3) (v := .int (nI (qrun s f i))) (h' := h) dX4_longest_36 (lc_RX4_207 rfl) ceX3_lettersFrom rfl (lt90 hn (shK_lt (show shK 2 = _ from rfl))) (sp_lettersFrom c g r c26 (by omega)) rfl rfl (Nat.le_of_ble_eq_true rfl) rfl ?_
          refine n_mmax (pc := 39) dX4_longest_39 (lm_RX4_210 rfl) (Nat.le_of_ble_eq_true rfl) (by omega) (by omega) ?_
          refine a_istore_n (pc := 42) (i := 2) (ls' := [(0, .ref 0), (1, .int (nI f)), (2, .int (nI (max (maxN (fun q => qrun s f q) i) (qrun s f i)))), (3, .int (nI i))]) dX4_longest_42 rfl (by decide) rfl ?_
          refine n_iinc (pc := 43) (k := 1) (ls' := [(0, .ref 0), (1, .int (nI f)), (2, .int (nI (max (maxN (fun q => qrun s f q) i) (qrun s f i)))), (3, .int (nI (i + 1)))]) dX4_longest_43 rfl (by decide) (by decide) rfl ?_
          refine a_goto (pc := 46) (tgt := 23) dX4_longest_46 (by decide) ?_
          refine a_locs (ls' := [(0, .ref 0), (1, .int (nI f)), (2, .int (nI (maxN (fun q => qrun s f q) (i + 1)))), (3, .int (nI (i + 1)))]) rfl ?_
          exact ih (i + 1) (by omega) (by omega)
    refine a_iconst (pc := 19) (v := nI 0) dX4_longest_19 (by decide) ?_
    refine a_istore_n (pc := 20) (i := 2) (ls' := [(0, .ref 0), (1, .int (nI f)), (2, .int (nI 0))]) dX4_longest_20 rfl (by decide) rfl ?_
    refine a_iconst (pc := 21) (v := nI 0) dX4_longest_21 (by decide) ?_
    refine a_istore_n (pc := 22) (i := 3) (ls' := [(0, .ref 0), (1, .int (nI f)), (2, .int (nI 0)), (3, .int (nI 0))]) dX4_longest_22 rfl (by decide) rfl ?_
    refine a_locs (ls' := [(0, .ref 0), (1, .int (nI f)), (2, .int (nI (maxN (fun q => qrun s f q) 0))), (3, .int (nI 0))]) rfl ?_
    exact LP 97 0 (by omega) (by omega)
  · skip
    exact a_throw (kc := 0) (ks := 0) th_X4_longest_11 (by omega) (Nat.le_of_ble_eq_true rfl) (⟨by rw [show rLongest s x = _ from cif_f c8], rfl⟩)
set_option maxHeartbeats 4000000 in
set_option maxRecDepth 100000 in
theorem sp_isUsed {d : Nat} {h : AH} {s : SH} (c : CB h) (g : GS s) (r : CR h 2 s) {q : Nat} (hq : q < 96) : AC mX4_isUsedByMessage (d + 8) 0 0 [.ref 0, .int (nI q)] h (Qe (some (.int (bi (usM s q)))) h) := by
  have hn := c.1
  have gw := g.1
  have gh := g.2.1
  have gs := g.2.2.1
  have gl := g.2.2.2.2.2.1
  refine AC.of (by decide) rfl (Nat.le_of_ble_eq_true rfl) (fun X => ?_)
  show AW X mX4_isUsedByMessage (d + 8) 0 0 0 [(0, .ref 0), (1, .int (nI q))] [] h (Qe (some (.int (bi (usM s q)))) h)
  have hin : inMs s (qlt s q) < 100 := Nat.lt_of_le_of_lt (cnt_le _ _) (by omega)
  refine a_aload_n (pc := 0) (i := 0) dX4_isUsedByMessage_0 rfl rfl ?_
  refine a_getR (pc := 1) (ci := 4) (k := 3) (b := 2) dX4_isUsedByMessage_1 (lf_RX4_23 rfl) (by decide) rfl rfl (lt90 hn (shK_lt (show shK 0 = _ from rfl))) c.2.1.2.1 ?_
  refine a_iload_n (pc := 4) (i := 1) dX4_isUsedByMessage_4 rfl rfl ?_
  refine a_vVN1 (pc := 5) (as := [.int (nI q)]) (b := 2) (ci := 3) (v := .int (bi (qcu s q))) (h' := h) dX4_isUsedByMessage_5 (lc_RX4_138 rfl) ceX3_canUse rfl (lt90 hn (shK_lt (show shK 2 = _ from rfl))) (sp_canUse c g r hq) rfl rfl (Nat.le_of_ble_eq_true rfl) rfl ?_
  refine b_if_eq (pc := 8) (tgt := 33) dX4_isUsedByMessage_8 (by decide) (fun c8 => ?_) (fun c8 => ?_)
  · skip
    refine a_iconst (pc := 33) (v := nI 0) dX4_isUsedByMessage_33 (by decide) ?_
    exact a_ireturn (pc := 34) dX4_isUsedByMessage_34 rfl rfl (⟨by rw [bi_f (fun z => c8 z.1)]; rfl, rfl⟩)
  · skip
    refine a_aload_n (pc := 11) (i := 0) dX4_isUsedByMessage_11 rfl rfl ?_
    refine a_getR (pc := 12) (ci := 4) (k := 3) (b := 2) dX4_isUsedByMessage_12 (lf_RX4_23 rfl) (by decide) rfl rfl (lt90 hn (shK_lt (show shK 0 = _ from rfl))) c.2.1.2.1 ?_
    refine a_aload_n (pc := 15) (i := 0) dX4_isUsedByMessage_15 rfl rfl ?_
    refine a_getR (pc := 16) (ci := 4) (k := 3) (b := 2) dX4_isUsedByMessage_16 (lf_RX4_23 rfl) (by decide) rfl rfl (lt90 hn (shK_lt (show shK 0 = _ from rfl))) c.2.1.2.1 ?_
    refine a_iload_n (pc := 19) (i := 1) dX4_isUsedByMessage_19 rfl rfl ?_
    refine a_vVN1 (pc := 20) (as := [.int (nI q)]) (b := 2) (ci := 3) (v := .int (qlt s q)) (h' := h) dX4_isUsedByMessage_20 (lc_RX4_142 rfl) ceX3_letterAt rfl (lt90 hn (shK_lt (show shK 2 = _ from rfl))) (sp_letterAt c g r hq) rfl rfl (Nat.le_of_ble_eq_true rfl) rfl ?_
    refine a_vVN1 (pc := 23) (as := [.int (qlt s q)]) (b := 2) (ci := 3) (v := .int (nI (inMs s (qlt s q)))) (h' := h) dX4_isUsedByMessage_23 (lc_RX4_145 rfl) ceX3_countInMessage rfl (lt90 hn (shK_lt (show shK 2 = _ from rfl))) (sp_countInMessage c g r) rfl rfl (Nat.le_of_ble_eq_true rfl) rfl ?_
    refine n_if_le (pc := 26) (tgt := 33) dX4_isUsedByMessage_26 (by decide) (by omega) (fun c26 => ?_) (fun c26 => ?_)
    · skip
      refine a_iconst (pc := 33) (v := nI 0) dX4_isUsedByMessage_33 (by decide) ?_
      exact a_ireturn (pc := 34) dX4_isUsedByMessage_34 rfl rfl (⟨by rw [bi_f (fun z => absurd z.2 (by omega))]; rfl, rfl⟩)
    · skip
      refine a_iconst (pc := 29) (v := nI 1) dX4_isUsedByMessage_29 (by decide) ?_
      refine a_goto (pc := 30) (tgt := 34) dX4_isUsedByMessage_30 (by decide) ?_
      exact a_ireturn (pc := 34) dX4_isUsedByMessage_34 rfl rfl (⟨by rw [bi_t ⟨c8, c26⟩]; rfl, rfl⟩)
set_option maxHeartbeats 4000000 in
set_option maxRecDepth 100000 in
theorem sp_clashes {d : Nat} {h : AH} {s : SH} (c : CB h) (g : GS s) (r : CR h 2 s) : AC mX4_clashes (d + 9) 0 0 [.ref 0] h (Qe (some (.int (nI (nClash s)))) h) := by
  have hn := c.1
  have gw := g.1
  have gh := g.2.1
  have gs := g.2.2.1
  have gl := g.2.2.2.2.2.1
  refine AC.of (by decide) rfl (Nat.le_of_ble_eq_true rfl) (fun X => ?_)
  show AW X mX4_clashes (d + 9) 0 0 0 [(0, .ref 0)] [] h (Qe (some (.int (nI (nClash s)))) h)
  have LP : ∀ (fu : Nat) (i : Nat), i ≤ 48 → 48 - i < fu → AW X mX4_clashes (d + 9) 0 0 4 [(0, .ref 0), (1, .int (nI (cnt (fun q => usM s q ∧ usM s (qbh s q)) i))), (2, .int (nI i))] [] h (Qe (some (.int (nI (nClash s)))) h) := by
    intro fu
    induction fu with
    | zero => intro i hi hz; exact absurd hz (Nat.not_lt_zero _)
    | succ fu ih =>
      intro i hi hz
      have hcl := cnt_le (fun q => usM s q ∧ usM s (qbh s q)) i
      refine a_iload_n (pc := 4) (i := 2) dX4_clashes_4 rfl rfl ?_
      refine a_bipush (pc := 5) (v := nI 48) dX4_clashes_5 (by decide) ?_
      refine n_icmp_ge (pc := 7) (tgt := 42) dX4_clashes_7 (by decide) (by omega) (by omega) (fun c7 => ?_) (fun c7 => ?_)
      · have e : i = 48 := by omega
        subst e
        refine a_iload_n (pc := 42) (i := 1) dX4_clashes_42 rfl rfl ?_
        exact a_ireturn (pc := 43) dX4_clashes_43 rfl rfl (⟨rfl, rfl⟩)
      · skip
        refine a_aload_n (pc := 10) (i := 0) dX4_clashes_10 rfl rfl ?_
        refine a_iload_n (pc := 11) (i := 2) dX4_clashes_11 rfl rfl ?_
        refine a_vV1 (pc := 12) (as := [.int (nI i)]) (b := 0) (ci := 4) (v := .int (bi (usM s i))) (h' := h) dX4_clashes_12 (lc_RX4_213 rfl) ceX4_isUsedByMessage rfl (lt90 hn (shK_lt (show shK 0 = _ from rfl))) (sp_isUsed c g r (by omega)) rfl rfl (Nat.le_of_ble_eq_true rfl) rfl ?_
        refine b_if_eq (pc := 15) (tgt := 36) dX4_clashes_15 (by decide) (fun c15 => ?_) (fun c15 => ?_)
        · skip
          refine n_iinc (pc := 36) (k := 1) (ls' := [(0, .ref 0), (1, .int (nI (cnt (fun q => usM s q ∧ usM s (qbh s q)) i))), (2, .int (nI (i + 1)))]) dX4_clashes_36 rfl (by decide) (by decide) rfl ?_
          refine a_goto (pc := 39) (tgt := 4) dX4_clashes_39 (by decide) ?_
          refine a_locs (ls' := [(0, .ref 0), (1, .int (nI (cnt (fun q => usM s q ∧ usM s (qbh s q)) (i + 1)))), (2, .int (nI (i + 1)))]) (by rw [cnt_no (fun z => c15 z.1)]) ?_
          exact ih (i + 1) (by omega) (by omega)
        · have hh := (qhas_of_lt c15.1.1).2
          refine a_aload_n (pc := 18) (i := 0) dX4_clashes_18 rfl rfl ?_
          refine a_aload_n (pc := 19) (i := 0) dX4_clashes_19 rfl rfl ?_
          refine a_getR (pc := 20) (ci := 4) (k := 3) (b := 2) dX4_clashes_20 (lf_RX4_23 rfl) (by decide) rfl rfl (lt90 hn (shK_lt (show shK 0 = _ from rfl))) c.2.1.2.1 ?_
          refine a_iload_n (pc := 23) (i := 2) dX4_clashes_23 rfl rfl ?_
          refine a_vVN1 (pc := 24) (as := [.int (nI i)]) (b := 2) (ci := 3) (v := .int (nI (qbh s i))) (h' := h) dX4_clashes_24 (lc_RX4_135 rfl) ceX3_spotBehind rfl (lt90 hn (shK_lt (show shK 2 = _ from rfl))) (sp_spotBehind c g r (by omega) hh) rfl rfl (Nat.le_of_ble_eq_true rfl) rfl ?_
          refine a_vV1 (pc := 27) (as := [.int (nI (qbh s i))]) (b := 0) (ci := 4) (v := .int (bi (usM s (qbh s i)))) (h' := h) dX4_clashes_27 (lc_RX4_213 rfl) ceX4_isUsedByMessage rfl (lt90 hn (shK_lt (show shK 0 = _ from rfl))) (sp_isUsed c g r (by unfold qbh; split <;> omega)) rfl rfl (Nat.le_of_ble_eq_true rfl) rfl ?_
          refine b_if_eq (pc := 30) (tgt := 36) dX4_clashes_30 (by decide) (fun c30 => ?_) (fun c30 => ?_)
          · skip
            refine n_iinc (pc := 36) (k := 1) (ls' := [(0, .ref 0), (1, .int (nI (cnt (fun q => usM s q ∧ usM s (qbh s q)) i))), (2, .int (nI (i + 1)))]) dX4_clashes_36 rfl (by decide) (by decide) rfl ?_
            refine a_goto (pc := 39) (tgt := 4) dX4_clashes_39 (by decide) ?_
            refine a_locs (ls' := [(0, .ref 0), (1, .int (nI (cnt (fun q => usM s q ∧ usM s (qbh s q)) (i + 1)))), (2, .int (nI (i + 1)))]) (by rw [cnt_no (fun z => c30 z.2)]) ?_
            exact ih (i + 1) (by omega) (by omega)
          · skip
            refine n_iinc (pc := 33) (k := 1) (ls' := [(0, .ref 0), (1, .int (nI ((cnt (fun q => usM s q ∧ usM s (qbh s q)) i) + 1))), (2, .int (nI i))]) dX4_clashes_33 rfl (by decide) (by decide) rfl ?_
            refine n_iinc (pc := 36) (k := 1) (ls' := [(0, .ref 0), (1, .int (nI ((cnt (fun q => usM s q ∧ usM s (qbh s q)) i) + 1))), (2, .int (nI (i + 1)))]) dX4_clashes_36 rfl (by decide) (by decide) rfl ?_
            refine a_goto (pc := 39) (tgt := 4) dX4_clashes_39 (by decide) ?_
            refine a_locs (ls' := [(0, .ref 0), (1, .int (nI (cnt (fun q => usM s q ∧ usM s (qbh s q)) (i + 1)))), (2, .int (nI (i + 1)))]) (by rw [cnt_yes ⟨c15, c30⟩]) ?_
            exact ih (i + 1) (by omega) (by omega)
  refine a_iconst (pc := 0) (v := nI 0) dX4_clashes_0 (by decide) ?_
  refine a_istore_n (pc := 1) (i := 1) (ls' := [(0, .ref 0), (1, .int (nI 0))]) dX4_clashes_1 rfl (by decide) rfl ?_
  refine a_iconst (pc := 2) (v := nI 0) dX4_clashes_2 (by decide) ?_
  refine a_istore_n (pc := 3) (i := 2) (ls' := [(0, .ref 0), (1, .int (nI 0)), (2, .int (nI 0))]) dX4_clashes_3 rfl (by decide) rfl ?_
  refine a_locs (ls' := [(0, .ref 0), (1, .int (nI (cnt (fun q => usM s q ∧ usM s (qbh s q)) 0))), (2, .int (nI 0))]) rfl ?_
  exact LP 49 0 (by omega) (by omega)
