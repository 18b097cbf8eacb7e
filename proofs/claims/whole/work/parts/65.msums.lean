/-! the class LetterCutsModel: sizes of the best plan, checksum -/
/-- the size of a letter, as the plan takes it -/
noncomputable def geN (s : SH) : List (Nat × Nat) → Nat → Nat
  | [], _ => 0
  | (n, q) :: r, y => if y < n then qsz s q else geN s r (y - n)
theorem geN_off {s : SH} : ∀ {l : List (Nat × Nat)} {i j : Nat}, i < l.length → j < (l.getD i (0, 0)).1 → geN s l (offN l i + j) = qsz s (l.getD i (0, 0)).2
  | [], i, _, h, _ => absurd h (Nat.not_lt_zero _)
  | (n, q) :: r, 0, j, _, hj => by
    have hj : j < n := hj
    show (if 0 + j < n then qsz s q else _) = qsz s q
    rw [if_pos (by omega)]
  | (n, q) :: r, i + 1, j, hi, hj => by
    have hi : i + 1 < r.length + 1 := hi
    rw [offN_s]
    show (if n + offN r i + j < n then qsz s q else geN s r (n + offN r i + j - n)) = _
    rw [if_neg (by omega), show n + offN r i + j - n = offN r i + j by omega]
    exact geN_off (by omega) hj
theorem geN_9 {s : SH} (g : GS s) : ∀ (l : List (Nat × Nat)) (y : Nat), geN s l y ≤ 9
  | [], _ => Nat.zero_le _
  | (n, q) :: r, y => by
    show (if y < n then qsz s q else geN s r (y - n)) ≤ 9
    split
    · exact qsz_9 g q
    · exact geN_9 g r _
theorem sumN_add (f : Nat → Nat) (a : Nat) : ∀ b, sumN f (a + b) = sumN f a + sumN (fun i => f (a + i)) b
  | 0 => rfl
  | b + 1 => by
    show sumN f (a + b) + f (a + b) = sumN f a + (sumN (fun i => f (a + i)) b + f (a + b))
    rw [sumN_add f a b]; omega
theorem sumN_const {f : Nat → Nat} {c : Nat} : ∀ n, (∀ i, i < n → f i = c) → sumN f n = n * c
  | 0, _ => by show 0 = 0 * c; omega
  | n + 1, h => by
    show sumN f n + f n = (n + 1) * c
    rw [sumN_const n (fun i hi => h i (by omega)), h n (by omega), Nat.succ_mul]
theorem geN_sum {s : SH} : ∀ (l : List (Nat × Nat)), sumN (geN s l) (offN l l.length) = sumN (fun i => (l.getD i (0, 0)).1 * qsz s (l.getD i (0, 0)).2) l.length
  | [] => rfl
  | (n, q) :: r => by
    rw [show offN ((n, q) :: r) ((n, q) :: r).length = n + offN r r.length from offN_s, sumN_add, show ((n, q) :: r).length = r.length + 1 from rfl, sumN_0]
    rw [sumN_const (f := geN s ((n, q) :: r)) (c := qsz s q) n (fun i hi => if_pos hi)]
    rw [show (fun i => geN s ((n, q) :: r) (n + i)) = geN s r from funext fun i => by
      show (if n + i < n then qsz s q else geN s r (n + i - n)) = _
      rw [if_neg (by omega), show n + i - n = i by omega]]
    rw [geN_sum r]
    rfl
theorem adiff_0 (a : Nat) : adiff a a = 0 := by unfold adiff; rw [if_neg (by omega)]; omega
theorem geN_dif {s : SH} : ∀ (l : List (Nat × Nat)), (∀ i, i < l.length → 1 ≤ (l.getD i (0, 0)).1) → sumN (fun j => adiff (geN s l (j + 1)) (geN s l j)) (offN l l.length - 1) = sumN (fun i => adiff (qsz s (l.getD (i + 1) (0, 0)).2) (qsz s (l.getD i (0, 0)).2)) (l.length - 1)
  | [], _ => rfl
  | [(n, q)], h => by
    rw [show offN [(n, q)] ([(n, q)] : List (Nat × Nat)).length = n from rfl.trans (Nat.zero_add n)]
    refine (sumN_zero _ fun i hi => ?_).trans rfl
    show adiff (if i + 1 < n then qsz s q else _) (if i < n then qsz s q else _) = 0
    rw [if_pos (by omega), if_pos (by omega), adiff_0]
  | (n, q) :: (n2, q2) :: r, h => by
    have h0 : 1 ≤ n := h 0 (Nat.succ_pos _)
    have h1 : 1 ≤ n2 := h 1 (Nat.succ_lt_succ (Nat.succ_pos _))
    have ih := geN_dif (s := s) ((n2, q2) :: r) (fun i hi => h (i + 1) (Nat.succ_lt_succ hi))
    have e0 : offN ((n2, q2) :: r) ((n2, q2) :: r).length = n2 + offN r r.length := offN_s
    have e1 : offN ((n, q) :: (n2, q2) :: r) ((n, q) :: (n2, q2) :: r).length = n + offN ((n2, q2) :: r) ((n2, q2) :: r).length := offN_s
    rw [e1]
    obtain ⟨T, hT⟩ : ∃ T, T = offN ((n2, q2) :: r) ((n2, q2) :: r).length := ⟨_, rfl⟩
    rw [← hT] at ih e0 ⊢
    rw [show n + T - 1 = (n - 1) + (1 + (T - 1)) by omega, sumN_add, sumN_add]
    have hlow : ∀ y, y < n → geN s ((n, q) :: (n2, q2) :: r) y = qsz s q := fun y hy => if_pos hy
    have hhi : ∀ y, geN s ((n, q) :: (n2, q2) :: r) (n + y) = geN s ((n2, q2) :: r) y := fun y => by
      show (if n + y < n then qsz s q else geN s ((n2, q2) :: r) (n + y - n)) = _
      rw [if_neg (by omega), show n + y - n = y by omega]
    rw [sumN_zero (n - 1) (fun i hi => by rw [hlow _ (by omega), hlow _ (by omega), adiff_0])]
    have hmid : sumN (fun i => adiff (geN s ((n, q) :: (n2, q2) :: r) (n - 1 + i + 1)) (geN s ((n, q) :: (n2, q2) :: r) (n - 1 + i))) 1 = adiff (qsz s q2) (qsz s q) := by
      show 0 + adiff (geN s _ (n - 1 + 0 + 1)) (geN s _ (n - 1 + 0)) = _
      rw [Nat.zero_add, show n - 1 + 0 + 1 = n + 0 by omega, hhi, hlow _ (by omega)]
      rw [show geN s ((n2, q2) :: r) 0 = qsz s q2 from if_pos (by omega)]
    rw [hmid]
    have hend : sumN (fun i => adiff (geN s ((n, q) :: (n2, q2) :: r) (n - 1 + (1 + i) + 1)) (geN s ((n, q) :: (n2, q2) :: r) (n - 1 + (1 + i)))) (T - 1) = sumN (fun j => adiff (geN s ((n2, q2) :: r) (j + 1)) (geN s ((n2, q2) :: r) j)) (T - 1) := sumN_congr _ fun i _ => by
      rw [show n - 1 + (1 + i) + 1 = n + (i + 1) by omega, show n - 1 + (1 + i) = n + i by omega, hhi, hhi]
    rw [hend, ih]
    rw [show ((n, q) :: (n2, q2) :: r).length - 1 = (((n2, q2) :: r).length - 1) + 1 from rfl, sumN_0]
    show 0 + (adiff (qsz s q2) (qsz s q) + _) = adiff (qsz s q2) (qsz s q) + _
    rw [Nat.zero_add]
    rfl
theorem offN_le {l : List (Nat × Nat)} {i : Nat} (hi : i < l.length) : offN l i + (l.getD i (0, 0)).1 ≤ offN l l.length := sumN_le (f := fun j => (l.getD j (0, 0)).1) (i := i + 1) (n := l.length) hi
set_option maxHeartbeats 1500000 in
set_option maxRecDepth 100000 in
theorem s5_laySizes {d : Nat} {l : List (Nat × Nat)} {X0 : Nat → Prop} {h : AH} {s : SH} (c : CB h) (g : GS s) (r : DM h 68 s) (h8 : sLen s ≤ 8) (pv : plV s 0 X0 l) (pa : PAm h s 0 l) (hw : hI h 66 24 = nI l.length) : AC mX5_laySizes (d + 1) 0 0 [.ref 66] h (Qf [88] none h (fun h2 => ∀ y, y < sLen s → hI h2 88 y = nI (geN s l y))) := by
  have hn := c.1
  have gw := g.1
  have gh := g.2.1
  have gl := g.2.2.2.2.2.1
  have gc := cells48 g
  refine AC.of (by decide) rfl (Nat.le_of_ble_eq_true rfl) (fun X => ?_)
  show AW X mX5_laySizes (d + 1) 0 0 0 [(0, .ref 66)] [] h (Qf [88] none h (fun h2 => ∀ y, y < sLen s → hI h2 88 y = nI (geN s l y)))
  have hll := plV_le pv
  have hto := (cnt_plC g pv).2
  have LP : ∀ (fu : Nat) (i : Nat) (H : AH), i ≤ l.length → Fr [88] h H → (∀ y, y < offN l i → hI H 88 y = nI (geN s l y)) → l.length - i < fu → AW X mX5_laySizes (d + 1) 0 0 4 [(0, .ref 66), (1, .int (nI (offN l i))), (2, .int (nI i))] [] H (Qf [88] none h (fun h2 => ∀ y, y < sLen s → hI h2 88 y = nI (geN s l y))) := by
    intro fu
    induction fu with
    | zero => intro i H hi hf hs hz; exact absurd hz (Nat.not_lt_zero _)
    | succ fu ih =>
      intro i H hi hf hs hz
      have ihO := ih
      have c1 := c.fr hf
      have hn1 := c1.1
      have pa1 := pa.fr hf (by simp)
      have w1 : hI H 66 24 = nI l.length := by rw [(hf.2.2 66 (by simp)).1]; exact hw
      refine a_iload_n (pc := 4) (i := 2) dX5_laySizes_4 rfl rfl ?_
      refine a_aload_n (pc := 5) (i := 0) dX5_laySizes_5 rfl rfl ?_
      refine a_getI (pc := 6) (ci := 5) (k := 24) dX5_laySizes_6 (lf_RX5_244 rfl) (by decide) rfl rfl (lt90 hn1 (shK_lt (show shK 66 = _ from rfl))) ?_
      refine a_top (show (.int (hI H 66 24) : Value) = .int (nI l.length) from congrArg Value.int w1) ?_
      refine n_icmp_ge (pc := 9) (tgt := 61) dX5_laySizes_9 (by decide) (by omega) (by omega) (fun c9 => ?_) (fun c9 => ?_)
      · have ei : i = l.length := by omega
        rw [ei] at hs
        exact a_return (pc := 61) dX5_laySizes_61 rfl (⟨rfl, hf, fun y hy => hs y (by omega)⟩)
      · obtain ⟨b1, b2, b3, b4⟩ := plV_at g pv i c9
        have hmq := mq_of g b2 b3
        have hof := offN_le c9
        refine a_iconst (pc := 12) (v := nI 0) dX5_laySizes_12 (by decide) ?_
        refine a_istore_n (pc := 13) (i := 3) (ls' := [(0, .ref 66), (1, .int (nI (offN l i))), (2, .int (nI i)), (3, .int (nI 0))]) dX5_laySizes_13 rfl (by decide) rfl ?_
        have LQ : ∀ (fu : Nat) (j : Nat) (H2 : AH), j ≤ (l.getD i (0, 0)).1 → Fr [88] h H2 → (∀ y, y < offN l i + j → hI H2 88 y = nI (geN s l y)) → (l.getD i (0, 0)).1 - j < fu → AW X mX5_laySizes (d + 1) 0 0 14 [(0, .ref 66), (1, .int (nI (offN l i + j))), (2, .int (nI i)), (3, .int (nI j))] [] H2 (Qf [88] none h (fun h2 => ∀ y, y < sLen s → hI h2 88 y = nI (geN s l y))) := by
          intro fu
          induction fu with
          | zero => intro j H2 hj hf2 hs2 hz; exact absurd hz (Nat.not_lt_zero _)
          | succ fu ih =>
            intro j H2 hj hf2 hs2 hz
            have c2 := c.fr hf2
            have hn2 := c2.1
            have r2 := r.fr hf2 (by simp)
            obtain ⟨a1, a2, a3⟩ := (pa.fr hf2 (by simp)).at0 c9
            refine a_iload_n (pc := 14) (i := 3) dX5_laySizes_14 rfl rfl ?_
            refine a_aload_n (pc := 15) (i := 0) dX5_laySizes_15 rfl rfl ?_
            refine a_getR (pc := 16) (ci := 5) (k := 19) (b := 83) dX5_laySizes_16 (lf_RX5_41 rfl) (by decide) rfl rfl (lt90 hn2 (shK_lt (show shK 66 = _ from rfl))) c2.2.2.2.2.2.2.2.2.1.2.2.2.2.2.2.2.2.1 ?_
            refine a_iload_n (pc := 19) (i := 2) dX5_laySizes_19 rfl rfl ?_
            refine a_iald (pc := 20) (j := i) dX5_laySizes_20 rfl (lt90 hn2 (shK_lt (show shK 83 = _ from rfl))) rfl (by omega) ?_
            refine a_top (show (.int (hI H2 83 i) : Value) = .int (nI ((l.getD i (0, 0)).1)) from congrArg Value.int a1) ?_
            refine n_icmp_ge (pc := 21) (tgt := 55) dX5_laySizes_21 (by decide) (by omega) (by omega) (fun c21 => ?_) (fun c21 => ?_)
            · have ej : j = (l.getD i (0, 0)).1 := by omega
              refine n_iinc (pc := 55) (k := 1) (ls' := [(0, .ref 66), (1, .int (nI (offN l i + j))), (2, .int (nI (i + 1))), (3, .int (nI j))]) dX5_laySizes_55 rfl (by decide) (by decide) rfl ?_
              refine a_goto (pc := 58) (tgt := 4) dX5_laySizes_58 (by decide) ?_
              refine a_drop (ls' := [(0, .ref 66), (1, .int (nI (offN l i + j))), (2, .int (nI (i + 1)))]) (by simp) ?_
              refine a_locs (ls' := [(0, .ref 66), (1, .int (nI (offN l (i + 1)))), (2, .int (nI (i + 1)))]) (by rw [ej]; rfl) ?_
              exact ihO (i + 1) H2 (by omega) hf2 (fun y hy => hs2 y (by rw [ej]; exact hy)) (by omega)
            · skip
              refine a_aload_n (pc := 24) (i := 0) dX5_laySizes_24 rfl rfl ?_
              refine a_getR (pc := 25) (ci := 5) (k := 26) (b := 88) dX5_laySizes_25 (lf_RX5_57 rfl) (by decide) rfl rfl (lt90 hn2 (shK_lt (show shK 66 = _ from rfl))) c2.2.2.2.2.2.2.2.2.1.2.2.2.2.2.2.2.2.2.2.2.2.2 ?_
              refine a_iload_n (pc := 28) (i := 1) dX5_laySizes_28 rfl rfl ?_
              refine a_aload_n (pc := 29) (i := 0) dX5_laySizes_29 rfl rfl ?_
              refine a_aload_n (pc := 30) (i := 0) dX5_laySizes_30 rfl rfl ?_
              refine a_getR (pc := 31) (ci := 5) (k := 20) (b := 84) dX5_laySizes_31 (lf_RX5_44 rfl) (by decide) rfl rfl (lt90 hn2 (shK_lt (show shK 66 = _ from rfl))) c2.2.2.2.2.2.2.2.2.1.2.2.2.2.2.2.2.2.2.1 ?_
              refine a_iload_n (pc := 34) (i := 2) dX5_laySizes_34 rfl rfl ?_
              refine a_iald (pc := 35) (j := i) dX5_laySizes_35 rfl (lt90 hn2 (shK_lt (show shK 84 = _ from rfl))) rfl (by omega) ?_
              refine a_top (show (.int (hI H2 84 i) : Value) = .int (nI ((l.getD i (0, 0)).2 / 48)) from congrArg Value.int a2) ?_
              refine a_aload_n (pc := 36) (i := 0) dX5_laySizes_36 rfl rfl ?_
              refine a_getR (pc := 37) (ci := 5) (k := 21) (b := 85) dX5_laySizes_37 (lf_RX5_47 rfl) (by decide) rfl rfl (lt90 hn2 (shK_lt (show shK 66 = _ from rfl))) c2.2.2.2.2.2.2.2.2.1.2.2.2.2.2.2.2.2.2.2.1 ?_
              refine a_iload_n (pc := 40) (i := 2) dX5_laySizes_40 rfl rfl ?_
              refine a_iald (pc := 41) (j := i) dX5_laySizes_41 rfl (lt90 hn2 (shK_lt (show shK 85 = _ from rfl))) rfl (by omega) ?_
              refine a_top (show (.int (hI H2 85 i) : Value) = .int (nI (qpl s (l.getD i (0, 0)).2)) from congrArg Value.int a3) ?_
              refine a_vV1 (pc := 42) (as := [.int (nI ((l.getD i (0, 0)).2 / 48)), .int (nI (qpl s (l.getD i (0, 0)).2))]) (b := 66) (ci := 5) (v := .int (nI (qsz s (mq s ((l.getD i (0, 0)).2 / 48) (qpl s (l.getD i (0, 0)).2))))) (h' := H2) dX5_laySizes_42 (lc_RX5_188 rfl) ceX5_sizeAt rfl (lt90 hn2 (shK_lt (show shK 66 = _ from rfl))) (s5_sizeAt c2 g r2 (x := (l.getD i (0, 0)).2 / 48) (p := qpl s (l.getD i (0, 0)).2) (by omega) hmq.1) rfl rfl (Nat.le_of_ble_eq_true rfl) rfl ?_
              refine a_iast (pc := 45) (j := (offN l i + j)) dX5_laySizes_45 rfl (lt90 hn2 (shK_lt (show shK 88 = _ from rfl))) rfl (by omega) ?_
              refine n_iinc (pc := 46) (k := 1) (ls' := [(0, .ref 66), (1, .int (nI ((offN l i + j) + 1))), (2, .int (nI i)), (3, .int (nI j))]) dX5_laySizes_46 rfl (by decide) (by decide) rfl ?_
              refine n_iinc (pc := 49) (k := 1) (ls' := [(0, .ref 66), (1, .int (nI ((offN l i + j) + 1))), (2, .int (nI i)), (3, .int (nI (j + 1)))]) dX5_laySizes_49 rfl (by decide) (by decide) rfl ?_
              refine a_goto (pc := 52) (tgt := 14) dX5_laySizes_52 (by decide) ?_
              refine a_locs (ls' := [(0, .ref 66), (1, .int (nI (offN l i + (j + 1)))), (2, .int (nI i)), (3, .int (nI (j + 1)))]) rfl ?_
              exact ih (j + 1) _ (by omega) (hf2.sI (by simp)) (fun y hy => by
                  by_cases e : y = offN l i + j
                  · rw [rd2 ⟨rfl, e⟩, e, geN_off c9 c21, hmq.2]
                  · rw [rd1 (by omega)]; exact hs2 y (by omega)) (by omega)
        refine a_locs (ls' := [(0, .ref 66), (1, .int (nI (offN l i + 0))), (2, .int (nI i)), (3, .int (nI 0))]) rfl ?_
        exact LQ ((l.getD i (0, 0)).1 + 1) 0 H (Nat.zero_le _) hf (fun y hy => hs y (by omega)) (by omega)
  refine a_iconst (pc := 0) (v := nI 0) dX5_laySizes_0 (by decide) ?_
  refine a_istore_n (pc := 1) (i := 1) (ls' := [(0, .ref 66), (1, .int (nI 0))]) dX5_laySizes_1 rfl (by decide) rfl ?_
  refine a_iconst (pc := 2) (v := nI 0) dX5_laySizes_2 (by decide) ?_
  refine a_istore_n (pc := 3) (i := 2) (ls' := [(0, .ref 66), (1, .int (nI 0)), (2, .int (nI 0))]) dX5_laySizes_3 rfl (by decide) rfl ?_
  refine a_locs (ls' := [(0, .ref 66), (1, .int (nI (offN l 0))), (2, .int (nI 0))]) rfl ?_
  exact LP (l.length + 1) 0 h (Nat.zero_le _) Fr.refl (fun y hy => absurd hy (Nat.not_lt_zero _)) (by omega)
set_option maxHeartbeats 1500000 in
set_option maxRecDepth 100000 in
theorem s5_unevenness {d : Nat} {h : AH} {t : ST} (m : MM h t) : AC mX5_unevenness (d + 300) 0 0 [.ref 66] h (Qn (.int (rUneven (tC t))) t h) := by
  have c := m.1
  have g := m.2.1.1
  have r := m.2.2.1
  have hn := c.1
  have gw := g.1
  have gh := g.2.1
  have gl := g.2.2.2.2.2.1
  have gc := cells48 g
  refine AC.of (by decide) rfl (Nat.le_of_ble_eq_true rfl) (fun X => ?_)
  show AW X mX5_unevenness (d + 300) 0 0 0 [(0, .ref 66)] [] h (Qn (.int (rUneven (tC t))) t h)
  refine a_aload_n (pc := 0) (i := 0) dX5_unevenness_0 rfl rfl ?_
  refine a_iconst (pc := 1) (v := nI 0) dX5_unevenness_1 (by decide) ?_
  refine a_putI (pc := 2) (ci := 5) (k := 0) dX5_unevenness_2 (lf_RX5_64 rfl) (by decide) (Or.inl rfl) rfl (lt90 hn (shK_lt (show shK 66 = _ from rfl))) rfl ?_
  obtain ⟨H0, hH0⟩ : ∃ Hx, Hx = sI h 66 0 (nI 0) := ⟨_, rfl⟩
  have f0 : Fr [66] h H0 := by rw [hH0]; exact Fr.refl.sI (by simp)
  have k0 : ∀ j, j ≠ 0 → hI H0 66 j = hI h 66 j := fun j hj => by rw [hH0]; exact rd1 (by omega)
  have t0 : hI H0 66 0 = nI 0 := by rw [hH0]; exact rd2 ⟨rfl, rfl⟩
  refine a_heap (h' := H0) hH0.symm ?_
  have m0 : MM H0 t := m.scr f0 (by simp) (k0 2 (by omega)) (k0 7 (by omega)) (k0 12 (by omega))
  have c0 := m0.1
  have r0 := m0.2.2.1
  have hn0 := c0.1
  refine a_aload_n (pc := 5) (i := 0) dX5_unevenness_5 rfl rfl ?_
  refine a_xV (pc := 6) (as := []) (b := 66) (ci := 5) dX5_unevenness_6 (lc_RX5_279 rfl) ceX5_layPlan rfl (lt90 hn0 (shK_lt (show shK 66 = _ from rfl))) (s5_layPlan (d := d + 227) c0 g r0) rfl rfl (Nat.le_of_ble_eq_true rfl) LPR_n (fun x1 H1 q1 => ?_)
  obtain ⟨ex, ⟨f1, k1⟩, w1, pa1⟩ := q1
  subst ex
  have m1 : MM H1 t := m0.pl (s := tC t) f1 k1
  have c1 := m1.1
  have r1 := m1.2.2.1
  have hn1 := c1.1
  have t1 : hI H1 66 0 = nI 0 := (k1 0 (by omega) (by omega)).trans t0
  have fm1 : Fm h H1 := f0.fm.trans (f1.fm' (by simp))
  refine a_if_ge (pc := 9) (tgt := 14) dX5_unevenness_9 (by decide) (fun c9 => ?_) (fun c9 => ?_)
  · obtain ⟨h8, l, hbp, hbl, hbr, hl8⟩ := best_ge c9
    have pv := BP_V hbp
    have hto := (cnt_plC g pv).2
    refine a_aload_n (pc := 14) (i := 0) dX5_unevenness_14 rfl rfl ?_
    refine a_wV0 (pc := 15) (as := []) (b := 66) (ci := 5) dX5_unevenness_15 (lc_RX5_285 rfl) ceX5_laySizes rfl (lt90 hn1 (shK_lt (show shK 66 = _ from rfl))) (s5_laySizes (d := d + 298) c1 g r1 h8 pv (pa1 h8 l hbp) (w1.trans hbr)) rfl rfl (Nat.le_of_ble_eq_true rfl) (fun H2 f2 r2 => ?_)
    have c2 := c1.fr f2
    have hn2 := c2.1
    have rr2 := r1.fr f2 (by simp)
    have h9 := geN_9 g l
    refine a_iconst (pc := 18) (v := nI 0) dX5_unevenness_18 (by decide) ?_
    refine a_istore_n (pc := 19) (i := 1) (ls' := [(0, .ref 66), (1, .int (nI 0))]) dX5_unevenness_19 rfl (by decide) rfl ?_
    refine a_iconst (pc := 20) (v := nI 1) dX5_unevenness_20 (by decide) ?_
    refine a_istore_n (pc := 21) (i := 2) (ls' := [(0, .ref 66), (1, .int (nI 0)), (2, .int (nI 1))]) dX5_unevenness_21 rfl (by decide) rfl ?_
    have LP : ∀ (fu : Nat) (k : Nat), 1 ≤ k ∧ (k ≤ sLen (tC t) ∨ k = 1) → sLen (tC t) - k < fu → AW X mX5_unevenness (d + 300) 0 0 22 [(0, .ref 66), (1, .int (nI (sumN (fun j => adiff (geN (tC t) l (j + 1)) (geN (tC t) l j)) (k - 1)))), (2, .int (nI k))] [] H2 (Qn (.int (rUneven (tC t))) t h) := by
      intro fu
      induction fu with
      | zero => intro k hk hz; exact absurd hz (Nat.not_lt_zero _)
      | succ fu ih =>
        intro k hk hz
        refine a_iload_n (pc := 22) (i := 2) dX5_unevenness_22 rfl rfl ?_
        refine a_aload_n (pc := 23) (i := 0) dX5_unevenness_23 rfl rfl ?_
        refine a_getR (pc := 24) (ci := 5) (k := 8) (b := 68) dX5_unevenness_24 (lf_RX5_17 rfl) (by decide) rfl rfl (lt90 hn2 (shK_lt (show shK 66 = _ from rfl))) c2.2.2.2.2.2.2.2.2.1.2.1 ?_
        refine a_iconst (pc := 27) (v := nI 3) dX5_unevenness_27 (by decide) ?_
        refine a_iald (pc := 28) (j := 3) dX5_unevenness_28 rfl (lt90 hn2 (shK_lt (show shK 68 = _ from rfl))) rfl (by omega) ?_
        refine a_top (show (.int (hI H2 68 3) : Value) = .int (nI (sLen (tC t))) from congrArg Value.int rr2.1.2.2.2.1) ?_
        refine n_icmp_ge (pc := 29) (tgt := 59) dX5_unevenness_29 (by decide) (by omega) (by omega) (fun c29 => ?_) (fun c29 => ?_)
        · skip
          have ek : rUneven (tC t) = nI (sumN (fun j => adiff (geN (tC t) l (j + 1)) (geN (tC t) l j)) (k - 1)) := by
            rw [show rUneven (tC t) = _ from cif_t c9, hbl]
            have z := geN_dif (s := tC t) l (fun i hi => (plV_at g pv i hi).1.1)
            rw [show offN l l.length - 1 = k - 1 by omega] at z
            rw [z]; unfold szC; rw [hbl]
          refine a_iload_n (pc := 59) (i := 1) dX5_unevenness_59 rfl rfl ?_
          exact a_ireturn (pc := 60) dX5_unevenness_60 rfl rfl (⟨by rw [ek], m1.scr f2 (by simp) (by rw [(f2.2.2 66 (by simp)).1]) (by rw [(f2.2.2 66 (by simp)).1]) (by rw [(f2.2.2 66 (by simp)).1]), fm1.trans (f2.fm' (by simp))⟩)
        · obtain ⟨j, rfl⟩ : ∃ j, k = j + 1 := ⟨k - 1, by omega⟩
          have ha := h9 (j + 1)
          have hb := h9 j
          refine a_iload_n (pc := 32) (i := 1) dX5_unevenness_32 rfl rfl ?_
          refine a_aload_n (pc := 33) (i := 0) dX5_unevenness_33 rfl rfl ?_
          refine a_getR (pc := 34) (ci := 5) (k := 26) (b := 88) dX5_unevenness_34 (lf_RX5_57 rfl) (by decide) rfl rfl (lt90 hn2 (shK_lt (show shK 66 = _ from rfl))) c2.2.2.2.2.2.2.2.2.1.2.2.2.2.2.2.2.2.2.2.2.2.2 ?_
          refine a_iload_n (pc := 37) (i := 2) dX5_unevenness_37 rfl rfl ?_
          refine a_iald (pc := 38) (j := (j + 1)) dX5_unevenness_38 rfl (lt90 hn2 (shK_lt (show shK 88 = _ from rfl))) rfl (by omega) ?_
          refine a_top (show (.int (hI H2 88 (j + 1)) : Value) = .int (nI (geN (tC t) l (j + 1))) from congrArg Value.int (r2 (j + 1) c29)) ?_
          refine a_aload_n (pc := 39) (i := 0) dX5_unevenness_39 rfl rfl ?_
          refine a_getR (pc := 40) (ci := 5) (k := 26) (b := 88) dX5_unevenness_40 (lf_RX5_57 rfl) (by decide) rfl rfl (lt90 hn2 (shK_lt (show shK 66 = _ from rfl))) c2.2.2.2.2.2.2.2.2.1.2.2.2.2.2.2.2.2.2.2.2.2.2 ?_
          refine a_iload_n (pc := 43) (i := 2) dX5_unevenness_43 rfl rfl ?_
          refine a_iconst (pc := 44) (v := nI 1) dX5_unevenness_44 (by decide) ?_
          refine n_isub (pc := 45) dX5_unevenness_45 (by omega) ?_
          refine a_iald (pc := 46) (j := ((j + 1) - 1)) dX5_unevenness_46 rfl (lt90 hn2 (shK_lt (show shK 88 = _ from rfl))) rfl (by omega) ?_
          refine a_top (show (.int (hI H2 88 ((j + 1) - 1)) : Value) = .int (nI (geN (tC t) l j)) from congrArg Value.int (r2 j (by omega))) ?_
          refine a_isub (pc := 47) dX5_unevenness_47 ?_
          refine a_mabs (pc := 48) dX5_unevenness_48 (lm_RX5_288 rfl) (Nat.le_of_ble_eq_true rfl) ?_
          refine a_top (show (.int (cif (0 ≤ ((nI (geN (tC t) l (j + 1))) - (nI (geN (tC t) l j)))) ((nI (geN (tC t) l (j + 1))) - (nI (geN (tC t) l j))) (0 - ((nI (geN (tC t) l (j + 1))) - (nI (geN (tC t) l j))))) : Value) = .int (nI (adiff (geN (tC t) l (j + 1)) (geN (tC t) l j))) from congrArg Value.int (abs_n (by omega) (by omega))) ?_
          refine n_iadd (pc := 51) dX5_unevenness_51 ?_
          refine a_istore_n (pc := 52) (i := 1) (ls' := [(0, .ref 66), (1, .int (nI ((sumN (fun j => adiff (geN (tC t) l (j + 1)) (geN (tC t) l j)) (j + 1 - 1)) + (adiff (geN (tC t) l (j + 1)) (geN (tC t) l j))))), (2, .int (nI (j + 1)))]) dX5_unevenness_52 rfl (by decide) rfl ?_
          refine n_iinc (pc := 53) (k := 1) (ls' := [(0, .ref 66), (1, .int (nI ((sumN (fun j => adiff (geN (tC t) l (j + 1)) (geN (tC t) l j)) (j + 1 - 1)) + (adiff (geN (tC t) l (j + 1)) (geN (tC t) l j))))), (2, .int (nI ((j + 1) + 1)))]) dX5_unevenness_53 rfl (by decide) (by decide) rfl ?_
          refine a_goto (pc := 56) (tgt := 22) dX5_unevenness_56 (by decide) ?_
          refine a_locs (ls' := [(0, .ref 66), (1, .int (nI (sumN (fun j => adiff (geN (tC t) l (j + 1)) (geN (tC t) l j)) (j + 1 + 1 - 1)))), (2, .int (nI (j + 1 + 1)))]) rfl ?_
          exact ih (j + 1 + 1) (by omega) (by omega)
    refine a_locs (ls' := [(0, .ref 66), (1, .int (nI (sumN (fun j => adiff (geN (tC t) l (j + 1)) (geN (tC t) l j)) (1 - 1)))), (2, .int (nI 1))]) rfl ?_
    exact LP (sLen (tC t) + 1) 1 (by omega) (by omega)
  · have ek : rUneven (tC t) = -1 := cif_f c9
    refine a_iconst (pc := 12) (v := (-1)) dX5_unevenness_12 (by decide) ?_
    exact a_ireturn (pc := 13) dX5_unevenness_13 rfl rfl (⟨by rw [ek], m1, fm1⟩)
set_option maxHeartbeats 1500000 in
set_option maxRecDepth 100000 in
theorem s5_meanSize {d : Nat} {h : AH} {t : ST} (m : MM h t) : AC mX5_meanSize (d + 300) 0 0 [.ref 66] h (Qn (.double (rMean (tC t))) t h) := by
  have c := m.1
  have g := m.2.1.1
  have r := m.2.2.1
  have hn := c.1
  have gw := g.1
  have gh := g.2.1
  have gl := g.2.2.2.2.2.1
  have gc := cells48 g
  refine AC.of (by decide) rfl (Nat.le_of_ble_eq_true rfl) (fun X => ?_)
  show AW X mX5_meanSize (d + 300) 0 0 0 [(0, .ref 66)] [] h (Qn (.double (rMean (tC t))) t h)
  refine a_aload_n (pc := 0) (i := 0) dX5_meanSize_0 rfl rfl ?_
  refine a_iconst (pc := 1) (v := nI 0) dX5_meanSize_1 (by decide) ?_
  refine a_putI (pc := 2) (ci := 5) (k := 0) dX5_meanSize_2 (lf_RX5_64 rfl) (by decide) (Or.inl rfl) rfl (lt90 hn (shK_lt (show shK 66 = _ from rfl))) rfl ?_
  obtain ⟨H0, hH0⟩ : ∃ Hx, Hx = sI h 66 0 (nI 0) := ⟨_, rfl⟩
  have f0 : Fr [66] h H0 := by rw [hH0]; exact Fr.refl.sI (by simp)
  have k0 : ∀ j, j ≠ 0 → hI H0 66 j = hI h 66 j := fun j hj => by rw [hH0]; exact rd1 (by omega)
  have t0 : hI H0 66 0 = nI 0 := by rw [hH0]; exact rd2 ⟨rfl, rfl⟩
  refine a_heap (h' := H0) hH0.symm ?_
  have m0 : MM H0 t := m.scr f0 (by simp) (k0 2 (by omega)) (k0 7 (by omega)) (k0 12 (by omega))
  have c0 := m0.1
  have r0 := m0.2.2.1
  have hn0 := c0.1
  refine a_aload_n (pc := 5) (i := 0) dX5_meanSize_5 rfl rfl ?_
  refine a_xV (pc := 6) (as := []) (b := 66) (ci := 5) dX5_meanSize_6 (lc_RX5_279 rfl) ceX5_layPlan rfl (lt90 hn0 (shK_lt (show shK 66 = _ from rfl))) (s5_layPlan (d := d + 227) c0 g r0) rfl rfl (Nat.le_of_ble_eq_true rfl) LPR_n (fun x1 H1 q1 => ?_)
  obtain ⟨ex, ⟨f1, k1⟩, w1, pa1⟩ := q1
  subst ex
  have m1 : MM H1 t := m0.pl (s := tC t) f1 k1
  have c1 := m1.1
  have r1 := m1.2.2.1
  have hn1 := c1.1
  have t1 : hI H1 66 0 = nI 0 := (k1 0 (by omega) (by omega)).trans t0
  have fm1 : Fm h H1 := f0.fm.trans (f1.fm' (by simp))
  refine a_if_gt (pc := 9) (tgt := 14) dX5_meanSize_9 (by decide) (fun c9 => ?_) (fun c9 => ?_)
  · obtain ⟨h8, l, hbp, hne⟩ := bestR_pos.mp c9
    have hbl := bestL_eq hbp
    have pv := BP_V hbp
    have hto := (cnt_plC g pv).2
    have hbr : bestR (tC t) = nI l.length := by rcases bestR_c (tC t) with ⟨h1, -⟩ | ⟨-, h2, -, -⟩ | ⟨-, l2, h2, -, h4, -⟩; omega; exact absurd ⟨l, hbp⟩ h2; rw [h4, BP_eq h2 hbp]
    have hpos : 0 < sLen (tC t) := by have h1 := plV_le pv; have h2 : 0 < l.length := Nat.pos_of_ne_zero (fun z => hne (List.length_eq_zero_iff.mp z)); omega
    refine a_aload_n (pc := 14) (i := 0) dX5_meanSize_14 rfl rfl ?_
    refine a_wV0 (pc := 15) (as := []) (b := 66) (ci := 5) dX5_meanSize_15 (lc_RX5_285 rfl) ceX5_laySizes rfl (lt90 hn1 (shK_lt (show shK 66 = _ from rfl))) (s5_laySizes (d := d + 298) c1 g r1 h8 pv (pa1 h8 l hbp) (w1.trans hbr)) rfl rfl (Nat.le_of_ble_eq_true rfl) (fun H2 f2 r2 => ?_)
    have c2 := c1.fr f2
    have hn2 := c2.1
    have rr2 := r1.fr f2 (by simp)
    refine a_iconst (pc := 18) (v := nI 0) dX5_meanSize_18 (by decide) ?_
    refine a_istore_n (pc := 19) (i := 1) (ls' := [(0, .ref 66), (1, .int (nI 0))]) dX5_meanSize_19 rfl (by decide) rfl ?_
    refine a_iconst (pc := 20) (v := nI 0) dX5_meanSize_20 (by decide) ?_
    refine a_istore_n (pc := 21) (i := 2) (ls' := [(0, .ref 66), (1, .int (nI 0)), (2, .int (nI 0))]) dX5_meanSize_21 rfl (by decide) rfl ?_
    have LP : ∀ (fu : Nat) (k : Nat), k ≤ sLen (tC t) → sLen (tC t) - k < fu → AW X mX5_meanSize (d + 300) 0 0 22 [(0, .ref 66), (1, .int (nI (sumN (geN (tC t) l) k))), (2, .int (nI k))] [] H2 (Qn (.double (rMean (tC t))) t h) := by
      intro fu
      induction fu with
      | zero => intro k hk hz; exact absurd hz (Nat.not_lt_zero _)
      | succ fu ih =>
        intro k hk hz
        refine a_iload_n (pc := 22) (i := 2) dX5_meanSize_22 rfl rfl ?_
        refine a_aload_n (pc := 23) (i := 0) dX5_meanSize_23 rfl rfl ?_
        refine a_getR (pc := 24) (ci := 5) (k := 8) (b := 68) dX5_meanSize_24 (lf_RX5_17 rfl) (by decide) rfl rfl (lt90 hn2 (shK_lt (show shK 66 = _ from rfl))) c2.2.2.2.2.2.2.2.2.1.2.1 ?_
        refine a_iconst (pc := 27) (v := nI 3) dX5_meanSize_27 (by decide) ?_
        refine a_iald (pc := 28) (j := 3) dX5_meanSize_28 rfl (lt90 hn2 (shK_lt (show shK 68 = _ from rfl))) rfl (by omega) ?_
        refine a_top (show (.int (hI H2 68 3) : Value) = .int (nI (sLen (tC t))) from congrArg Value.int rr2.1.2.2.2.1) ?_
        refine n_icmp_ge (pc := 29) (tgt := 47) dX5_meanSize_29 (by decide) (by omega) (by omega) (fun c29 => ?_) (fun c29 => ?_)
        · have ek : k = sLen (tC t) := by omega
          have es : sumN (geN (tC t) l) k = sumN (fun i => (l.getD i (0, 0)).1 * szC (tC t) i) l.length := by
            rw [ek, show sLen (tC t) = offN l l.length by omega, geN_sum]; unfold szC; rw [hbl]
          have em : rMean (tC t) = FP.ddiv (FP.i2d (nI (sumN (geN (tC t) l) k))) (FP.i2d (nI (sLen (tC t)))) := by rw [show rMean (tC t) = _ from cif_t ⟨c9, hpos⟩, es, hbl]
          have h72 : sumN (geN (tC t) l) k ≤ 72 := by
            have z := plV_sum (z := fun i => szC (tC t) i) (fun i => qsz_9 g _) pv
            rw [es]; omega
          have hnn : vf_n64 (FP.ddiv (FP.i2d (nI (sumN (geN (tC t) l) k))) (FP.i2d (nI (sLen (tC t))))) := by have z := nan_no ⟨sumN (geN (tC t) l) k, by omega⟩ ⟨sLen (tC t) - 1, by omega⟩; rw [show sLen (tC t) - 1 + 1 = sLen (tC t) by omega] at z; exact z
          refine a_iload_n (pc := 47) (i := 1) dX5_meanSize_47 rfl rfl ?_
          refine a_i2d (pc := 48) dX5_meanSize_48 ?_
          refine a_aload_n (pc := 49) (i := 0) dX5_meanSize_49 rfl rfl ?_
          refine a_getR (pc := 50) (ci := 5) (k := 8) (b := 68) dX5_meanSize_50 (lf_RX5_17 rfl) (by decide) rfl rfl (lt90 hn2 (shK_lt (show shK 66 = _ from rfl))) c2.2.2.2.2.2.2.2.2.1.2.1 ?_
          refine a_iconst (pc := 53) (v := nI 3) dX5_meanSize_53 (by decide) ?_
          refine a_iald (pc := 54) (j := 3) dX5_meanSize_54 rfl (lt90 hn2 (shK_lt (show shK 68 = _ from rfl))) rfl (by omega) ?_
          refine a_top (show (.int (hI H2 68 3) : Value) = .int (nI (sLen (tC t))) from congrArg Value.int rr2.1.2.2.2.1) ?_
          refine a_i2d (pc := 55) dX5_meanSize_55 ?_
          refine a_ddiv (pc := 56) dX5_meanSize_56 (by exact hnn) ?_
          exact a_dreturn (pc := 57) dX5_meanSize_57 rfl (⟨by rw [em], m1.scr f2 (by simp) (by rw [(f2.2.2 66 (by simp)).1]) (by rw [(f2.2.2 66 (by simp)).1]) (by rw [(f2.2.2 66 (by simp)).1]), fm1.trans (f2.fm' (by simp))⟩)
        · skip
          refine a_iload_n (pc := 32) (i := 1) dX5_meanSize_32 rfl rfl ?_
          refine a_aload_n (pc := 33) (i := 0) dX5_meanSize_33 rfl rfl ?_
          refine a_getR (pc := 34) (ci := 5) (k := 26) (b := 88) dX5_meanSize_34 (lf_RX5_57 rfl) (by decide) rfl rfl (lt90 hn2 (shK_lt (show shK 66 = _ from rfl))) c2.2.2.2.2.2.2.2.2.1.2.2.2.2.2.2.2.2.2.2.2.2.2 ?_
          refine a_iload_n (pc := 37) (i := 2) dX5_meanSize_37 rfl rfl ?_
          refine a_iald (pc := 38) (j := k) dX5_meanSize_38 rfl (lt90 hn2 (shK_lt (show shK 88 = _ from rfl))) rfl (by omega) ?_
          refine a_top (show (.int (hI H2 88 k) : Value) = .int (nI (geN (tC t) l k)) from congrArg Value.int (r2 k c29)) ?_
          refine n_iadd (pc := 39) dX5_meanSize_39 ?_
          refine a_istore_n (pc := 40) (i := 1) (ls' := [(0, .ref 66), (1, .int (nI ((sumN (geN (tC t) l) k) + (geN (tC t) l k)))), (2, .int (nI k))]) dX5_meanSize_40 rfl (by decide) rfl ?_
          refine n_iinc (pc := 41) (k := 1) (ls' := [(0, .ref 66), (1, .int (nI ((sumN (geN (tC t) l) k) + (geN (tC t) l k)))), (2, .int (nI (k + 1)))]) dX5_meanSize_41 rfl (by decide) (by decide) rfl ?_
          refine a_goto (pc := 44) (tgt := 22) dX5_meanSize_44 (by decide) ?_
          refine a_locs (ls' := [(0, .ref 66), (1, .int (nI (sumN (geN (tC t) l) (k + 1)))), (2, .int (nI (k + 1)))]) rfl ?_
          exact ih (k + 1) (by omega) (by omega)
    refine a_locs (ls' := [(0, .ref 66), (1, .int (nI (sumN (geN (tC t) l) 0))), (2, .int (nI 0))]) rfl ?_
    exact LP (sLen (tC t) + 1) 0 (Nat.zero_le _) (by omega)
  · have em : rMean (tC t) = FP.dconst0 := cif_f (fun z => c9 z.1)
    refine a_dconst0 (pc := 12) dX5_meanSize_12 ?_
    exact a_dreturn (pc := 13) dX5_meanSize_13 rfl (⟨by rw [em], m1, fm1⟩)
noncomputable def cmM (s : SH) : Nat → Int64
  | 0 => ck1 s 8
  | a + 1 => 31 * (31 * cmM s a + (flet s (sq s a)).toInt64) + (nI (qsz s (sq s a))).toInt64
theorem sq_at {s : SH} (g : GS s) {x p : Nat} (hp : p < sCells s) : sq s (sCells s * x + p) = mq s x p := by
  unfold sq
  rw [Nat.mul_add_div (by omega), Nat.div_eq_of_lt hp, Nat.mul_add_mod, Nat.mod_eq_of_lt hp, Nat.add_zero]
theorem cmM_at {s : SH} (g : GS s) {x p : Nat} (hp : p < sCells s) : cmM s (sCells s * x + (p + 1)) = 31 * (31 * cmM s (sCells s * x + p) + (flet s (mq s x p)).toInt64) + (nI (qsz s (mq s x p))).toInt64 := by
  rw [← Nat.add_assoc, cmM, sq_at g hp]
theorem ck2_skip {s : SH} {a : Nat} : ∀ n, (∀ q, a ≤ q → q < a + n → ¬ qhas s q) → ck2 s (a + n) = ck2 s a
  | 0, _ => rfl
  | n + 1, h => by
    rw [← Nat.add_assoc, ck2, cif_f (h (a + n) (by omega) (by omega))]
    exact ck2_skip n (fun q h1 h2 => h q h1 (by omega))
theorem ck2_row {s : SH} (g : GS s) {x r : Nat} (hx : x < 2) (hr : r < sH s) (h0 : ck2 s (48 * x + 8 * r) = cmM s (sCells s * x + r * sW s)) : ck2 s (48 * x + 8 * (r + 1)) = cmM s (sCells s * x + (r + 1) * sW s) := by
  have gw := g.1
  have gh := g.2.1
  have hin : ∀ c, c < sW s → r * sW s + c < sCells s ∧ mq s x (r * sW s + c) = 48 * x + 8 * r + c := fun c hc => by
    have h6 : (r + 1) * sW s ≤ sH s * sW s := Nat.mul_le_mul_right _ hr
    rw [Nat.succ_mul] at h6
    have h7 : sCells s = sH s * sW s := Nat.mul_comm _ _
    refine ⟨by omega, ?_⟩
    unfold mq
    rw [show (r * sW s + c) / sW s = r by rw [Nat.mul_comm, Nat.mul_add_div (by omega), Nat.div_eq_of_lt hc]; rfl, show (r * sW s + c) % sW s = c by rw [Nat.mul_comm, Nat.mul_add_mod, Nat.mod_eq_of_lt hc]]
  have run : ∀ c, c ≤ sW s → ck2 s (48 * x + 8 * r + c) = cmM s (sCells s * x + (r * sW s + c)) := by
    intro c
    induction c with
    | zero => intro _; exact h0
    | succ c ih =>
      intro hc
      obtain ⟨h1, h2⟩ := hin c (by omega)
      have h3 := mq_ok g hx h1
      rw [← Nat.add_assoc (48 * x + 8 * r), ck2, ← Nat.add_assoc (r * sW s), cmM_at g h1, ← ih (by omega), h2]
      rw [h2] at h3
      rw [cif_t h3.2.1]
  have h8 := ck2_skip (s := s) (a := 48 * x + 8 * r + sW s) (8 - sW s) (fun q h1 h2 hq => by
    have h3 := hq.2
    omega)
  rw [show 48 * x + 8 * (r + 1) = 48 * x + 8 * r + sW s + (8 - sW s) by omega, h8, run (sW s) (Nat.le_refl _), Nat.succ_mul]
theorem ck2_side {s : SH} (g : GS s) {x : Nat} (hx : x < 2) (h0 : ck2 s (48 * x) = cmM s (sCells s * x)) : ck2 s (48 * (x + 1)) = cmM s (sCells s * (x + 1)) := by
  have gh := g.2.1
  have run : ∀ r, r ≤ sH s → ck2 s (48 * x + 8 * r) = cmM s (sCells s * x + r * sW s) := by
    intro r
    induction r with
    | zero => intro _; rw [Nat.zero_mul]; exact h0
    | succ r ih => intro hr; exact ck2_row g hx hr (ih (by omega))
  have h8 := ck2_skip (s := s) (a := 48 * x + 8 * sH s) (48 - 8 * sH s) (fun q h1 h2 hq => by
    have h3 := hq.1
    omega)
  rw [show 48 * (x + 1) = 48 * x + 8 * sH s + (48 - 8 * sH s) by omega, h8, run (sH s) (Nat.le_refl _), Nat.mul_succ, show sH s * sW s = sCells s from Nat.mul_comm _ _]
theorem ck2_96 {s : SH} (g : GS s) : ck2 s 96 = cmM s (sCells s * 2) := ck2_side g (x := 1) (by omega) (ck2_side g (x := 0) (by omega) rfl)
set_option maxHeartbeats 1500000 in
set_option maxRecDepth 100000 in
theorem s5_checksum {d : Nat} {h : AH} {t : ST} (m : MM h t) : AC mX5_checksum (d + 300) 0 0 [.ref 66] h (Qn (.long (ckS (tC t))) t h) := by
  have c := m.1
  have g := m.2.1.1
  have r := m.2.2.1
  have hn := c.1
  have gw := g.1
  have gh := g.2.1
  have gl := g.2.2.2.2.2.1
  have gc := cells48 g
  refine AC.of (by decide) rfl (Nat.le_of_ble_eq_true rfl) (fun X => ?_)
  show AW X mX5_checksum (d + 300) 0 0 0 [(0, .ref 66)] [] h (Qn (.long (ckS (tC t))) t h)
  refine a_aload_n (pc := 0) (i := 0) dX5_checksum_0 rfl rfl ?_
  refine a_iconst (pc := 1) (v := nI 0) dX5_checksum_1 (by decide) ?_
  refine a_putI (pc := 2) (ci := 5) (k := 0) dX5_checksum_2 (lf_RX5_64 rfl) (by decide) (Or.inl rfl) rfl (lt90 hn (shK_lt (show shK 66 = _ from rfl))) rfl ?_
  obtain ⟨H0, hH0⟩ : ∃ Hx, Hx = sI h 66 0 (nI 0) := ⟨_, rfl⟩
  have f0 : Fr [66] h H0 := by rw [hH0]; exact Fr.refl.sI (by simp)
  have k0 : ∀ j, j ≠ 0 → hI H0 66 j = hI h 66 j := fun j hj => by rw [hH0]; exact rd1 (by omega)
  have t0 : hI H0 66 0 = nI 0 := by rw [hH0]; exact rd2 ⟨rfl, rfl⟩
  refine a_heap (h' := H0) hH0.symm ?_
  have m0 : MM H0 t := m.scr f0 (by simp) (k0 2 (by omega)) (k0 7 (by omega)) (k0 12 (by omega))
  have c0 := m0.1
  have r0 := m0.2.2.1
  have hn0 := c0.1
  have LZ : ∀ (fu : Nat) (k : Nat), k ≤ sLen (tC t) → sLen (tC t) - k < fu → AW X mX5_checksum (d + 300) 0 0 95 [(0, .ref 66), (1, .long (ck3 (tC t) k)), (3, .int (nI k))] [] H0 (Qn (.long (ckS (tC t))) t h) := by
    intro fu
    induction fu with
    | zero => intro k hk hz; exact absurd hz (Nat.not_lt_zero _)
    | succ fu ih =>
      intro k hk hz
      refine a_iload_n (pc := 95) (i := 3) dX5_checksum_95 rfl rfl ?_
      refine a_aload_n (pc := 96) (i := 0) dX5_checksum_96 rfl rfl ?_
      refine a_getR (pc := 97) (ci := 5) (k := 8) (b := 68) dX5_checksum_97 (lf_RX5_17 rfl) (by decide) rfl rfl (lt90 hn0 (shK_lt (show shK 66 = _ from rfl))) c0.2.2.2.2.2.2.2.2.1.2.1 ?_
      refine a_iconst (pc := 100) (v := nI 3) dX5_checksum_100 (by decide) ?_
      refine a_iald (pc := 101) (j := 3) dX5_checksum_101 rfl (lt90 hn0 (shK_lt (show shK 68 = _ from rfl))) rfl (by omega) ?_
      refine a_top (show (.int (hI H0 68 3) : Value) = .int (nI (sLen (tC t))) from congrArg Value.int r0.1.2.2.2.1) ?_
      refine n_icmp_ge (pc := 102) (tgt := 129) dX5_checksum_102 (by decide) (by omega) (by omega) (fun c102 => ?_) (fun c102 => ?_)
      · have ek : k = sLen (tC t) := by omega
        refine a_ldc2 (pc := 129) (v := 31) dX5_checksum_129 (lj_RX5_311 rfl) ?_
        refine a_lload_n (pc := 132) (i := 1) dX5_checksum_132 rfl rfl ?_
        refine a_lmul (pc := 133) dX5_checksum_133 ?_
        refine a_aload_n (pc := 134) (i := 0) dX5_checksum_134 rfl rfl ?_
        refine a_wV1 (pc := 135) (as := []) (b := 66) (ci := 5) (v := .int (nI (nMiss (tC t)))) dX5_checksum_135 (lc_RX5_241 rfl) ceX5_missingNow rfl (lt90 hn0 (shK_lt (show shK 66 = _ from rfl))) (s5_missingNow (d := d + 238) c0 g r0) rfl rfl (Nat.le_of_ble_eq_true rfl) (fun H1 f1 e1 => ?_)
        have m1 : MM H1 t := m0.scr f1 (by simp) (by rw [e1]) (by rw [e1]) (by rw [e1])
        have c1 := m1.1
        have r1 := m1.2.2.1
        have hn1 := c1.1
        refine a_i2l (pc := 138) dX5_checksum_138 ?_
        refine a_ladd (pc := 139) dX5_checksum_139 ?_
        refine a_lstore_n (pc := 140) (i := 1) (ls' := [(0, .ref 66), (1, .long ((31 * (ck3 (tC t) k)) + ((nI (nMiss (tC t))).toInt64))), (3, .int (nI k))]) dX5_checksum_140 rfl (by decide) rfl ?_
        refine a_ldc2 (pc := 141) (v := 31) dX5_checksum_141 (lj_RX5_311 rfl) ?_
        refine a_lload_n (pc := 144) (i := 1) dX5_checksum_144 rfl rfl ?_
        refine a_lmul (pc := 145) dX5_checksum_145 ?_
        refine a_aload_n (pc := 146) (i := 0) dX5_checksum_146 rfl rfl ?_
        refine a_xV (pc := 147) (as := []) (b := 66) (ci := 5) dX5_checksum_147 (lc_RX5_279 rfl) ceX5_layPlan rfl (lt90 hn1 (shK_lt (show shK 66 = _ from rfl))) (s5_layPlan (d := d + 227) c1 g r1) rfl rfl (Nat.le_of_ble_eq_true rfl) LPR_n (fun x1 H2 q2 => ?_)
        obtain ⟨ex, ⟨f2, k2⟩, -, -⟩ := q2
        subst ex
        have m2 : MM H2 t := m1.pl (s := tC t) f2 k2
        have c2 := m2.1
        have r2 := m2.2.2.1
        have hn2 := c2.1
        refine a_i2l (pc := 150) dX5_checksum_150 ?_
        refine a_ladd (pc := 151) dX5_checksum_151 ?_
        refine a_lstore_n (pc := 152) (i := 1) (ls' := [(0, .ref 66), (1, .long ((31 * ((31 * (ck3 (tC t) k)) + ((nI (nMiss (tC t))).toInt64))) + ((bestR (tC t)).toInt64))), (3, .int (nI k))]) dX5_checksum_152 rfl (by decide) rfl ?_
        refine a_ldc2 (pc := 153) (v := 31) dX5_checksum_153 (lj_RX5_311 rfl) ?_
        refine a_lload_n (pc := 156) (i := 1) dX5_checksum_156 rfl rfl ?_
        refine a_lmul (pc := 157) dX5_checksum_157 ?_
        refine a_aload_n (pc := 158) (i := 0) dX5_checksum_158 rfl rfl ?_
        refine a_vV1 (pc := 159) (as := []) (b := 66) (ci := 5) (v := .int (nI (nClash (tC t)))) (h' := H2) dX5_checksum_159 (lc_RX5_299 rfl) ceX5_clashesNow rfl (lt90 hn2 (shK_lt (show shK 66 = _ from rfl))) (s5_clashesNow (d := d + 294) c2 g r2) rfl rfl (Nat.le_of_ble_eq_true rfl) rfl ?_
        refine a_i2l (pc := 162) dX5_checksum_162 ?_
        refine a_ladd (pc := 163) dX5_checksum_163 ?_
        exact a_lreturn (pc := 164) dX5_checksum_164 rfl (⟨by rw [ek]; rfl, m2, (f0.fm.trans (f1.fm' (by simp))).trans (f2.fm' (by simp))⟩)
      · skip
        refine a_ldc2 (pc := 105) (v := 31) dX5_checksum_105 (lj_RX5_311 rfl) ?_
        refine a_lload_n (pc := 108) (i := 1) dX5_checksum_108 rfl rfl ?_
        refine a_lmul (pc := 109) dX5_checksum_109 ?_
        refine a_aload_n (pc := 110) (i := 0) dX5_checksum_110 rfl rfl ?_
        refine a_getR (pc := 111) (ci := 5) (k := 8) (b := 68) dX5_checksum_111 (lf_RX5_17 rfl) (by decide) rfl rfl (lt90 hn0 (shK_lt (show shK 66 = _ from rfl))) c0.2.2.2.2.2.2.2.2.1.2.1 ?_
        refine a_sipush (pc := 114) (v := nI 162) dX5_checksum_114 (by decide) ?_
        refine a_iload_n (pc := 117) (i := 3) dX5_checksum_117 rfl rfl ?_
        refine n_iadd (pc := 118) dX5_checksum_118 ?_
        refine a_iald (pc := 119) (j := (162 + k)) dX5_checksum_119 rfl (lt90 hn0 (shK_lt (show shK 68 = _ from rfl))) rfl (by omega) ?_
        refine a_top (show (.int (hI H0 68 (162 + k)) : Value) = .int (nI (sMs (tC t) k)) from congrArg Value.int (r0.2.2.2.2 k c102)) ?_
        refine a_i2l (pc := 120) dX5_checksum_120 ?_
        refine a_ladd (pc := 121) dX5_checksum_121 ?_
        refine a_lstore_n (pc := 122) (i := 1) (ls' := [(0, .ref 66), (1, .long ((31 * (ck3 (tC t) k)) + ((nI (sMs (tC t) k)).toInt64))), (3, .int (nI k))]) dX5_checksum_122 rfl (by decide) rfl ?_
        refine n_iinc (pc := 123) (k := 1) (ls' := [(0, .ref 66), (1, .long ((31 * (ck3 (tC t) k)) + ((nI (sMs (tC t) k)).toInt64))), (3, .int (nI (k + 1)))]) dX5_checksum_123 rfl (by decide) (by decide) rfl ?_
        refine a_goto (pc := 126) (tgt := 95) dX5_checksum_126 (by decide) ?_
        refine a_locs (ls' := [(0, .ref 66), (1, .long (ck3 (tC t) (k + 1))), (3, .int (nI (k + 1)))]) rfl ?_
        exact ih (k + 1) (by omega) (by omega)
  have LX : ∀ (fu : Nat) (x : Nat), x ≤ 2 → 2 - x < fu → AW X mX5_checksum (d + 300) 0 0 36 [(0, .ref 66), (1, .long (cmM (tC t) (sCells (tC t) * x))), (3, .int (nI x))] [] H0 (Qn (.long (ckS (tC t))) t h) := by
    intro fu
    induction fu with
    | zero => intro x hx hz; exact absurd hz (Nat.not_lt_zero _)
    | succ fu ih =>
      intro x hx hz
      have ihO := ih
      refine a_iload_n (pc := 36) (i := 3) dX5_checksum_36 rfl rfl ?_
      refine a_iconst (pc := 37) (v := nI 2) dX5_checksum_37 (by decide) ?_
      refine n_icmp_ge (pc := 38) (tgt := 93) dX5_checksum_38 (by decide) (by omega) (by omega) (fun c38 => ?_) (fun c38 => ?_)
      · have ex : x = 2 := by omega
        refine a_iconst (pc := 93) (v := nI 0) dX5_checksum_93 (by decide) ?_
        refine a_istore_n (pc := 94) (i := 3) (ls' := [(0, .ref 66), (1, .long (cmM (tC t) (sCells (tC t) * x))), (3, .int (nI 0))]) dX5_checksum_94 rfl (by decide) rfl ?_
        refine a_locs (ls' := [(0, .ref 66), (1, .long (ck3 (tC t) 0)), (3, .int (nI 0))]) (by rw [ex, ← ck2_96 g]; rfl) ?_
        exact LZ (sLen (tC t) + 1) 0 (Nat.zero_le _) (by omega)
      · skip
        refine a_iconst (pc := 41) (v := nI 0) dX5_checksum_41 (by decide) ?_
        refine a_istore (pc := 42) (i := 4) (ls' := [(0, .ref 66), (1, .long (cmM (tC t) (sCells (tC t) * x))), (3, .int (nI x)), (4, .int (nI 0))]) dX5_checksum_42 (by decide) rfl ?_
        have LY : ∀ (fu : Nat) (p : Nat), p ≤ sCells (tC t) → sCells (tC t) - p < fu → AW X mX5_checksum (d + 300) 0 0 44 [(0, .ref 66), (1, .long (cmM (tC t) (sCells (tC t) * x + p))), (3, .int (nI x)), (4, .int (nI p))] [] H0 (Qn (.long (ckS (tC t))) t h) := by
          intro fu
          induction fu with
          | zero => intro p hp hz; exact absurd hz (Nat.not_lt_zero _)
          | succ fu ih =>
            intro p hp hz
            refine a_iload (pc := 44) (i := 4) dX5_checksum_44 rfl ?_
            refine a_aload_n (pc := 46) (i := 0) dX5_checksum_46 rfl rfl ?_
            refine a_vV1 (pc := 47) (as := []) (b := 66) (ci := 5) (v := .int (nI (sCells (tC t)))) (h' := H0) dX5_checksum_47 (lc_RX5_172 rfl) ceX5_cells rfl (lt90 hn0 (shK_lt (show shK 66 = _ from rfl))) (s5_cells c0 g r0) rfl rfl (Nat.le_of_ble_eq_true rfl) rfl ?_
            refine n_icmp_ge (pc := 50) (tgt := 87) dX5_checksum_50 (by decide) (by omega) (by omega) (fun c50 => ?_) (fun c50 => ?_)
            · have ep : p = sCells (tC t) := by omega
              refine n_iinc (pc := 87) (k := 1) (ls' := [(0, .ref 66), (1, .long (cmM (tC t) (sCells (tC t) * x + p))), (3, .int (nI (x + 1))), (4, .int (nI p))]) dX5_checksum_87 rfl (by decide) (by decide) rfl ?_
              refine a_goto (pc := 90) (tgt := 36) dX5_checksum_90 (by decide) ?_
              refine a_drop (ls' := [(0, .ref 66), (1, .long (cmM (tC t) (sCells (tC t) * x + p))), (3, .int (nI (x + 1)))]) (by simp) ?_
              refine a_locs (ls' := [(0, .ref 66), (1, .long (cmM (tC t) (sCells (tC t) * (x + 1)))), (3, .int (nI (x + 1)))]) (by rw [ep]; rfl) ?_
              exact ihO (x + 1) (by omega) (by omega)
            · skip
              refine a_ldc2 (pc := 53) (v := 31) dX5_checksum_53 (lj_RX5_311 rfl) ?_
              refine a_ldc2 (pc := 56) (v := 31) dX5_checksum_56 (lj_RX5_311 rfl) ?_
              refine a_lload_n (pc := 59) (i := 1) dX5_checksum_59 rfl rfl ?_
              refine a_lmul (pc := 60) dX5_checksum_60 ?_
              refine a_aload_n (pc := 61) (i := 0) dX5_checksum_61 rfl rfl ?_
              refine a_iload_n (pc := 62) (i := 3) dX5_checksum_62 rfl rfl ?_
              refine a_iload (pc := 63) (i := 4) dX5_checksum_63 rfl ?_
              refine a_vV1 (pc := 65) (as := [.int (nI x), .int (nI p)]) (b := 66) (ci := 5) (v := .int (flet (tC t) (mq (tC t) x p))) (h' := H0) dX5_checksum_65 (lc_RX5_269 rfl) ceX5_toldLetter rfl (lt90 hn0 (shK_lt (show shK 66 = _ from rfl))) (s5_toldLetter (d := d + 296) c0 g r0 (by omega) c50) rfl rfl (Nat.le_of_ble_eq_true rfl) rfl ?_
              refine a_i2l (pc := 68) dX5_checksum_68 ?_
              refine a_ladd (pc := 69) dX5_checksum_69 ?_
              refine a_lmul (pc := 70) dX5_checksum_70 ?_
              refine a_aload_n (pc := 71) (i := 0) dX5_checksum_71 rfl rfl ?_
              refine a_iload_n (pc := 72) (i := 3) dX5_checksum_72 rfl rfl ?_
              refine a_iload (pc := 73) (i := 4) dX5_checksum_73 rfl ?_
              refine a_vV1 (pc := 75) (as := [.int (nI x), .int (nI p)]) (b := 66) (ci := 5) (v := .int (nI (qsz (tC t) (mq (tC t) x p)))) (h' := H0) dX5_checksum_75 (lc_RX5_188 rfl) ceX5_sizeAt rfl (lt90 hn0 (shK_lt (show shK 66 = _ from rfl))) (s5_sizeAt c0 g r0 (by omega) c50) rfl rfl (Nat.le_of_ble_eq_true rfl) rfl ?_
              refine a_i2l (pc := 78) dX5_checksum_78 ?_
              refine a_ladd (pc := 79) dX5_checksum_79 ?_
              refine a_lstore_n (pc := 80) (i := 1) (ls' := [(0, .ref 66), (1, .long ((31 * ((31 * (cmM (tC t) (sCells (tC t) * x + p))) + ((flet (tC t) (mq (tC t) x p)).toInt64))) + ((nI (qsz (tC t) (mq (tC t) x p))).toInt64))), (3, .int (nI x)), (4, .int (nI p))]) dX5_checksum_80 rfl (by decide) rfl ?_
              refine n_iinc (pc := 81) (k := 1) (ls' := [(0, .ref 66), (1, .long ((31 * ((31 * (cmM (tC t) (sCells (tC t) * x + p))) + ((flet (tC t) (mq (tC t) x p)).toInt64))) + ((nI (qsz (tC t) (mq (tC t) x p))).toInt64))), (3, .int (nI x)), (4, .int (nI (p + 1)))]) dX5_checksum_81 rfl (by decide) (by decide) rfl ?_
              refine a_goto (pc := 84) (tgt := 44) dX5_checksum_84 (by decide) ?_
              refine a_locs (ls' := [(0, .ref 66), (1, .long (cmM (tC t) (sCells (tC t) * x + (p + 1)))), (3, .int (nI x)), (4, .int (nI (p + 1)))]) (by rw [cmM_at g c50]) ?_
              exact ih (p + 1) (by omega) (by omega)
        refine a_locs (ls' := [(0, .ref 66), (1, .long (cmM (tC t) (sCells (tC t) * x + 0))), (3, .int (nI x)), (4, .int (nI 0))]) rfl ?_
        exact LY (sCells (tC t) + 1) 0 (Nat.zero_le _) (by omega)
  have LW : ∀ (fu : Nat) (k : Nat), k ≤ 8 → 8 - k < fu → AW X mX5_checksum (d + 300) 0 0 9 [(0, .ref 66), (1, .long (ck1 (tC t) k)), (3, .int (nI k))] [] H0 (Qn (.long (ckS (tC t))) t h) := by
    intro fu
    induction fu with
    | zero => intro k hk hz; exact absurd hz (Nat.not_lt_zero _)
    | succ fu ih =>
      intro k hk hz
      refine a_iload_n (pc := 9) (i := 3) dX5_checksum_9 rfl rfl ?_
      refine a_bipush (pc := 10) (v := nI 8) dX5_checksum_10 (by decide) ?_
      refine n_icmp_ge (pc := 12) (tgt := 34) dX5_checksum_12 (by decide) (by omega) (by omega) (fun c12 => ?_) (fun c12 => ?_)
      · have ek : k = 8 := by omega
        refine a_iconst (pc := 34) (v := nI 0) dX5_checksum_34 (by decide) ?_
        refine a_istore_n (pc := 35) (i := 3) (ls' := [(0, .ref 66), (1, .long (ck1 (tC t) k)), (3, .int (nI 0))]) dX5_checksum_35 rfl (by decide) rfl ?_
        refine a_locs (ls' := [(0, .ref 66), (1, .long (cmM (tC t) (sCells (tC t) * 0))), (3, .int (nI 0))]) (by rw [ek]; rfl) ?_
        exact LX 3 0 (by omega) (by omega)
      · skip
        refine a_ldc2 (pc := 15) (v := 31) dX5_checksum_15 (lj_RX5_311 rfl) ?_
        refine a_lload_n (pc := 18) (i := 1) dX5_checksum_18 rfl rfl ?_
        refine a_lmul (pc := 19) dX5_checksum_19 ?_
        refine a_aload_n (pc := 20) (i := 0) dX5_checksum_20 rfl rfl ?_
        refine a_iload_n (pc := 21) (i := 3) dX5_checksum_21 rfl rfl ?_
        refine a_vV1 (pc := 22) (as := [.int (nI k)]) (b := 66) (ci := 5) (v := .int (stV (tC t) k)) (h' := H0) dX5_checksum_22 (lc_RX5_263 rfl) ceX5_told rfl (lt90 hn0 (shK_lt (show shK 66 = _ from rfl))) (s5_told (d := d + 294) c0 g r0 c12) rfl rfl (Nat.le_of_ble_eq_true rfl) rfl ?_
        refine a_i2l (pc := 25) dX5_checksum_25 ?_
        refine a_ladd (pc := 26) dX5_checksum_26 ?_
        refine a_lstore_n (pc := 27) (i := 1) (ls' := [(0, .ref 66), (1, .long ((31 * (ck1 (tC t) k)) + ((stV (tC t) k).toInt64))), (3, .int (nI k))]) dX5_checksum_27 rfl (by decide) rfl ?_
        refine n_iinc (pc := 28) (k := 1) (ls' := [(0, .ref 66), (1, .long ((31 * (ck1 (tC t) k)) + ((stV (tC t) k).toInt64))), (3, .int (nI (k + 1)))]) dX5_checksum_28 rfl (by decide) (by decide) rfl ?_
        refine a_goto (pc := 31) (tgt := 9) dX5_checksum_31 (by decide) ?_
        refine a_locs (ls' := [(0, .ref 66), (1, .long (ck1 (tC t) (k + 1))), (3, .int (nI (k + 1)))]) rfl ?_
        exact ih (k + 1) (by omega) (by omega)
  refine a_lconst (pc := 5) (v := 0) dX5_checksum_5 (by decide) ?_
  refine a_lstore_n (pc := 6) (i := 1) (ls' := [(0, .ref 66), (1, .long 0)]) dX5_checksum_6 rfl (by decide) rfl ?_
  refine a_iconst (pc := 7) (v := nI 0) dX5_checksum_7 (by decide) ?_
  refine a_istore_n (pc := 8) (i := 3) (ls' := [(0, .ref 66), (1, .long 0), (3, .int (nI 0))]) dX5_checksum_8 rfl (by decide) rfl ?_
  refine a_locs (ls' := [(0, .ref 66), (1, .long (ck1 (tC t) 0)), (3, .int (nI 0))]) rfl ?_
  exact LW 9 0 (by omega) (by omega)
