/-! the law's text, read -/
def RdS (s : SH) (W H v : Nat) (Ln : Nat → List Nat) (f : Nat → Nat) : Prop :=
  (sW s = W ∧ sH s = H ∧ sS s = v) ∧ (sLen s = 0 ∧ sCu s = 0 ∧ sTk s = 0) ∧ (∀ c, ¬ sGn s c) ∧ (∀ i c, i < H + H → c < W → sLt s (i / H) (i % H * W + c) = ltv (nI ((Ln i).getD c 0))) ∧ ∀ i, i < H + H → sSz s (i / H) (i % H) = f i
theorem hdT_eq {W H : Nat} : hdT W H = [112, 97, 103, 101, 32, 48 + W, 32, 48 + H] := by
  have z7 : zT 7 = [112, 97, 103, 101, 32] := by decide +kernel
  have z8 : zT 8 = [32] := by decide +kernel
  unfold hdT
  rw [z7, z8]
  rfl
theorem zW_eq : (∀ j : Fin 4, (zT 0).getD j.1 0 = [112, 97, 103, 101].getD j.1 0) ∧ (∀ j : Fin 5, (zT 9).getD (j.1 + 1) 0 = (zT 1).getD j.1 0) ∧ (∀ j : Fin 4, (zT 10).getD (j.1 + 1) 0 = (zT 2).getD j.1 0) ∧ (∀ j : Fin 5, (zT 11).getD (j.1 + 1) 0 = (zT 3).getD j.1 0) ∧ (∀ j : Fin 5, (zT 12).getD (j.1 + 1) 0 = (zT 4).getD j.1 0) := by decide +kernel
theorem zS_eq : (zT 9).getD 0 0 = 59 ∧ (zT 10).getD 0 0 = 59 ∧ (zT 11).getD 0 0 = 59 ∧ (zT 12).getD 0 0 = 59 ∧ (zT 12).getD 6 0 = 32 := by decide +kernel
theorem zL_eq : zLen.getD 1 0 = 5 ∧ zLen.getD 2 0 = 4 ∧ zLen.getD 3 0 = 5 ∧ zLen.getD 4 0 = 5 := by decide
theorem wda_of {n i a L : Nat} {Y : Nat → Int32} {T : List Nat} (hY : ∀ j x, j < n → T.getD j 0 = x → Y j = nI x) (hi : i < 5) (hL : zLen.getD i 0 = L) (hn : a + L < n) (h : ∀ j, j < L → T.getD (a + j) 0 = (zT i).getD j 0) (h32 : T.getD (a + L) 0 = 32) : WDa Y i a := by
  subst hL
  have z := zT_ok (i := i) (by omega)
  exact ⟨fun j hj => by rw [z.2.1 j hj]; exact hY _ _ (by omega) (h j hj), hY _ _ hn h32⟩
theorem dSide_at {s : SH} {x y p : Nat} {f : Nat → Nat → Int32} : sLt (dSide s x f) y p = if y = x then f (p / sW s) (p % sW s) else sLt s y p := rfl
theorem rd_side {s : SH} {n H W : Nat} {Y : Nat → Int32} {e : Int32 × Int32} {Ln : Nat → List Nat} {b0 b1 : Nat} (hW : 1 ≤ W) (hH : 1 ≤ H) (hs : s = dSide (dSide (newS W H) 0 (lnv n Y W (b0, e))) 1 (lnv n Y W (b1, e)))
    (l0 : ∀ r c, r < H → c < W → lnv n Y W (b0, e) r c = ltv (nI ((Ln r).getD c 0))) (l1 : ∀ r c, r < H → c < W → lnv n Y W (b1, e) r c = ltv (nI ((Ln (H + r)).getD c 0))) : RdS s W H 1 Ln (fun _ => 1) := by
  subst hs
  refine ⟨⟨rfl, rfl, rfl⟩, ⟨rfl, rfl, rfl⟩, fun c z => z, fun i c hi hc => ?_, fun i _ => rfl⟩
  rcases Nat.lt_or_ge i H with z | z
  · rw [Nat.div_eq_of_lt z, Nat.mod_eq_of_lt z]
    obtain ⟨d1, d2⟩ := rw_div (W := W) (r := i) hc
    rw [dSide_at, if_neg (show ¬ (0 : Nat) = 1 by omega), dSide_at, if_pos rfl]
    show lnv n Y W (b0, e) ((i * W + c) / W) ((i * W + c) % W) = _
    rw [d1, d2]
    exact l0 i c z hc
  · have q1 : i / H = 1 := by rw [show i = H + (i - H) by omega, Nat.add_div_left _ hH, Nat.div_eq_of_lt (by omega)]
    have q2 : i % H = i - H := by rw [show i = H + (i - H) by omega, Nat.add_mod_left, Nat.mod_eq_of_lt (by omega)]; omega
    rw [q1, q2]
    obtain ⟨d1, d2⟩ := rw_div (W := W) (r := i - H) hc
    rw [dSide_at, if_pos rfl]
    show lnv n Y W (b1, e) (((i - H) * W + c) / W) (((i - H) * W + c) % W) = _
    rw [d1, d2, l1 (i - H) c (by omega) hc, show H + (i - H) = i by omega]
theorem RdS.sizes {s : SH} {W H v : Nat} {Ln : Nat → List Nat} {f0 f g : Nat → Nat} (r : RdS s W H v Ln f0) (hg : ∀ i, i < H + H → g i = f i) (hf : ∀ i, i < H + H → 1 ≤ f i ∧ f i ≤ 9) : RdS (dSizes s g) W H v Ln f := by
  obtain ⟨⟨r1, r2, r3⟩, r4, r5, r6, r7⟩ := r
  refine ⟨⟨r1, r2, r3⟩, r4, r5, r6, fun i hi => ?_⟩
  show max 1 (min 9 (g (i / H * sH s + i % H))) = f i
  rw [r2, Nat.div_add_mod', hg i hi]
  have := hf i hi
  omega
theorem RdS.least {s : SH} {W H v0 v : Nat} {Ln : Nat → List Nat} {f : Nat → Nat} (r : RdS s W H v0 Ln f) (hv : 1 ≤ v ∧ v ≤ 9) : RdS (dLeast s v) W H v Ln f := by
  obtain ⟨⟨r1, r2, r3⟩, r4, r5, r6, r7⟩ := r
  exact ⟨⟨r1, r2, by show max 1 (min 9 v) = v; omega⟩, r4, r5, r6, r7⟩
theorem pRead_law {n W H v a1 a2 : Nat} {Y : Nat → Int32} {T : List Nat} {Ln : Nat → List Nat} {f : Nat → Nat} (hY0 : ∀ j, j < n → Y j = nI (T.getD j 0)) (hW : 1 ≤ W ∧ W ≤ 8) (hH : 1 ≤ H ∧ H ≤ 6) (lt : LNs T W H (H + H) Ln) (hLn : ∀ r, r < H + H → ∀ j, j < W → okq ((Ln r).getD j 0))
    (hs : (a1 = psn W H (H + H) ∧ ∀ r, r < H + H → f r = 1) ∨ (a1 = psn W H (H + H) + 6 + 2 * (H + H) ∧ SZs T (psn W H (H + H)) (H + H) f ∧ ∀ r, r < H + H → 1 ≤ f r ∧ f r ≤ 9))
    (hl : (a2 = a1 ∧ v = 1) ∨ (a2 = a1 + 8 ∧ LSs T a1 v ∧ 1 ≤ v ∧ v ≤ 9)) (he : n = a2 + 2 ∧ T.getD a2 0 = 32 ∧ T.getD (a2 + 1) 0 = 59) : (pRead n Y).1.2.1 = 0 ∧ RdS (pRead n Y).2.2 W H v Ln f := by
  have hY : ∀ j x, j < n → T.getD j 0 = x → Y j = nI x := fun j x hj e => by rw [hY0 j hj, e]
  obtain ⟨t1, t2, t3, t4⟩ := lt
  have t2 := t2 (by omega)
  have t3 := t3 (by omega)
  have ep : psn W H (H + H) = 19 + (H * (W + 1) + H * (W + 1)) := by unfold psn; rw [if_neg (by omega), Nat.add_mul]
  obtain ⟨E, hE⟩ : ∃ E, E = psn W H (H + H) := ⟨_, rfl⟩
  rw [← hE] at hs ep
  obtain ⟨A, hA⟩ : ∃ A, A = H * (W + 1) := ⟨_, rfl⟩
  have q9 : 1 * (W + 1) ≤ H * (W + 1) := Nat.mul_le_mul_right _ hH.1
  have hE1 : a1 = E ∨ a1 = E + 6 + 2 * (H + H) := hs.imp And.left And.left
  have hE2 : a2 = a1 ∨ a2 = a1 + 8 := hl.imp And.left And.left
  have hn : E + 2 ≤ n := by omega
  rw [← hA] at ep q9 t3
  have hd := fun j hj => t1 j hj
  simp only [hdT_eq] at hd
  have p0 := page_run (n := n) (W := W) (H := H) (Y := Y) (e := ((0 : Int32), (-1 : Int32))) (by omega) hW hH (fun j hj => by
      rw [(zT_ok (i := 0) (by omega)).2.1 j hj]
      refine hY j _ (by omega) ?_
      rw [hd j (by omega), zW_eq.1 ⟨j, hj⟩]
      match j, hj with
      | 0, _ => rfl
      | 1, _ => rfl
      | 2, _ => rfl
      | 3, _ => rfl) (hY 4 32 (by omega) (hd 4 (by omega))) (hY 5 _ (by omega) (hd 5 (by omega))) (hY 6 32 (by omega) (hd 6 (by omega))) (hY 7 _ (by omega) (hd 7 (by omega))) (hY 8 59 (by omega) ((t2 0 (by omega)).trans zS_eq.1))
  have e1 : pRead n Y = pGo n Y 5 ((9, ((0 : Int32), (-1 : Int32))), (fun _ => 0), newS W H) := by
    unfold pRead pPz
    rw [p0.1, p0.2.1, p0.2.2]
  have pH : ∀ r, r < H → psn W H r = 14 + r * (W + 1) := fun r hr => by unfold psn; rw [if_pos hr]
  have pB : ∀ r, psn W H (H + r) = 19 + A + r * (W + 1) := fun r => by unfold psn; rw [if_neg (by omega), Nat.add_mul, hA]; omega
  have ms : ∀ r, r < H → r * (W + 1) + (W + 1) ≤ A := fun r hr => by rw [hA]; exact mul_step hr
  have w1 : WDa Y 1 9 := wda_of hY (by omega) zL_eq.1 (by omega) (fun j hj => by rw [← zW_eq.2.1 ⟨j, hj⟩, show 9 + j = 8 + (j + 1) by omega]; exact t2 (j + 1) (by omega)) (by
    have := (t4 0 (by omega)).1
    rw [pH 0 (by omega), Nat.zero_mul] at this
    exact this)
  have w2 : WDa Y 2 (14 + H * (W + 1) + 1) := by
    rw [← hA]
    refine wda_of hY (by omega) zL_eq.2.1 (by omega) (fun j hj => by rw [← zW_eq.2.2.1 ⟨j, hj⟩, show 14 + A + 1 + j = 14 + A + (j + 1) by omega]; exact t3 (j + 1) (by omega)) ?_
    have := (t4 (H + 0) (by omega)).1
    rw [pB 0, Nat.zero_mul] at this
    rw [show 14 + A + 1 + 4 = 19 + A + 0 by omega]
    exact this
  have l1 : LNa Y 14 W H (fun r c => (Ln r).getD c 0) := ⟨fun r hr => by
      have m1 := ms r hr
      refine hY _ _ (by omega) ?_
      rw [← pH r hr]
      exact (t4 r (by omega)).1, fun r j hr hj => ⟨hLn r (by omega) j hj, by
      have m1 := ms r hr
      refine hY _ _ (by omega) ?_
      rw [← pH r hr]
      exact (t4 r (by omega)).2 j hj⟩⟩
  have l2 : LNa Y (14 + H * (W + 1) + 1 + 4) W H (fun r c => (Ln (H + r)).getD c 0) := by
    rw [← hA, show 14 + A + 1 + 4 = 19 + A by omega]
    exact ⟨fun r hr => by
      have m1 := ms r hr
      refine hY _ _ (by omega) ?_
      rw [← pB r]
      exact (t4 (H + r) (by omega)).1, fun r j hr hj => ⟨hLn (H + r) (by omega) j hj, by
      have m1 := ms r hr
      refine hY _ _ (by omega) ?_
      rw [← pB r]
      exact (t4 (H + r) (by omega)).2 j hj⟩⟩
  have s1 : Y (14 + H * (W + 1)) = nI 59 := by rw [← hA]; exact hY _ _ (by omega) ((t3 0 (by omega)).trans zS_eq.2.1)
  have q2 : E = 14 + H * (W + 1) + 1 + 4 + H * (W + 1) := by rw [← hA]; omega
  have n59 : ∀ {x : Int32}, x = nI 59 → ∃ c, c < 128 ∧ ((c < 97 ∨ 122 < c) ∧ c ≠ 45) ∧ x = nI c := fun h => ⟨59, by omega, by omega, h⟩
  have hc : ∃ c, c ≤ 1 ∧ (∀ j, j < c → Y (E + j) = nI 32) ∧ Y (E + c) = nI 59 ∧ E + c < n ∧ (c = 1 ↔ a2 = E) := by
    rcases (by omega : a2 = E ∨ a2 ≠ E) with z | z
    · exact ⟨1, Nat.le_refl _, fun j hj => hY _ _ (by omega) (by rw [show E + j = a2 by omega]; exact he.2.1), hY _ _ (by omega) (by rw [show E + 1 = a2 + 1 by omega]; exact he.2.2), by omega, by omega⟩
    · refine ⟨0, by omega, fun j hj => absurd hj (Nat.not_lt_zero j), hY _ _ (by omega) ?_, by omega, by omega⟩
      rcases hs with ⟨s0, -⟩ | ⟨-, s0, -⟩
      · rcases hl with ⟨y, -⟩ | ⟨-, y, -⟩
        · exact absurd (y.trans s0) z
        · rw [s0] at y; exact (y.1 0 (by omega)).trans zS_eq.2.2.2.1
      · exact (s0.1 0 (by omega)).trans zS_eq.2.2.1
  obtain ⟨c, hc1, hc2, hc3, hc4, hc5⟩ := hc
  have fb := fb_run (n := n) (W := W) (H := H) (e := ((0 : Int32), (-1 : Int32))) rfl hW.1 hc1 rfl q2 hc4 w1 l1 s1 w2 l2 hc2 hc3
  have k1 := (lines_at (n := n) (e := ((0 : Int32), (-1 : Int32))) hW.1 l1 (by rw [← hA]; omega) (Or.inr (n59 s1))).2
  have k2 := (lines_at (n := n) (e := ((0 : Int32), (-1 : Int32))) hW.1 l2 (by rw [← hA] at q2 ⊢; omega) (Or.inr (by
    rw [← q2]
    rcases (by omega : c = 0 ∨ c = 1) with z | z
    · exact n59 (by rw [z] at hc3; exact hc3)
    · exact ⟨32, by omega, by omega, hc2 0 (by omega)⟩))).2
  have rs := rd_side (e := ((0 : Int32), (-1 : Int32))) hW.1 hH.1 rfl k1 k2
  rw [e1, fb]
  obtain ⟨s0, hs0⟩ : ∃ s0, s0 = dSide (dSide (newS W H) 0 (lnv n Y W (14, ((0 : Int32), (-1 : Int32))))) 1 (lnv n Y W (14 + H * (W + 1) + 1 + 4, ((0 : Int32), (-1 : Int32)))) := ⟨_, rfl⟩
  rw [← hs0] at rs ⊢
  have eH : sH s0 + sH s0 = H + H := by rw [rs.1.2.1]
  have e2 : (E + c + 1 : Nat) = if a2 = E then E + 2 else E + 1 := by
    by_cases z : a2 = E
    · rw [if_pos z]; have := hc5.mpr z; omega
    · rw [if_neg z]; have : c ≠ 1 := fun y => z (hc5.mp y); omega
  have lsT : ∀ {s : SH} {fl : Nat → Nat} {m : Nat} {f : Nat → Nat}, a2 = a1 + 8 → LSs T a1 v → 1 ≤ v ∧ v ≤ 9 → fl 3 = 0 → RdS s W H 1 Ln f → (pGo n Y (m + 1) ((a1 + 1, ((0 : Int32), (-1 : Int32))), fl, s)).1.2.1 = 0 ∧ RdS (pGo n Y (m + 1) ((a1 + 1, ((0 : Int32), (-1 : Int32))), fl, s)).2.2 W H v Ln f := fun {s} {fl} {m} {f} z1 z2 z3 z4 r => by
    have w4 : WDa Y 4 (a1 + 1) := wda_of hY (by omega) zL_eq.2.2.2 (by omega) (fun j hj => by rw [← zW_eq.2.2.2.2 ⟨j, hj⟩, show a1 + 1 + j = a1 + (j + 1) by omega]; exact z2.1 (j + 1) (by omega)) ((z2.1 6 (by omega)).trans zS_eq.2.2.2.2)
    rw [ls_run (m := m) (v := v) (e := ((0 : Int32), (-1 : Int32))) (fl := fl) (s := s) rfl z4 w4 (by omega) z3 (hY _ _ (by omega) ((z2.1 6 (by omega)).trans zS_eq.2.2.2.2)) (hY _ _ (by omega) z2.2) (hY _ _ (by omega) (by rw [show a1 + 1 + 5 + 2 = a2 by omega]; exact he.2.1)) (hY _ _ (by omega) (by rw [show a1 + 1 + 5 + 2 + 1 = a2 + 1 by omega]; exact he.2.2)), show a1 + 1 + 5 + 2 + 1 + 1 = n by omega, go_end]
    exact ⟨rfl, r.least z3⟩
  rcases hs with ⟨s1', s2'⟩ | ⟨s1', s2', s3'⟩
  · have r0 : RdS s0 W H 1 Ln f := by
      obtain ⟨r1, r4, r5, r6, r7⟩ := rs
      exact ⟨r1, r4, r5, r6, fun i hi => (r7 i hi).trans (s2' i hi).symm⟩
    rcases hl with ⟨y1, rfl⟩ | ⟨y1, y2, y3⟩
    · rw [e2, if_pos (y1.trans s1'), show E + 2 = n by omega, go_end]
      exact ⟨rfl, r0⟩
    · rw [e2, if_neg (by omega), ← s1']
      exact lsT y1 y2 y3 rfl r0
  · rw [e2, if_neg (by omega)]
    have w3 : WDa Y 3 (E + 1) := wda_of hY (by omega) zL_eq.2.2.1 (by omega) (fun j hj => by rw [← zW_eq.2.2.2.1 ⟨j, hj⟩, show E + 1 + j = E + (j + 1) by omega]; exact s2'.1 (j + 1) (by omega)) (by
      have := (s2'.2 0 (by omega)).1
      rw [show E + 1 + 5 = E + 6 + 2 * 0 by omega]; exact this)
    have hd2 : ∀ r, r < H + H → (1 ≤ f r ∧ f r ≤ 9) ∧ Y (E + 1 + 5 + 2 * r) = nI 32 ∧ Y (E + 1 + 5 + 2 * r + 1) = nI (48 + f r) := fun r hr => ⟨s3' r hr, hY _ _ (by omega) (by rw [show E + 1 + 5 + 2 * r = E + 6 + 2 * r by omega]; exact (s2'.2 r hr).1), hY _ _ (by omega) (by rw [show E + 1 + 5 + 2 * r + 1 = E + 6 + 2 * r + 1 by omega]; exact (s2'.2 r hr).2)⟩
    rcases hl with ⟨y1, rfl⟩ | ⟨y1, y2, y3⟩
    · obtain ⟨z1, z2⟩ := sz_run (n := n) (m := 2) (a := E + 1) (c := 1) (K := H + H) (Y := Y) (e := ((0 : Int32), (-1 : Int32))) (fl := flS (flS (fun _ => 0) 0) 1) (s := s0) (f := f) rfl (Nat.le_refl _) eH.symm rfl w3 (by omega) hd2 (fun j hj => hY _ _ (by omega) (by rw [show E + 1 + 5 + 2 * (H + H) + j = a2 by omega]; exact he.2.1)) (hY _ _ (by omega) (by rw [show E + 1 + 5 + 2 * (H + H) + 1 = a2 + 1 by omega]; exact he.2.2))
      rw [z1, show E + 1 + 5 + 2 * (H + H) + 1 + 1 = n by omega, go_end]
      exact ⟨rfl, rs.sizes z2 s3'⟩
    · obtain ⟨z1, z2⟩ := sz_run (n := n) (m := 2) (a := E + 1) (c := 0) (K := H + H) (Y := Y) (e := ((0 : Int32), (-1 : Int32))) (fl := flS (flS (fun _ => 0) 0) 1) (s := s0) (f := f) rfl (by omega) eH.symm rfl w3 (by omega) hd2 (fun j hj => absurd hj (Nat.not_lt_zero j)) (hY _ _ (by omega) (by rw [show E + 1 + 5 + 2 * (H + H) + 0 = a1 + 0 by omega]; exact (y2.1 0 (by omega)).trans zS_eq.2.2.2.1))
      rw [z1, show E + 1 + 5 + 2 * (H + H) + 0 + 1 = a1 + 1 by omega]
      exact lsT y1 y2 y3 rfl (rs.sizes z2 s3')
