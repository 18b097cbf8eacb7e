/-! the class LetterCutsModel: plans, what they rest on -/
/-- a first cut behind which just c - 1 cuts are left -/
def okE (s : SH) (k : Nat) (X : Nat → Prop) (c n q : Nat) : Prop := stOK s k q n X ∧ ∃ l, plV s (k + n) (uX X (pcl s q n)) l ∧ l.length + 1 = c
def isPe (s : SH) (k : Nat) (X : Nat → Prop) (c n q : Nat) : Prop := okE s k X c n q ∧ ∀ n2 q2, okE s k X c n2 q2 → n2 < n ∨ (n2 = n ∧ q ≤ q2)
def GE (s : SH) : Nat → (Nat → Prop) → List (Nat × Nat) → Prop
  | k, _, [] => k = sLen s
  | k, X, (n, q) :: r => isPe s k X (r.length + 1) n q ∧ GE s (k + n) (uX X (pcl s q n)) r
theorem GE_plV {s : SH} : ∀ {l : List (Nat × Nat)} {k : Nat} {X : Nat → Prop}, GE s k X l → plV s k X l
  | [], _, _, h => h
  | (n, q) :: r, _, _, h => ⟨h.1.1.1, GE_plV h.2⟩
theorem GE_GP {s : SH} : ∀ {l : List (Nat × Nat)} {k : Nat} {X : Nat → Prop}, (∀ l0, plV s k X l0 → l.length ≤ l0.length) → GE s k X l → GP s k X l.length l
  | [], _, _, _, h => h
  | (n, q) :: r, k, X, hm, h => by
    have hk : ∀ l0, plV s (k + n) (uX X (pcl s q n)) l0 → r.length ≤ l0.length := fun l0 hl => by
      have := hm ((n, q) :: l0) ⟨h.1.1.1, hl⟩
      simpa using this
    have conv : ∀ n2 q2, okP s k X (r.length + 1) n2 q2 → okE s k X (r.length + 1) n2 q2 := by
      rintro n2 q2 ⟨h1, l0, h2, h3⟩
      have := hm ((n2, q2) :: l0) ⟨h1, h2⟩
      have e : ((n2, q2) :: l0).length = l0.length + 1 := rfl
      have e2 : ((n, q) :: r).length = r.length + 1 := rfl
      exact ⟨h1, l0, h2, by omega⟩
    obtain ⟨⟨⟨h1, l0, h2, h3⟩, h4⟩, h5⟩ := h
    exact ⟨⟨⟨h1, l0, h2, by show l0.length + 1 ≤ r.length + 1; omega⟩, fun n2 q2 ho => h4 n2 q2 (conv n2 q2 ho)⟩, GE_GP hk h5⟩
theorem GE_BP {s : SH} {X : Nat → Prop} {l : List (Nat × Nat)} (hm : ∀ l0, plV s 0 X l0 → l.length ≤ l0.length) (h : GE s 0 X l) : BP s X l := ⟨l.length, hm, GE_GP hm h, rfl⟩
/-- a bound below on the cuts that are left -/
def NBm (s : SH) (f : Nat → Nat) : Prop := f (sLen s) = 0 ∧ ∀ k, k < sLen s → ∀ q n, q < 96 → 1 ≤ n → n ≤ qrun s k q → f k ≤ 1 + f (k + n)
theorem NB_le {s : SH} {f : Nat → Nat} (hf : NBm s f) : ∀ {l : List (Nat × Nat)} {k : Nat} {X : Nat → Prop}, plV s k X l → f k ≤ l.length
  | [], k, _, h => by have h : k = sLen s := h; rw [h, hf.1]; exact Nat.zero_le _
  | (n, q) :: r, k, X, h => by
    have h1 := NB_le hf h.2
    have h2 := hf.2 k (by have := h.1.2.1; have := h.1.1.1; omega) q n h.1.1.2 h.1.1.1 h.1.2.2.1
    show f k ≤ r.length + 1
    omega
/-- the cells that the letters from k on can have -/
def MP (s : SH) (k b : Nat) : Prop := ∃ j, (k ≤ j ∧ j < sLen s) ∧ cwP s (nI (sMs s j)) b
theorem strip_MP {s : SH} (g : GS s) {k q n : Nat} {X : Nat → Prop} (h : stOK s k q n X) : ∀ b, pcl s q n b → MP s k b := fun b ⟨j, hj, e⟩ => by
  have h1 := (strip_cw g h).1 j hj
  have h2 := h.2.1
  rw [msA_lt (by omega)] at h1
  rw [e]
  exact ⟨k + j, by omega, h1⟩
theorem plV_M {s : SH} (g : GS s) : ∀ {l : List (Nat × Nat)} {k : Nat} {X Y : Nat → Prop}, (∀ b, MP s k b → (X b ↔ Y b)) → plV s k X l → plV s k Y l
  | [], _, _, _, _, h => h
  | (n, q) :: r, k, X, Y, hm, h => ⟨⟨h.1.1, h.1.2.1, h.1.2.2.1, fun b hb z => h.1.2.2.2 b hb ((hm b (strip_MP g h.1 b hb)).mpr z)⟩, plV_M g (fun b ⟨j, h1, h2⟩ => by
    have := hm b ⟨j, by omega, h2⟩
    exact ⟨fun z => z.imp this.mp id, fun z => z.imp this.mpr id⟩) h.2⟩
def MPc (s : SH) (k : Nat) : Nat → Prop := fun b => b < sCells s ∧ MP s k (mb s b)
def MTm (h : AH) (s : SH) : Prop := ∀ k, k ≤ sLen s → hL h 86 k = mkL (MPc s k)
def NDm (h : AH) (s : SH) (f : Nat → Nat) : Prop := NBm s f ∧ (∀ k, k ≤ sLen s → hI h 82 k = nI (f k)) ∧ ∀ k, f k ≤ 99 ∧ (k < sLen s → 1 ≤ f k)
theorem MPc_s {s : SH} {j : Nat} (hj : j < sLen s) : mkL (fun b => MPc s (j + 1) b ∨ (b < sCells s ∧ cwP s (nI (sMs s j)) (mb s b))) = mkL (MPc s j) := mkL_c fun b _ => by
  constructor
  · rintro (⟨h1, i, h2, h3⟩ | ⟨h1, h2⟩)
    · exact ⟨h1, i, by omega, h3⟩
    · exact ⟨h1, j, by omega, h2⟩
  · rintro ⟨h1, i, h2, h3⟩
    by_cases e : i = j
    · subst e; exact Or.inr ⟨h1, h3⟩
    · exact Or.inl ⟨h1, i, by omega, h3⟩
set_option maxHeartbeats 1500000 in
set_option maxRecDepth 100000 in
theorem s5_layNeeded {d : Nat} {h : AH} {s : SH} (c : CB h) (g : GS s) (r : DM h 68 s) (h8 : sLen s ≤ 8) : AC mX5_layNeeded (d + 7) 0 0 [.ref 66] h (Qf [82, 86] none h (fun h2 => (∃ f, NDm h2 s f) ∧ MTm h2 s)) := by
  have hn := c.1
  have gw := g.1
  have gh := g.2.1
  have gl := g.2.2.2.2.2.1
  have gc := cells48 g
  refine AC.of (by decide) rfl (Nat.le_of_ble_eq_true rfl) (fun X => ?_)
  show AW X mX5_layNeeded (d + 7) 0 0 0 [(0, .ref 66)] [] h (Qf [82, 86] none h (fun h2 => (∃ f, NDm h2 s f) ∧ MTm h2 s))
  have LP : ∀ (fu : Nat) (i : Nat) (H : AH), i ≤ sLen s → Fr [82, 86] h H → (∀ k, i ≤ k → k ≤ sLen s → hL H 86 k = mkL (MPc s k)) → (∃ f : Nat → Nat, f (sLen s) = 0 ∧ (∀ k, i ≤ k → k ≤ sLen s → hI H 82 k = nI (f k)) ∧ (∀ k, i ≤ k → k < sLen s → ∀ q n, q < 96 → 1 ≤ n → n ≤ qrun s k q → f k ≤ 1 + f (k + n)) ∧ ∀ k, f k ≤ 99 ∧ (k < sLen s → 1 ≤ f k)) → i < fu → AW X mX5_layNeeded (d + 7) 0 0 33 [(0, .ref 66), (1, .int (nI i - nI 1))] [] H (Qf [82, 86] none h (fun h2 => (∃ f, NDm h2 s f) ∧ MTm h2 s)) := by
    intro fu
    induction fu with
    | zero => intro i H hi hf hm hb hz; exact absurd hz (Nat.not_lt_zero _)
    | succ fu ih =>
      intro i H hi hf hm hb hz
      have ihO := ih
      have c1 := c.fr hf
      have hn1 := c1.1
      have r1 := r.fr hf (by simp)
      refine a_iload_n (pc := 33) (i := 1) dX5_layNeeded_33 rfl rfl ?_
      refine a_if_lt (pc := 34) (tgt := 155) dX5_layNeeded_34 (by decide) (fun c34 => ?_) (fun c34 => ?_)
      · have ei : i = 0 := (pre_neg (by omega)).mp c34
        subst ei
        obtain ⟨f, b1, b2, b3, b4⟩ := hb
        exact a_return (pc := 155) dX5_layNeeded_155 rfl (⟨rfl, hf, ⟨f, ⟨b1, fun k hk => b3 k (Nat.zero_le _) hk⟩, fun k hk => b2 k (Nat.zero_le _) hk, b4⟩, fun k hk => hm k (Nat.zero_le _) hk⟩)
      · obtain ⟨j, rfl⟩ : ∃ j, i = j + 1 := ⟨i - 1, by have : i ≠ 0 := fun z => c34 ((pre_neg (by omega)).mpr z); omega⟩
        refine a_locs (ls' := [(0, .ref 66), (1, .int (nI j))]) (by rw [pk_sub (by omega)]; rfl) ?_
        refine a_aload_n (pc := 37) (i := 0) dX5_layNeeded_37 rfl rfl ?_
        refine a_getR (pc := 38) (ci := 5) (k := 22) (b := 86) dX5_layNeeded_38 (lf_RX5_50 rfl) (by decide) rfl rfl (lt90 hn1 (shK_lt (show shK 66 = _ from rfl))) c1.2.2.2.2.2.2.2.2.1.2.2.2.2.2.2.2.2.2.2.2.1 ?_
        refine a_iload_n (pc := 41) (i := 1) dX5_layNeeded_41 rfl rfl ?_
        refine a_aload_n (pc := 42) (i := 0) dX5_layNeeded_42 rfl rfl ?_
        refine a_getR (pc := 43) (ci := 5) (k := 22) (b := 86) dX5_layNeeded_43 (lf_RX5_50 rfl) (by decide) rfl rfl (lt90 hn1 (shK_lt (show shK 66 = _ from rfl))) c1.2.2.2.2.2.2.2.2.1.2.2.2.2.2.2.2.2.2.2.2.1 ?_
        refine a_iload_n (pc := 46) (i := 1) dX5_layNeeded_46 rfl rfl ?_
        refine a_iconst (pc := 47) (v := nI 1) dX5_layNeeded_47 (by decide) ?_
        refine n_iadd (pc := 48) dX5_layNeeded_48 ?_
        refine a_lald (pc := 49) (j := (j + 1)) dX5_layNeeded_49 rfl (lt90 hn1 (shK_lt (show shK 86 = _ from rfl))) rfl (by omega) ?_
        refine a_top (show (.long (hL H 86 (j + 1)) : Value) = .long (mkL (MPc s (j + 1))) from congrArg Value.long (hm (j + 1) (Nat.le_refl _) hi)) ?_
        refine a_last (pc := 50) (j := j) dX5_layNeeded_50 rfl (lt90 hn1 (shK_lt (show shK 86 = _ from rfl))) rfl (by omega) ?_
        refine a_iconst (pc := 51) (v := nI 0) dX5_layNeeded_51 (by decide) ?_
        refine a_istore_n (pc := 52) (i := 2) (ls' := [(0, .ref 66), (1, .int (nI j)), (2, .int (nI 0))]) dX5_layNeeded_52 rfl (by decide) rfl ?_
        obtain ⟨H1, hH1⟩ : ∃ Hx, Hx = sL H 86 j (mkL (MPc s (j + 1))) := ⟨_, rfl⟩
        have f1 : Fr [86] H H1 := by rw [hH1]; exact Fr.refl.sL (by simp)
        have q1 : ∀ k, k ≠ j → hL H1 86 k = hL H 86 k := fun k hk => by rw [hH1]; exact rd5 (Or.inr hk)
        have q2 : hL H1 86 j = mkL (fun b => MPc s (j + 1) b ∨ (b < 0 ∧ cwP s (nI (sMs s j)) (mb s b))) := by rw [hH1, rd6 ⟨rfl, rfl⟩]; exact mkL_c fun b _ => ⟨Or.inl, fun z => z.elim id (fun z => absurd z.1 (by omega))⟩
        refine a_heap (h' := H1) hH1.symm ?_
        have LC : ∀ (fu : Nat) (b : Nat) (H2 : AH), b ≤ sCells s → Fr [86] H H2 → (∀ k, k ≠ j → hL H2 86 k = hL H 86 k) → hL H2 86 j = mkL (fun y => MPc s (j + 1) y ∨ (y < b ∧ cwP s (nI (sMs s j)) (mb s y))) → sCells s - b < fu → AW X mX5_layNeeded (d + 7) 0 0 53 [(0, .ref 66), (1, .int (nI j)), (2, .int (nI b))] [] H2 (Qf [82, 86] none h (fun h2 => (∃ f, NDm h2 s f) ∧ MTm h2 s)) := by
          intro fu
          induction fu with
          | zero => intro b H2 hbc f2 p1 p2 hz; exact absurd hz (Nat.not_lt_zero _)
          | succ fu ih =>
            intro b H2 hbc f2 p1 p2 hz
            have c2 := c1.fr f2
            have hn2 := c2.1
            have r2 := r1.fr f2 (by simp)
            refine a_iload_n (pc := 53) (i := 2) dX5_layNeeded_53 rfl rfl ?_
            refine a_aload_n (pc := 54) (i := 0) dX5_layNeeded_54 rfl rfl ?_
            refine a_vV1 (pc := 55) (as := []) (b := 66) (ci := 5) (v := .int (nI (sCells s))) (h' := H2) dX5_layNeeded_55 (lc_RX5_172 rfl) ceX5_cells rfl (lt90 hn2 (shK_lt (show shK 66 = _ from rfl))) (s5_cells c2 g r2) rfl rfl (Nat.le_of_ble_eq_true rfl) rfl ?_
            refine n_icmp_ge (pc := 58) (tgt := 97) dX5_layNeeded_58 (by decide) (by omega) (by omega) (fun c58 => ?_) (fun c58 => ?_)
            · have eb : b = sCells s := by omega
              rw [eb, MPc_s (by omega)] at p2
              refine a_aload_n (pc := 97) (i := 0) dX5_layNeeded_97 rfl rfl ?_
              refine a_getR (pc := 98) (ci := 5) (k := 18) (b := 82) dX5_layNeeded_98 (lf_RX5_38 rfl) (by decide) rfl rfl (lt90 hn2 (shK_lt (show shK 66 = _ from rfl))) c2.2.2.2.2.2.2.2.2.1.2.2.2.2.2.2.2.1 ?_
              refine a_iload_n (pc := 101) (i := 1) dX5_layNeeded_101 rfl rfl ?_
              refine a_bipush (pc := 102) (v := nI 99) dX5_layNeeded_102 (by decide) ?_
              refine a_iast (pc := 104) (j := j) dX5_layNeeded_104 rfl (lt90 hn2 (shK_lt (show shK 82 = _ from rfl))) rfl (by omega) ?_
              obtain ⟨H3, hH3⟩ : ∃ Hx, Hx = sI H2 82 j (nI 99) := ⟨_, rfl⟩
              have f3 : Fr [82, 86] H H3 := by rw [hH3]; exact (f2.mono (by simp)).sI (by simp)
              have l3 : hL H3 86 = hL H2 86 := by rw [hH3]; rfl
              have e82 : hI H2 82 = hI H 82 := (f2.2.2 82 (by simp)).1
              have w3 : hI H3 82 j = nI 99 := by rw [hH3]; exact rd2 ⟨rfl, rfl⟩
              have o3 : ∀ k, k ≠ j → hI H3 82 k = hI H 82 k := fun k hk => by rw [hH3, rd1 (by omega), e82]
              refine a_heap (h' := H3) hH3.symm ?_
              have c3 := c1.fr f3
              have hn3 := c3.1
              have r3 := r1.fr f3 (by simp)
              obtain ⟨f, b1, b2, b3, b4⟩ := hb
              refine a_aload_n (pc := 105) (i := 0) dX5_layNeeded_105 rfl rfl ?_
              refine a_iload_n (pc := 106) (i := 1) dX5_layNeeded_106 rfl rfl ?_
              refine a_vV1 (pc := 107) (as := [.int (nI j)]) (b := 66) (ci := 5) (v := .int (nI (lngN s j))) (h' := H3) dX5_layNeeded_107 (lc_RX5_214 rfl) ceX5_longestFrom rfl (lt90 hn3 (shK_lt (show shK 66 = _ from rfl))) (s5_longestFrom (d := d) c3 g r3 (by omega)) rfl rfl (Nat.le_of_ble_eq_true rfl) rfl ?_
              refine a_istore_n (pc := 110) (i := 2) (ls' := [(0, .ref 66), (1, .int (nI j)), (2, .int (nI (lngN s j)))]) dX5_layNeeded_110 rfl (by decide) rfl ?_
              refine a_iconst (pc := 111) (v := nI 1) dX5_layNeeded_111 (by decide) ?_
              refine a_istore_n (pc := 112) (i := 3) (ls' := [(0, .ref 66), (1, .int (nI j)), (2, .int (nI (lngN s j))), (3, .int (nI 1))]) dX5_layNeeded_112 rfl (by decide) rfl ?_
              have hlg : lngN s j ≤ 8 ∧ (1 ≤ lngN s j → j + lngN s j ≤ sLen s) := by
                refine ⟨maxN_le (fun q hq => by have := run_max g (q := q) (f := j); omega), fun h1 => ?_⟩
                have h2 : lngN s j ≤ sLen s - j := maxN_le (fun q hq => by
                  have := run_max g (q := q) (f := j)
                  rcases Nat.eq_zero_or_pos (qrun s j q) with z | z
                  · omega
                  · have := this.2 z; omega)
                omega
              have hmg : ∀ q n, q < 96 → n ≤ qrun s j q → n ≤ lngN s j := fun q n hq hn => Nat.le_trans hn (maxN_ge (f := fun q => qrun s j q) hq)
              obtain ⟨G, hG⟩ : ∃ G, G = lngN s j := ⟨_, rfl⟩
              rw [← hG] at hlg hmg ⊢
              have LN : ∀ (fu : Nat) (n v : Nat) (H4 : AH), 1 ≤ n ∧ n ≤ G + 1 → Fr [82, 86] H H4 → hL H4 86 = hL H2 86 → 1 ≤ v ∧ v ≤ 99 → (∀ i, 1 ≤ i → i < n → v ≤ 1 + f (j + i)) → hI H4 82 j = nI v → (∀ k, k ≠ j → hI H4 82 k = hI H 82 k) → G + 1 - n < fu → AW X mX5_layNeeded (d + 7) 0 0 113 [(0, .ref 66), (1, .int (nI j)), (2, .int (nI G)), (3, .int (nI n))] [] H4 (Qf [82, 86] none h (fun h2 => (∃ f, NDm h2 s f) ∧ MTm h2 s)) := by
                intro fu
                induction fu with
                | zero => intro n v H4 hn1b f4 l4 v1 v2 n4 o4 hz; exact absurd hz (Nat.not_lt_zero _)
                | succ fu ih =>
                  intro n v H4 hn1b f4 l4 v1 v2 n4 o4 hz
                  have c4 := c1.fr f4
                  have hn4 := c4.1
                  have r4 := r1.fr f4 (by simp)
                  refine a_iload_n (pc := 113) (i := 3) dX5_layNeeded_113 rfl rfl ?_
                  refine a_iload_n (pc := 114) (i := 2) dX5_layNeeded_114 rfl rfl ?_
                  refine n_icmp_gt (pc := 115) (tgt := 149) dX5_layNeeded_115 (by decide) (by omega) (by omega) (fun c115 => ?_) (fun c115 => ?_)
                  · skip
                    refine a_iinc (pc := 149) (i := 1) (ls' := [(0, .ref 66), (1, .int (nI j - nI 1)), (2, .int (nI G)), (3, .int (nI n))]) dX5_layNeeded_149 rfl (dec_i j) (by decide) rfl ?_
                    refine a_goto (pc := 152) (tgt := 33) dX5_layNeeded_152 (by decide) ?_
                    refine a_drop (ls' := [(0, .ref 66), (1, .int (nI j - nI 1))]) (by simp) ?_
                    exact ihO j H4 (by omega) (hf.trans f4) (fun k h1 h2 => by
                      rw [l4]
                      by_cases e : k = j
                      · rw [e]; exact p2
                      · rw [p1 k e]; exact hm k (by omega) h2) ⟨fun k => if k = j then v else f k, by show (if sLen s = j then v else f (sLen s)) = 0; rw [if_neg (by omega)]; exact b1, fun k h1 h2 => by
                        show _ = nI (if k = j then v else f k)
                        by_cases e : k = j
                        · rw [if_pos e, e]; exact n4
                        · rw [if_neg e, o4 k e]; exact b2 k (by omega) h2, fun k h1 h2 q n3 hq hn5 hr => by
                        show (if k = j then v else f k) ≤ 1 + (if k + n3 = j then v else f (k + n3))
                        rw [if_neg (show ¬ k + n3 = j by omega)]
                        by_cases e : k = j
                        · subst e
                          rw [if_pos rfl]
                          exact v2 n3 hn5 (by have := hmg q n3 hq hr; omega)
                        · rw [if_neg e]; exact b3 k (by omega) h2 q n3 hq hn5 hr, fun k => by
                        show (if k = j then v else f k) ≤ 99 ∧ (k < sLen s → 1 ≤ (if k = j then v else f k))
                        by_cases e : k = j
                        · rw [if_pos e]; exact ⟨v1.2, fun _ => v1.1⟩
                        · rw [if_neg e]; exact b4 k⟩ (by omega)
                  · skip
                    have hfb := (b4 (j + n)).1
                    refine a_aload_n (pc := 118) (i := 0) dX5_layNeeded_118 rfl rfl ?_
                    refine a_getR (pc := 119) (ci := 5) (k := 18) (b := 82) dX5_layNeeded_119 (lf_RX5_38 rfl) (by decide) rfl rfl (lt90 hn4 (shK_lt (show shK 66 = _ from rfl))) c4.2.2.2.2.2.2.2.2.1.2.2.2.2.2.2.2.1 ?_
                    refine a_iload_n (pc := 122) (i := 1) dX5_layNeeded_122 rfl rfl ?_
                    refine a_aload_n (pc := 123) (i := 0) dX5_layNeeded_123 rfl rfl ?_
                    refine a_getR (pc := 124) (ci := 5) (k := 18) (b := 82) dX5_layNeeded_124 (lf_RX5_38 rfl) (by decide) rfl rfl (lt90 hn4 (shK_lt (show shK 66 = _ from rfl))) c4.2.2.2.2.2.2.2.2.1.2.2.2.2.2.2.2.1 ?_
                    refine a_iload_n (pc := 127) (i := 1) dX5_layNeeded_127 rfl rfl ?_
                    refine a_iald (pc := 128) (j := j) dX5_layNeeded_128 rfl (lt90 hn4 (shK_lt (show shK 82 = _ from rfl))) rfl (by omega) ?_
                    refine a_top (show (.int (hI H4 82 j) : Value) = .int (nI v) from congrArg Value.int n4) ?_
                    refine a_iconst (pc := 129) (v := nI 1) dX5_layNeeded_129 (by decide) ?_
                    refine a_aload_n (pc := 130) (i := 0) dX5_layNeeded_130 rfl rfl ?_
                    refine a_getR (pc := 131) (ci := 5) (k := 18) (b := 82) dX5_layNeeded_131 (lf_RX5_38 rfl) (by decide) rfl rfl (lt90 hn4 (shK_lt (show shK 66 = _ from rfl))) c4.2.2.2.2.2.2.2.2.1.2.2.2.2.2.2.2.1 ?_
                    refine a_iload_n (pc := 134) (i := 1) dX5_layNeeded_134 rfl rfl ?_
                    refine a_iload_n (pc := 135) (i := 3) dX5_layNeeded_135 rfl rfl ?_
                    refine n_iadd (pc := 136) dX5_layNeeded_136 ?_
                    refine a_iald (pc := 137) (j := (j + n)) dX5_layNeeded_137 rfl (lt90 hn4 (shK_lt (show shK 82 = _ from rfl))) rfl (by omega) ?_
                    refine a_top (show (.int (hI H4 82 (j + n)) : Value) = .int (nI (f (j + n))) from congrArg Value.int ((o4 (j + n) (by omega)).trans (b2 (j + n) (by omega) (by omega)))) ?_
                    refine n_iadd (pc := 138) dX5_layNeeded_138 ?_
                    refine a_vS1 (pc := 139) (as := [.int (nI v), .int (nI (1 + (f (j + n))))]) (v := .int (nI (min v (1 + f (j + n))))) (h' := H4) dX5_layNeeded_139 (lc_RX5_119 rfl) ceX5_min (s5_min (by omega) (by omega)) rfl rfl (Nat.le_of_ble_eq_true rfl) rfl ?_
                    refine a_iast (pc := 142) (j := j) dX5_layNeeded_142 rfl (lt90 hn4 (shK_lt (show shK 82 = _ from rfl))) rfl (by omega) ?_
                    refine n_iinc (pc := 143) (k := 1) (ls' := [(0, .ref 66), (1, .int (nI j)), (2, .int (nI G)), (3, .int (nI (n + 1)))]) dX5_layNeeded_143 rfl (by decide) (by decide) rfl ?_
                    refine a_goto (pc := 146) (tgt := 113) dX5_layNeeded_146 (by decide) ?_
                    exact ih (n + 1) (min v (1 + f (j + n))) _ (by omega) (f4.sI (by simp)) l4 (by omega) (fun i h1 h2 => by
                      rcases (by omega : i < n ∨ i = n) with z | rfl
                      · have := v2 i h1 z; omega
                      · omega) (rd2 ⟨rfl, rfl⟩) (fun k hk => by rw [rd1 (by omega)]; exact o4 k hk) (by omega)
              exact LN (G + 2) 1 99 H3 (by omega) f3 l3 (by omega) (fun i h1 h2 => absurd h1 (by omega)) w3 o3 (by omega)
            · skip
              refine a_aload_n (pc := 61) (i := 0) dX5_layNeeded_61 rfl rfl ?_
              refine a_iload_n (pc := 62) (i := 2) dX5_layNeeded_62 rfl rfl ?_
              refine a_aload_n (pc := 63) (i := 0) dX5_layNeeded_63 rfl rfl ?_
              refine a_getR (pc := 64) (ci := 5) (k := 8) (b := 68) dX5_layNeeded_64 (lf_RX5_17 rfl) (by decide) rfl rfl (lt90 hn2 (shK_lt (show shK 66 = _ from rfl))) c2.2.2.2.2.2.2.2.2.1.2.1 ?_
              refine a_sipush (pc := 67) (v := nI 162) dX5_layNeeded_67 (by decide) ?_
              refine a_iload_n (pc := 70) (i := 1) dX5_layNeeded_70 rfl rfl ?_
              refine n_iadd (pc := 71) dX5_layNeeded_71 ?_
              refine a_iald (pc := 72) (j := (162 + j)) dX5_layNeeded_72 rfl (lt90 hn2 (shK_lt (show shK 68 = _ from rfl))) rfl (by omega) ?_
              refine a_top (show (.int (hI H2 68 (162 + j)) : Value) = .int (nI (sMs s j)) from congrArg Value.int (r2.2.2.2.2 j (by omega))) ?_
              refine a_vV1 (pc := 73) (as := [.int (nI b), .int (nI (sMs s j))]) (b := 66) (ci := 5) (v := .int (bi (cwP s (nI (sMs s j)) (mb s b)))) (h' := H2) dX5_layNeeded_73 (lc_RX5_201 rfl) ceX5_hasLetter rfl (lt90 hn2 (shK_lt (show shK 66 = _ from rfl))) (s5_hasLetter (d := d + 1) c2 g r2 c58) rfl rfl (Nat.le_of_ble_eq_true rfl) rfl ?_
              refine b_if_eq (pc := 76) (tgt := 91) dX5_layNeeded_76 (by decide) (fun c76 => ?_) (fun c76 => ?_)
              · skip
                refine n_iinc (pc := 91) (k := 1) (ls' := [(0, .ref 66), (1, .int (nI j)), (2, .int (nI (b + 1)))]) dX5_layNeeded_91 rfl (by decide) (by decide) rfl ?_
                refine a_goto (pc := 94) (tgt := 53) dX5_layNeeded_94 (by decide) ?_
                exact ih (b + 1) H2 (by omega) f2 p1 (p2.trans (mkL_c fun y _ => ⟨fun z => z.imp id (fun z => ⟨by omega, z.2⟩), fun z => z.imp id (fun z => ⟨by rcases (by omega : y < b ∨ y = b) with z1 | rfl; exact z1; exact absurd z.2 c76, z.2⟩)⟩)) (by omega)
              · skip
                refine a_aload_n (pc := 79) (i := 0) dX5_layNeeded_79 rfl rfl ?_
                refine a_getR (pc := 80) (ci := 5) (k := 22) (b := 86) dX5_layNeeded_80 (lf_RX5_50 rfl) (by decide) rfl rfl (lt90 hn2 (shK_lt (show shK 66 = _ from rfl))) c2.2.2.2.2.2.2.2.2.1.2.2.2.2.2.2.2.2.2.2.2.1 ?_
                refine a_iload_n (pc := 83) (i := 1) dX5_layNeeded_83 rfl rfl ?_
                refine a_dup2_11 (pc := 84) dX5_layNeeded_84 rfl rfl ?_
                refine a_lald (pc := 85) (j := j) dX5_layNeeded_85 rfl (lt90 hn2 (shK_lt (show shK 86 = _ from rfl))) rfl (by omega) ?_
                refine a_top (show (.long (hL H2 86 j) : Value) = .long (mkL (fun y => MPc s (j + 1) y ∨ (y < b ∧ cwP s (nI (sMs s j)) (mb s y)))) from congrArg Value.long p2) ?_
                refine a_lconst (pc := 86) (v := 1) dX5_layNeeded_86 (by decide) ?_
                refine a_iload_n (pc := 87) (i := 2) dX5_layNeeded_87 rfl rfl ?_
                refine a_lshl (pc := 88) dX5_layNeeded_88 ?_
                refine a_top (show (.long (1 <<< ((nI b).toInt64 &&& 63)) : Value) = .long (mkL (fun y => y = b)) from congrArg Value.long (mkL_shl (by omega))) ?_
                refine a_lor (pc := 89) dX5_layNeeded_89 ?_
                refine a_top (show (.long ((mkL (fun y => MPc s (j + 1) y ∨ (y < b ∧ cwP s (nI (sMs s j)) (mb s y)))) ||| (mkL (fun y => y = b))) : Value) = .long (mkL (fun y => (MPc s (j + 1) y ∨ (y < b ∧ cwP s (nI (sMs s j)) (mb s y))) ∨ y = b)) from congrArg Value.long (mkL_or _ _)) ?_
                refine a_last (pc := 90) (j := j) dX5_layNeeded_90 rfl (lt90 hn2 (shK_lt (show shK 86 = _ from rfl))) rfl (by omega) ?_
                refine n_iinc (pc := 91) (k := 1) (ls' := [(0, .ref 66), (1, .int (nI j)), (2, .int (nI (b + 1)))]) dX5_layNeeded_91 rfl (by decide) (by decide) rfl ?_
                refine a_goto (pc := 94) (tgt := 53) dX5_layNeeded_94 (by decide) ?_
                exact ih (b + 1) _ (by omega) (f2.sL (by simp)) (fun k hk => by rw [rd5 (Or.inr hk)]; exact p1 k hk) ((rd6 ⟨rfl, rfl⟩).trans (mkL_c fun y _ => ⟨fun z => by
                  rcases z with (z | z) | rfl
                  · exact Or.inl z
                  · exact Or.inr ⟨by omega, z.2⟩
                  · exact Or.inr ⟨by omega, c76⟩, fun z => by
                  rcases z with z | z
                  · exact Or.inl (Or.inl z)
                  · rcases (by omega : y < b ∨ y = b) with z1 | z1
                    · exact Or.inl (Or.inr ⟨z1, z.2⟩)
                    · exact Or.inr z1⟩)) (by omega)
        exact LC (sCells s + 1) 0 H1 (Nat.zero_le _) f1 q1 q2 (by omega)
  refine a_aload_n (pc := 0) (i := 0) dX5_layNeeded_0 rfl rfl ?_
  refine a_getR (pc := 1) (ci := 5) (k := 18) (b := 82) dX5_layNeeded_1 (lf_RX5_38 rfl) (by decide) rfl rfl (lt90 hn (shK_lt (show shK 66 = _ from rfl))) c.2.2.2.2.2.2.2.2.1.2.2.2.2.2.2.2.1 ?_
  refine a_aload_n (pc := 4) (i := 0) dX5_layNeeded_4 rfl rfl ?_
  refine a_getR (pc := 5) (ci := 5) (k := 8) (b := 68) dX5_layNeeded_5 (lf_RX5_17 rfl) (by decide) rfl rfl (lt90 hn (shK_lt (show shK 66 = _ from rfl))) c.2.2.2.2.2.2.2.2.1.2.1 ?_
  refine a_iconst (pc := 8) (v := nI 3) dX5_layNeeded_8 (by decide) ?_
  refine a_iald (pc := 9) (j := 3) dX5_layNeeded_9 rfl (lt90 hn (shK_lt (show shK 68 = _ from rfl))) rfl (by omega) ?_
  refine a_top (show (.int (hI h 68 3) : Value) = .int (nI (sLen s)) from congrArg Value.int r.1.2.2.2.1) ?_
  refine a_iconst (pc := 10) (v := nI 0) dX5_layNeeded_10 (by decide) ?_
  refine a_iast (pc := 11) (j := (sLen s)) dX5_layNeeded_11 rfl (lt90 hn (shK_lt (show shK 82 = _ from rfl))) rfl (by omega) ?_
  refine a_aload_n (pc := 12) (i := 0) dX5_layNeeded_12 rfl rfl ?_
  refine a_getR (pc := 13) (ci := 5) (k := 22) (b := 86) dX5_layNeeded_13 (lf_RX5_50 rfl) (by decide) rfl rfl (lt90 hn (shK_lt (show shK 66 = _ from rfl))) c.2.2.2.2.2.2.2.2.1.2.2.2.2.2.2.2.2.2.2.2.1 ?_
  refine a_aload_n (pc := 16) (i := 0) dX5_layNeeded_16 rfl rfl ?_
  refine a_getR (pc := 17) (ci := 5) (k := 8) (b := 68) dX5_layNeeded_17 (lf_RX5_17 rfl) (by decide) rfl rfl (lt90 hn (shK_lt (show shK 66 = _ from rfl))) c.2.2.2.2.2.2.2.2.1.2.1 ?_
  refine a_iconst (pc := 20) (v := nI 3) dX5_layNeeded_20 (by decide) ?_
  refine a_iald (pc := 21) (j := 3) dX5_layNeeded_21 rfl (lt90 hn (shK_lt (show shK 68 = _ from rfl))) rfl (by omega) ?_
  refine a_top (show (.int (hI (sI h 82 (sLen s) (nI 0)) 68 3) : Value) = .int (nI (sLen s)) from congrArg Value.int r.1.2.2.2.1) ?_
  refine a_lconst (pc := 22) (v := 0) dX5_layNeeded_22 (by decide) ?_
  refine a_last (pc := 23) (j := (sLen s)) dX5_layNeeded_23 rfl (lt90 hn (shK_lt (show shK 86 = _ from rfl))) rfl (by omega) ?_
  refine a_aload_n (pc := 24) (i := 0) dX5_layNeeded_24 rfl rfl ?_
  refine a_getR (pc := 25) (ci := 5) (k := 8) (b := 68) dX5_layNeeded_25 (lf_RX5_17 rfl) (by decide) rfl rfl (lt90 hn (shK_lt (show shK 66 = _ from rfl))) c.2.2.2.2.2.2.2.2.1.2.1 ?_
  refine a_iconst (pc := 28) (v := nI 3) dX5_layNeeded_28 (by decide) ?_
  refine a_iald (pc := 29) (j := 3) dX5_layNeeded_29 rfl (lt90 hn (shK_lt (show shK 68 = _ from rfl))) rfl (by omega) ?_
  refine a_top (show (.int (hI (sL (sI h 82 (sLen s) (nI 0)) 86 (sLen s) 0) 68 3) : Value) = .int (nI (sLen s)) from congrArg Value.int r.1.2.2.2.1) ?_
  refine a_iconst (pc := 30) (v := nI 1) dX5_layNeeded_30 (by decide) ?_
  refine a_isub (pc := 31) dX5_layNeeded_31 ?_
  refine a_istore_n (pc := 32) (i := 1) (ls' := [(0, .ref 66), (1, .int ((nI (sLen s)) - (nI 1)))]) dX5_layNeeded_32 rfl (by decide) rfl ?_
  obtain ⟨H0, hH0⟩ : ∃ Hx, Hx = sL (sI h 82 (sLen s) (nI 0)) 86 (sLen s) 0 := ⟨_, rfl⟩
  refine a_heap (h' := H0) hH0.symm ?_
  refine a_locs (ls' := [(0, .ref 66), (1, .int (nI (sLen s) - nI 1))]) rfl ?_
  exact LP (sLen s + 1) (sLen s) H0 (Nat.le_refl _) (by rw [hH0]; exact (Fr.refl.sI (by simp)).sL (by simp)) (fun k h1 h2 => by
      have e : k = sLen s := by omega
      rw [hH0, rd6 ⟨rfl, e⟩, e]
      exact (mkL_eq0.mpr (fun b _ ⟨_, j, hj, _⟩ => by omega)).symm) ⟨fun k => if k < sLen s then 1 else 0, if_neg (by omega), fun k h1 h2 => by
      have e : k = sLen s := by omega
      show _ = nI (if k < sLen s then 1 else 0)
      rw [if_neg (by omega), hH0]
      exact rd2 ⟨rfl, e⟩, fun k h1 h2 => absurd h1 (by omega), fun k => by
      show (if k < sLen s then 1 else 0) ≤ 99 ∧ (k < sLen s → 1 ≤ (if k < sLen s then 1 else 0))
      by_cases e : k < sLen s
      · rw [if_pos e]; omega
      · rw [if_neg e]; omega⟩ (by omega)
set_option maxHeartbeats 1500000 in
set_option maxRecDepth 100000 in
theorem s5_cellsOf {d x p n : Nat} {h : AH} {s : SH} (c : CB h) (g : GS s) (r : DM h 68 s) (hx : x < 2) (hp : p < sCells s) (hn8 : n ≤ 8) (hr : mq s x p % 8 + n ≤ sW s) : AC mX5_cellsOf (d + 2) 0 0 [.ref 66, .int (nI x), .int (nI p), .int (nI n)] h (Qe (some (.long (mkL (fun c => c < sCells s ∧ pcl s (mq s x p) n (mb s c))))) h) := by
  have hn := c.1
  have gw := g.1
  have gh := g.2.1
  have gl := g.2.2.2.2.2.1
  have gc := cells48 g
  refine AC.of (by decide) rfl (Nat.le_of_ble_eq_true rfl) (fun X => ?_)
  show AW X mX5_cellsOf (d + 2) 0 0 0 [(0, .ref 66), (1, .int (nI x)), (2, .int (nI p)), (3, .int (nI n))] [] h (Qe (some (.long (mkL (fun c => c < sCells s ∧ pcl s (mq s x p) n (mb s c))))) h)
  have h8 := (mq_ok g hx hp).2.2.2.2.1
  have LP : ∀ (fu : Nat) (i : Nat), i ≤ n → n - i < fu → AW X mX5_cellsOf (d + 2) 0 0 6 [(0, .ref 66), (1, .int (nI x)), (2, .int (nI p)), (3, .int (nI n)), (4, .long (mkL (fun c => c < sCells s ∧ pcl s (mq s x p) i (mb s c)))), (6, .int (nI i))] [] h (Qe (some (.long (mkL (fun c => c < sCells s ∧ pcl s (mq s x p) n (mb s c))))) h) := by
    intro fu
    induction fu with
    | zero => intro i hi hz; exact absurd hz (Nat.not_lt_zero _)
    | succ fu ih =>
      intro i hi hz
      refine a_iload (pc := 6) (i := 6) dX5_cellsOf_6 rfl ?_
      refine a_iload_n (pc := 8) (i := 3) dX5_cellsOf_8 rfl rfl ?_
      refine n_icmp_ge (pc := 9) (tgt := 34) dX5_cellsOf_9 (by decide) (by omega) (by omega) (fun c9 => ?_) (fun c9 => ?_)
      · have ei : i = n := by omega
        refine a_lload (pc := 34) (i := 4) dX5_cellsOf_34 rfl ?_
        exact a_lreturn (pc := 36) dX5_cellsOf_36 rfl (⟨by rw [ei], rfl⟩)
      · obtain ⟨e1, e2, -, -⟩ := mq_add g (x := x) (i := i) hp (by omega)
        have hcl := mcl_lt g (x := x) e2
        refine a_lload (pc := 12) (i := 4) dX5_cellsOf_12 rfl ?_
        refine a_lconst (pc := 14) (v := 1) dX5_cellsOf_14 (by decide) ?_
        refine a_aload_n (pc := 15) (i := 0) dX5_cellsOf_15 rfl rfl ?_
        refine a_iload_n (pc := 16) (i := 1) dX5_cellsOf_16 rfl rfl ?_
        refine a_iload_n (pc := 17) (i := 2) dX5_cellsOf_17 rfl rfl ?_
        refine a_iload (pc := 18) (i := 6) dX5_cellsOf_18 rfl ?_
        refine n_iadd (pc := 20) dX5_cellsOf_20 ?_
        refine a_vV1 (pc := 21) (as := [.int (nI x), .int (nI (p + i))]) (b := 66) (ci := 5) (v := .int (nI (mcl s x (p + i)))) (h' := h) dX5_cellsOf_21 (lc_RX5_178 rfl) ceX5_cellOf rfl (lt90 hn (shK_lt (show shK 66 = _ from rfl))) (s5_cellOf (d := d) c g r hx e2) rfl rfl (Nat.le_of_ble_eq_true rfl) rfl ?_
        refine a_lshl (pc := 24) dX5_cellsOf_24 ?_
        refine a_top (show (.long (1 <<< ((nI (mcl s x (p + i))).toInt64 &&& 63)) : Value) = .long (mkL (fun c => c = mcl s x (p + i))) from congrArg Value.long (mkL_shl (by omega))) ?_
        refine a_lor (pc := 25) dX5_cellsOf_25 ?_
        refine a_top (show (.long ((mkL (fun c => c < sCells s ∧ pcl s (mq s x p) i (mb s c))) ||| (mkL (fun c => c = mcl s x (p + i)))) : Value) = .long (mkL (fun c => (c < sCells s ∧ pcl s (mq s x p) i (mb s c)) ∨ c = mcl s x (p + i))) from congrArg Value.long (mkL_or _ _)) ?_
        refine a_lstore (pc := 26) (i := 4) (ls' := [(0, .ref 66), (1, .int (nI x)), (2, .int (nI p)), (3, .int (nI n)), (4, .long (mkL (fun c => (c < sCells s ∧ pcl s (mq s x p) i (mb s c)) ∨ c = mcl s x (p + i)))), (6, .int (nI i))]) dX5_cellsOf_26 (by decide) rfl ?_
        refine n_iinc (pc := 28) (k := 1) (ls' := [(0, .ref 66), (1, .int (nI x)), (2, .int (nI p)), (3, .int (nI n)), (4, .long (mkL (fun c => (c < sCells s ∧ pcl s (mq s x p) i (mb s c)) ∨ c = mcl s x (p + i)))), (6, .int (nI (i + 1)))]) dX5_cellsOf_28 rfl (by decide) (by decide) rfl ?_
        refine a_goto (pc := 31) (tgt := 6) dX5_cellsOf_31 (by decide) ?_
        refine a_locs (ls' := [(0, .ref 66), (1, .int (nI x)), (2, .int (nI p)), (3, .int (nI n)), (4, .long (mkL (fun c => c < sCells s ∧ pcl s (mq s x p) (i + 1) (mb s c)))), (6, .int (nI (i + 1)))]) (by
      rw [show mkL (fun c => (c < sCells s ∧ pcl s (mq s x p) i (mb s c)) ∨ c = mcl s x (p + i)) = mkL (fun c => c < sCells s ∧ pcl s (mq s x p) (i + 1) (mb s c)) from mkL_c fun c _ => ?_]
      rw [pcl_s, ← e1, mq_cell g hx e2]
      constructor
      · rintro (⟨z1, z2⟩ | rfl)
        · exact ⟨z1, Or.inl z2⟩
        · exact ⟨hcl, Or.inr rfl⟩
      · rintro ⟨z1, z2 | z2⟩
        · exact Or.inl ⟨z1, z2⟩
        · exact Or.inr (mb_inj g z1 hcl z2)) ?_
        exact ih (i + 1) (by omega) (by omega)
  refine a_lconst (pc := 0) (v := 0) dX5_cellsOf_0 (by decide) ?_
  refine a_lstore (pc := 1) (i := 4) (ls' := [(0, .ref 66), (1, .int (nI x)), (2, .int (nI p)), (3, .int (nI n)), (4, .long 0)]) dX5_cellsOf_1 (by decide) rfl ?_
  refine a_iconst (pc := 3) (v := nI 0) dX5_cellsOf_3 (by decide) ?_
  refine a_istore (pc := 4) (i := 6) (ls' := [(0, .ref 66), (1, .int (nI x)), (2, .int (nI p)), (3, .int (nI n)), (4, .long 0), (6, .int (nI 0))]) dX5_cellsOf_4 (by decide) rfl ?_
  refine a_locs (ls' := [(0, .ref 66), (1, .int (nI x)), (2, .int (nI p)), (3, .int (nI n)), (4, .long (mkL (fun c => c < sCells s ∧ pcl s (mq s x p) 0 (mb s c)))), (6, .int (nI 0))]) (by rw [show mkL (fun c => c < sCells s ∧ pcl s (mq s x p) 0 (mb s c)) = 0 from mkL_eq0.mpr (fun c _ z => by obtain ⟨-, j, h1, -⟩ := z; omega)]) ?_
  exact LP (n + 1) 0 (Nat.zero_le _) (by omega)
def kyB (k cut b : Nat) : Prop := 48 ≤ b ∧ (9 * k + cut + 1).testBit (b - 48) = true
theorem ky_num : ∀ k : Fin 9, ∀ cut : Fin 9, ∀ i : Fin 64, ((((9 : Int64) * (nI k.val).toInt64 + (nI cut.val).toInt64 + 1) <<< ((nI 48).toInt64 &&& 63)).toBitVec.getLsbD i.val = true ↔ (48 ≤ i.val ∧ (9 * k.val + cut.val + 1).testBit (i.val - 48) = true)) := by decide +kernel
theorem ky_l {k cut : Nat} (hk : k ≤ 8) (hc : cut ≤ 8) : ((9 : Int64) * (nI k).toInt64 + (nI cut).toInt64 + 1) <<< ((nI 48).toInt64 &&& 63) = mkL (kyB k cut) := mkL_of fun i hi => ky_num ⟨k, by omega⟩ ⟨cut, by omega⟩ ⟨i, hi⟩
def keyP (s : SH) (Y : Nat → Prop) (k cut : Nat) : Nat → Prop := fun b => ((b < sCells s ∧ Y (mb s b)) ∧ MPc s k b) ∨ kyB k cut b
theorem ky_inj {k cut k2 cut2 : Nat} (hk : k ≤ 8) (hc : cut ≤ 8) (hk2 : k2 ≤ 8) (hc2 : cut2 ≤ 8) (h : ∀ b, 48 ≤ b → b < 64 → (kyB k cut b ↔ kyB k2 cut2 b)) : k = k2 ∧ cut = cut2 := by
  have e : 9 * k + cut + 1 = 9 * k2 + cut2 + 1 := by
    apply Nat.eq_of_testBit_eq
    intro i
    rcases Nat.lt_or_ge i 16 with z | z
    · have h1 := h (48 + i) (by omega) (by omega)
      unfold kyB at h1
      rw [show 48 + i - 48 = i by omega] at h1
      have h2 : ((9 * k + cut + 1).testBit i = true ↔ (9 * k2 + cut2 + 1).testBit i = true) := ⟨fun q => (h1.mp ⟨by omega, q⟩).2, fun q => (h1.mpr ⟨by omega, q⟩).2⟩
      exact Bool.eq_iff_iff.mpr h2
    · have hp : 2 ^ 16 ≤ 2 ^ i := Nat.pow_le_pow_right (by omega) z
      rw [Nat.testBit_lt_two_pow (by omega), Nat.testBit_lt_two_pow (by omega)]
  omega
/-- a key that was tried in vain -/
def Bd (s : SH) (m : Nat) (key : Int64) : Prop := ∀ k cut (Y : Nat → Prop), k ≤ 8 → cut ≤ 8 → mkL (keyP s Y k cut) = key → ¬ ∃ l, plV s k Y l ∧ l.length + cut = m
theorem Bd_of {s : SH} (g : GS s) {m k cut : Nat} {Y : Nat → Prop} (hk : k ≤ 8) (hc : cut ≤ 8) (h : ¬ ∃ l, plV s k Y l ∧ l.length + cut = m) : Bd s m (mkL (keyP s Y k cut)) := by
  intro k2 cut2 Z hk2 hc2 e hz
  have gc := cells48 g
  have e2 := mkL_inj e
  obtain ⟨rfl, rfl⟩ := ky_inj hk2 hc2 hk hc (fun b h1 h2 => by
    have := e2 b h2
    unfold keyP at this
    constructor
    · intro q
      exact (this.mp (Or.inr q)).elim (fun z => absurd z.1.1 (by omega)) id
    · intro q
      exact (this.mpr (Or.inr q)).elim (fun z => absurd z.1.1 (by omega)) id)
  obtain ⟨l, h1, h2⟩ := hz
  refine h ⟨l, plV_M g (fun b hb => ?_) h1, h2⟩
  obtain ⟨j, hj, hcw⟩ := hb
  have h3 := mb_qpl g (cw_on g hcw)
  have h4 := e2 (qpl s b) (by omega)
  have hM : MPc s k2 (qpl s b) := ⟨h3.1, j, hj, by rw [h3.2]; exact hcw⟩
  unfold keyP at h4
  rw [h3.2] at h4
  constructor
  · intro q
    exact (h4.mp (Or.inl ⟨⟨h3.1, q⟩, hM⟩)).elim (fun z => z.1.2) (fun z => absurd z.1 (by omega))
  · intro q
    exact (h4.mpr (Or.inl ⟨⟨h3.1, q⟩, hM⟩)).elim (fun z => z.1.2) (fun z => absurd z.1 (by omega))
set_option maxHeartbeats 1500000 in
set_option maxRecDepth 100000 in
theorem s5_keyOf {d k cut : Nat} {Y : Nat → Prop} {h : AH} {s : SH} (c : CB h) (g : GS s) (r : DM h 68 s) (h8 : sLen s ≤ 8) (tk : TKm h s Y) (mt : MTm h s) (hk : k ≤ sLen s) (hcut : cut ≤ 8) : AC mX5_keyOf d 0 0 [.ref 66, .int (nI k), .int (nI cut)] h (Qe (some (.long (mkL (keyP s Y k cut)))) h) := by
  have hn := c.1
  have gw := g.1
  have gh := g.2.1
  have gl := g.2.2.2.2.2.1
  have gc := cells48 g
  refine AC.of (by decide) rfl (Nat.le_of_ble_eq_true rfl) (fun X => ?_)
  show AW X mX5_keyOf d 0 0 0 [(0, .ref 66), (1, .int (nI k)), (2, .int (nI cut))] [] h (Qe (some (.long (mkL (keyP s Y k cut)))) h)
  refine a_aload_n (pc := 0) (i := 0) dX5_keyOf_0 rfl rfl ?_
  refine a_getL (pc := 1) (ci := 5) (k := 17) dX5_keyOf_1 (lf_RX5_197 rfl) (by decide) rfl rfl (lt90 hn (shK_lt (show shK 66 = _ from rfl))) ?_
  refine a_top (show (.long (hL h 66 17) : Value) = .long (mkL (fun b => b < sCells s ∧ Y (mb s b))) from congrArg Value.long tk) ?_
  refine a_aload_n (pc := 4) (i := 0) dX5_keyOf_4 rfl rfl ?_
  refine a_getR (pc := 5) (ci := 5) (k := 22) (b := 86) dX5_keyOf_5 (lf_RX5_50 rfl) (by decide) rfl rfl (lt90 hn (shK_lt (show shK 66 = _ from rfl))) c.2.2.2.2.2.2.2.2.1.2.2.2.2.2.2.2.2.2.2.2.1 ?_
  refine a_iload_n (pc := 8) (i := 1) dX5_keyOf_8 rfl rfl ?_
  refine a_lald (pc := 9) (j := k) dX5_keyOf_9 rfl (lt90 hn (shK_lt (show shK 86 = _ from rfl))) rfl (by omega) ?_
  refine a_top (show (.long (hL h 86 k) : Value) = .long (mkL (MPc s k)) from congrArg Value.long (mt k hk)) ?_
  refine a_land (pc := 10) dX5_keyOf_10 ?_
  refine a_top (show (.long ((mkL (fun b => b < sCells s ∧ Y (mb s b))) &&& (mkL (MPc s k))) : Value) = .long (mkL (fun b => (b < sCells s ∧ Y (mb s b)) ∧ MPc s k b)) from congrArg Value.long (mkL_and _ _)) ?_
  refine a_ldc2 (pc := 11) (v := 9) dX5_keyOf_11 (lj_RX5_217 rfl) ?_
  refine a_iload_n (pc := 14) (i := 1) dX5_keyOf_14 rfl rfl ?_
  refine a_i2l (pc := 15) dX5_keyOf_15 ?_
  refine a_lmul (pc := 16) dX5_keyOf_16 ?_
  refine a_iload_n (pc := 17) (i := 2) dX5_keyOf_17 rfl rfl ?_
  refine a_i2l (pc := 18) dX5_keyOf_18 ?_
  refine a_ladd (pc := 19) dX5_keyOf_19 ?_
  refine a_lconst (pc := 20) (v := 1) dX5_keyOf_20 (by decide) ?_
  refine a_ladd (pc := 21) dX5_keyOf_21 ?_
  refine a_bipush (pc := 22) (v := nI 48) dX5_keyOf_22 (by decide) ?_
  refine a_lshl (pc := 24) dX5_keyOf_24 ?_
  refine a_top (show (.long ((((9 * ((nI k).toInt64)) + ((nI cut).toInt64)) + 1) <<< ((nI 48).toInt64 &&& 63)) : Value) = .long (mkL (kyB k cut)) from congrArg Value.long (ky_l (by omega) hcut)) ?_
  refine a_lor (pc := 25) dX5_keyOf_25 ?_
  refine a_top (show (.long ((mkL (fun b => (b < sCells s ∧ Y (mb s b)) ∧ MPc s k b)) ||| (mkL (kyB k cut))) : Value) = .long (mkL (keyP s Y k cut)) from congrArg Value.long (mkL_or _ _)) ?_
  exact a_lreturn (pc := 26) dX5_keyOf_26 rfl (⟨rfl, rfl⟩)
theorem and_4095 (x : Int64) : ∃ n, n < 4096 ∧ (x &&& 4095).toInt32 = nI n := by
  have h0 : (x &&& 4095).toBitVec.toNat < 4096 := by
    rw [Int64.toBitVec_and, BitVec.toNat_and]
    have : (4095 : Int64).toBitVec.toNat = 4095 := rfl
    rw [this]
    exact Nat.lt_succ_of_le Nat.and_le_right
  have h1 : x &&& 4095 = Int64.ofNat (x &&& 4095).toBitVec.toNat := by
    apply Int64.toBitVec_inj.mp
    rw [Int64.toBitVec_ofNat']
    simp
  have h2 : ∀ n, n < 4096 → (Int64.ofNat n).toInt32 = nI n := fun n hn => by
    have h3 : (Int64.ofNat n).toInt32.toInt = n := by
      rw [Int64.toInt_toInt32, Int64.toInt_ofNat_of_lt (by omega)]
      unfold Int.bmod
      simp only []
      split <;> omega
    apply Int32.toInt_inj.mp
    rw [h3, nI_toInt (by omega)]
  obtain ⟨n, hn⟩ : ∃ n, n = (x &&& 4095).toBitVec.toNat := ⟨_, rfl⟩
  rw [← hn] at h0 h1
  exact ⟨n, h0, by rw [h1]; exact h2 n h0⟩
set_option maxHeartbeats 1500000 in
set_option maxRecDepth 100000 in
theorem s5_vainAt {d z : Nat} {h : AH} {key : Int64} (c : CB h) (hz : z < 4096) (hz0 : hL h 87 z = 0) : AC mX5_vainAt d 0 0 [.ref 66, .long key] h (Qi (fun n h2 => h2 = h ∧ n < 4096 ∧ (hL h 87 n = 0 ∨ hL h 87 n = key))) := by
  have hn := c.1
  refine AC.of (by decide) rfl (Nat.le_of_ble_eq_true rfl) (fun X => ?_)
  show AW X mX5_vainAt d 0 0 0 [(0, .ref 66), (1, .long key)] [] h (Qi (fun n h2 => h2 = h ∧ n < 4096 ∧ (hL h 87 n = 0 ∨ hL h 87 n = key)))
  have LP : ∀ (fu : Nat) (a : Nat), a < 4096 → (z + 4096 - a) % 4096 < fu → AW X mX5_vainAt d 0 0 17 [(0, .ref 66), (1, .long key), (3, .int (nI a))] [] h (Qi (fun n h2 => h2 = h ∧ n < 4096 ∧ (hL h 87 n = 0 ∨ hL h 87 n = key))) := by
    intro fu
    induction fu with
    | zero => intro a ha hz; exact absurd hz (Nat.not_lt_zero _)
    | succ fu ih =>
      intro a ha hz
      refine a_aload_n (pc := 17) (i := 0) dX5_vainAt_17 rfl rfl ?_
      refine a_getR (pc := 18) (ci := 5) (k := 23) (b := 87) dX5_vainAt_18 (lf_RX5_54 rfl) (by decide) rfl rfl (lt90 hn (shK_lt (show shK 66 = _ from rfl))) c.2.2.2.2.2.2.2.2.1.2.2.2.2.2.2.2.2.2.2.2.2.1 ?_
      refine a_iload_n (pc := 21) (i := 3) dX5_vainAt_21 rfl rfl ?_
      refine a_lald (pc := 22) (j := a) dX5_vainAt_22 rfl (lt90 hn (shK_lt (show shK 87 = _ from rfl))) rfl (by omega) ?_
      refine a_lconst (pc := 23) (v := 0) dX5_vainAt_23 (by decide) ?_
      refine a_lcmp (pc := 24) dX5_vainAt_24 ?_
      refine a_if_eq (pc := 25) (tgt := 50) dX5_vainAt_25 (by decide) (fun c25 => ?_) (fun c25 => ?_)
      · skip
        refine a_iload_n (pc := 50) (i := 3) dX5_vainAt_50 rfl rfl ?_
        exact a_ireturn (pc := 51) dX5_vainAt_51 rfl rfl (⟨a, rfl, rfl, ha, Or.inl ((lg_cmp_eq _ _).mp c25)⟩)
      · have hne : hL h 87 a ≠ 0 := fun q => c25 ((lg_cmp_eq _ _).mpr q)
        refine a_aload_n (pc := 28) (i := 0) dX5_vainAt_28 rfl rfl ?_
        refine a_getR (pc := 29) (ci := 5) (k := 23) (b := 87) dX5_vainAt_29 (lf_RX5_54 rfl) (by decide) rfl rfl (lt90 hn (shK_lt (show shK 66 = _ from rfl))) c.2.2.2.2.2.2.2.2.1.2.2.2.2.2.2.2.2.2.2.2.2.1 ?_
        refine a_iload_n (pc := 32) (i := 3) dX5_vainAt_32 rfl rfl ?_
        refine a_lald (pc := 33) (j := a) dX5_vainAt_33 rfl (lt90 hn (shK_lt (show shK 87 = _ from rfl))) rfl (by omega) ?_
        refine a_lload_n (pc := 34) (i := 1) dX5_vainAt_34 rfl rfl ?_
        refine a_lcmp (pc := 35) dX5_vainAt_35 ?_
        refine a_if_eq (pc := 36) (tgt := 50) dX5_vainAt_36 (by decide) (fun c36 => ?_) (fun c36 => ?_)
        · skip
          refine a_iload_n (pc := 50) (i := 3) dX5_vainAt_50 rfl rfl ?_
          exact a_ireturn (pc := 51) dX5_vainAt_51 rfl rfl (⟨a, rfl, rfl, ha, Or.inr ((lg_cmp_eq _ _).mp c36)⟩)
        · have hza : z ≠ a := fun q => hne (q ▸ hz0)
          refine a_iload_n (pc := 39) (i := 3) dX5_vainAt_39 rfl rfl ?_
          refine a_iconst (pc := 40) (v := nI 1) dX5_vainAt_40 (by decide) ?_
          refine n_iadd (pc := 41) dX5_vainAt_41 ?_
          refine a_sipush (pc := 42) (v := nI 4096) dX5_vainAt_42 (by decide) ?_
          refine n_irem (pc := 45) dX5_vainAt_45 (by omega) (by omega) (by omega) ?_
          refine a_istore_n (pc := 46) (i := 3) (ls' := [(0, .ref 66), (1, .long key), (3, .int (nI ((a + 1) % 4096)))]) dX5_vainAt_46 rfl (by decide) rfl ?_
          refine a_goto (pc := 47) (tgt := 17) dX5_vainAt_47 (by decide) ?_
          exact ih ((a + 1) % 4096) (by omega) (by omega)
  refine a_lload_n (pc := 0) (i := 1) dX5_vainAt_0 rfl rfl ?_
  refine a_lload_n (pc := 1) (i := 1) dX5_vainAt_1 rfl rfl ?_
  refine a_bipush (pc := 2) (v := nI 21) dX5_vainAt_2 (by decide) ?_
  refine a_lshr (pc := 4) dX5_vainAt_4 ?_
  refine a_lxor (pc := 5) dX5_vainAt_5 ?_
  refine a_lload_n (pc := 6) (i := 1) dX5_vainAt_6 rfl rfl ?_
  refine a_bipush (pc := 7) (v := nI 42) dX5_vainAt_7 (by decide) ?_
  refine a_lshr (pc := 9) dX5_vainAt_9 ?_
  refine a_lxor (pc := 10) dX5_vainAt_10 ?_
  refine a_ldc2 (pc := 11) (v := 4095) dX5_vainAt_11 (lj_RX5_219 rfl) ?_
  refine a_land (pc := 14) dX5_vainAt_14 ?_
  refine a_l2i (pc := 15) dX5_vainAt_15 ?_
  obtain ⟨a, ha, ea⟩ := and_4095 (((key ^^^ (key >>> ((nI 21).toInt64 &&& 63))) ^^^ (key >>> ((nI 42).toInt64 &&& 63))))
  refine a_top (show (.int ((((key ^^^ (key >>> ((nI 21).toInt64 &&& 63))) ^^^ (key >>> ((nI 42).toInt64 &&& 63))) &&& 4095).toInt32) : Value) = .int (nI a) from congrArg Value.int ea) ?_
  refine a_istore_n (pc := 16) (i := 3) (ls' := [(0, .ref 66), (1, .long key), (3, .int (nI a))]) dX5_vainAt_16 rfl (by decide) rfl ?_
  exact LP 4096 a ha (Nat.mod_lt _ (by omega))
