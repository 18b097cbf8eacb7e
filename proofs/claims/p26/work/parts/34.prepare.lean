/-! the class Planner: prepare, boundSaved, the cuts it tells -/
set_option maxHeartbeats 1500000 in
set_option maxRecDepth 100000 in
theorem sp_boundSaved {d : Nat} {h : AH} {s : SH} {f : Nat → Nat} (c : CB h) (g : GS s) {k : Nat} (hk : k < sLen s) (hL8 : sLen s ≤ 8) (h5 : hI h 16 5 = nI (sLen s)) (hrun : ∀ q, q < 96 → hI h (23 + k) q = nI (qrun s k q)) (hms : ∀ j, k < j → j ≤ sLen s → hI h 31 j = nI (f j)) (hfb : ∀ j, f j ≤ 64) : AC mX1_boundSaved (d + 5) 0 0 [.ref 16, .int (nI k)] h (Qi (fun m h2 => h2 = h ∧ f (k + 1) ≤ m ∧ (∀ q2 n2, q2 < 96 → 2 ≤ n2 → n2 ≤ qrun s k q2 → k + n2 ≤ sLen s → n2 - 1 + f (k + n2) ≤ m) ∧ ∀ b, f (k + 1) ≤ b → (∀ q2 n2, q2 < 96 → 2 ≤ n2 → n2 ≤ qrun s k q2 → k + n2 ≤ sLen s → n2 - 1 + f (k + n2) ≤ b) → m ≤ b)) := by
  have hn := c.1
  have hk8 : k < 8 := by omega
  refine AC.of (by decide) rfl (Nat.le_of_ble_eq_true rfl) (fun X => ?_)
  show AW X mX1_boundSaved (d + 5) 0 0 0 [(0, .ref 16), (1, .int (nI k))] [] h (Qi (fun m h2 => h2 = h ∧ f (k + 1) ≤ m ∧ (∀ q2 n2, q2 < 96 → 2 ≤ n2 → n2 ≤ qrun s k q2 → k + n2 ≤ sLen s → n2 - 1 + f (k + n2) ≤ m) ∧ ∀ b, f (k + 1) ≤ b → (∀ q2 n2, q2 < 96 → 2 ≤ n2 → n2 ≤ qrun s k q2 → k + n2 ≤ sLen s → n2 - 1 + f (k + n2) ≤ b) → m ≤ b))
  have LP : ∀ (fu : Nat) (q m : Nat), q ≤ 96 → m ≤ 80 → f (k + 1) ≤ m → (∀ q2 n2, q2 < 96 → 2 ≤ n2 → n2 ≤ qrun s k q2 → k + n2 ≤ sLen s → q2 < q → n2 - 1 + f (k + n2) ≤ m) → (∀ b, f (k + 1) ≤ b → (∀ q2 n2, q2 < 96 → 2 ≤ n2 → n2 ≤ qrun s k q2 → k + n2 ≤ sLen s → n2 - 1 + f (k + n2) ≤ b) → m ≤ b) → 96 - q < fu → AW X mX1_boundSaved (d + 5) 0 0 11 [(0, .ref 16), (1, .int (nI k)), (2, .int (nI m)), (3, .int (nI q))] [] h (Qi (fun m h2 => h2 = h ∧ f (k + 1) ≤ m ∧ (∀ q2 n2, q2 < 96 → 2 ≤ n2 → n2 ≤ qrun s k q2 → k + n2 ≤ sLen s → n2 - 1 + f (k + n2) ≤ m) ∧ ∀ b, f (k + 1) ≤ b → (∀ q2 n2, q2 < 96 → 2 ≤ n2 → n2 ≤ qrun s k q2 → k + n2 ≤ sLen s → n2 - 1 + f (k + n2) ≤ b) → m ≤ b)) := by
    intro fu
    induction fu with
    | zero => intro q m hq hm h1 hlo hup hz; exact absurd hz (Nat.not_lt_zero _)
    | succ fu ih =>
      intro q m hq hm h1 hlo hup hz
      have ihO := ih
      refine a_iload_n (pc := 11) (i := 3) dX1_boundSaved_11 rfl rfl ?_
      refine a_bipush (pc := 12) (v := nI 96) dX1_boundSaved_12 (by decide) ?_
      refine n_icmp_ge (pc := 14) (tgt := 75) dX1_boundSaved_14 (by decide) (by omega) (by omega) (fun c14 => ?_) (fun c14 => ?_)
      · skip
        refine a_iload_n (pc := 75) (i := 2) dX1_boundSaved_75 rfl rfl ?_
        exact a_ireturn (pc := 76) dX1_boundSaved_76 rfl rfl (⟨m, rfl, rfl, h1, fun q2 n2 a1 a2 a3 a4 => hlo q2 n2 a1 a2 a3 a4 (by omega), hup⟩)
      · have hq8 := qrun_8 g (k := k) (q := q)
        have LQ : ∀ (fu : Nat) (n m : Nat), 2 ≤ n ∧ n ≤ 9 → m ≤ 80 → f (k + 1) ≤ m → (∀ q2 n2, q2 < 96 → 2 ≤ n2 → n2 ≤ qrun s k q2 → k + n2 ≤ sLen s → (q2 < q ∨ (q2 = q ∧ n2 < n)) → n2 - 1 + f (k + n2) ≤ m) → (∀ b, f (k + 1) ≤ b → (∀ q2 n2, q2 < 96 → 2 ≤ n2 → n2 ≤ qrun s k q2 → k + n2 ≤ sLen s → n2 - 1 + f (k + n2) ≤ b) → m ≤ b) → 10 - n < fu → AW X mX1_boundSaved (d + 5) 0 0 20 [(0, .ref 16), (1, .int (nI k)), (2, .int (nI m)), (3, .int (nI q)), (4, .int (nI n))] [] h (Qi (fun m h2 => h2 = h ∧ f (k + 1) ≤ m ∧ (∀ q2 n2, q2 < 96 → 2 ≤ n2 → n2 ≤ qrun s k q2 → k + n2 ≤ sLen s → n2 - 1 + f (k + n2) ≤ m) ∧ ∀ b, f (k + 1) ≤ b → (∀ q2 n2, q2 < 96 → 2 ≤ n2 → n2 ≤ qrun s k q2 → k + n2 ≤ sLen s → n2 - 1 + f (k + n2) ≤ b) → m ≤ b)) := by
          intro fu
          induction fu with
          | zero => intro n m hn29 hm h1 hlo hup hz; exact absurd hz (Nat.not_lt_zero _)
          | succ fu ih =>
            intro n m hn29 hm h1 hlo hup hz
            refine a_iload (pc := 20) (i := 4) dX1_boundSaved_20 rfl ?_
            refine a_aload_n (pc := 22) (i := 0) dX1_boundSaved_22 rfl rfl ?_
            refine a_getR (pc := 23) (ci := 1) (k := 3) (b := 22) dX1_boundSaved_23 (lf_RX1_27 rfl) (by decide) rfl rfl (lt90 hn (shK_lt (show shK 16 = _ from rfl))) c.2.2.2.2.2.2.1.2.2.2.1 ?_
            refine a_iload_n (pc := 26) (i := 1) dX1_boundSaved_26 rfl rfl ?_
            refine a_rald (pc := 27) (j := k) (b := (23 + k)) dX1_boundSaved_27 rfl (lt90 hn (shK_lt (show shK 22 = _ from rfl))) rfl (by omega) (c.2.2.2.2.2.2.2.1 k hk8) ?_
            refine a_iload_n (pc := 28) (i := 3) dX1_boundSaved_28 rfl rfl ?_
            refine a_iald (pc := 29) (j := q) dX1_boundSaved_29 (shRow hk8) (lt90 hn (shK_lt (shRow hk8))) rfl (by omega) ?_
            refine a_top (show (.int (hI h (23 + k) q) : Value) = .int (nI (qrun s k q)) from congrArg Value.int (hrun q c14)) ?_
            refine n_icmp_gt (pc := 30) (tgt := 69) dX1_boundSaved_30 (by decide) (by omega) (by omega) (fun c30 => ?_) (fun c30 => ?_)
            · skip
              refine n_iinc (pc := 69) (k := 1) (ls' := [(0, .ref 16), (1, .int (nI k)), (2, .int (nI m)), (3, .int (nI (q + 1))), (4, .int (nI n))]) dX1_boundSaved_69 rfl (by decide) (by decide) rfl ?_
              refine a_goto (pc := 72) (tgt := 11) dX1_boundSaved_72 (by decide) ?_
              refine a_drop (ls' := [(0, .ref 16), (1, .int (nI k)), (2, .int (nI m)), (3, .int (nI (q + 1)))]) (by simp) ?_
              exact ihO (q + 1) m (by omega) hm h1 (fun q2 n2 a1 a2 a3 a4 a5 => by
      rcases Nat.lt_or_ge q2 q with w | w
      · exact hlo q2 n2 a1 a2 a3 a4 (Or.inl w)
      · have e : q2 = q := by omega
        subst e
        exact hlo q2 n2 a1 a2 a3 a4 (Or.inr ⟨rfl, by omega⟩)) hup (by omega)
            · skip
              refine a_iload_n (pc := 33) (i := 1) dX1_boundSaved_33 rfl rfl ?_
              refine a_iload (pc := 34) (i := 4) dX1_boundSaved_34 rfl ?_
              refine n_iadd (pc := 36) dX1_boundSaved_36 ?_
              refine a_aload_n (pc := 37) (i := 0) dX1_boundSaved_37 rfl rfl ?_
              refine a_getI (pc := 38) (ci := 1) (k := 5) dX1_boundSaved_38 (lf_RX1_58 rfl) (by decide) rfl rfl (lt90 hn (shK_lt (show shK 16 = _ from rfl))) ?_
              refine a_top (show (.int (hI h 16 5) : Value) = .int (nI (sLen s)) from congrArg Value.int h5) ?_
              refine n_icmp_gt (pc := 41) (tgt := 69) dX1_boundSaved_41 (by decide) (by omega) (by omega) (fun c41 => ?_) (fun c41 => ?_)
              · skip
                refine n_iinc (pc := 69) (k := 1) (ls' := [(0, .ref 16), (1, .int (nI k)), (2, .int (nI m)), (3, .int (nI (q + 1))), (4, .int (nI n))]) dX1_boundSaved_69 rfl (by decide) (by decide) rfl ?_
                refine a_goto (pc := 72) (tgt := 11) dX1_boundSaved_72 (by decide) ?_
                refine a_drop (ls' := [(0, .ref 16), (1, .int (nI k)), (2, .int (nI m)), (3, .int (nI (q + 1)))]) (by simp) ?_
                exact ihO (q + 1) m (by omega) hm h1 (fun q2 n2 a1 a2 a3 a4 a5 => by
      rcases Nat.lt_or_ge q2 q with w | w
      · exact hlo q2 n2 a1 a2 a3 a4 (Or.inl w)
      · have e : q2 = q := by omega
        subst e
        exact hlo q2 n2 a1 a2 a3 a4 (Or.inr ⟨rfl, by omega⟩)) hup (by omega)
              · have hfn := hfb (k + n)
                refine a_iload_n (pc := 44) (i := 2) dX1_boundSaved_44 rfl rfl ?_
                refine a_iload (pc := 45) (i := 4) dX1_boundSaved_45 rfl ?_
                refine a_iconst (pc := 47) (v := nI 1) dX1_boundSaved_47 (by decide) ?_
                refine n_isub (pc := 48) dX1_boundSaved_48 (by omega) ?_
                refine a_aload_n (pc := 49) (i := 0) dX1_boundSaved_49 rfl rfl ?_
                refine a_getR (pc := 50) (ci := 1) (k := 4) (b := 31) dX1_boundSaved_50 (lf_RX1_30 rfl) (by decide) rfl rfl (lt90 hn (shK_lt (show shK 16 = _ from rfl))) c.2.2.2.2.2.2.1.2.2.2.2.1 ?_
                refine a_iload_n (pc := 53) (i := 1) dX1_boundSaved_53 rfl rfl ?_
                refine a_iload (pc := 54) (i := 4) dX1_boundSaved_54 rfl ?_
                refine n_iadd (pc := 56) dX1_boundSaved_56 ?_
                refine a_iald (pc := 57) (j := (k + n)) dX1_boundSaved_57 rfl (lt90 hn (shK_lt (show shK 31 = _ from rfl))) rfl (by omega) ?_
                refine a_top (show (.int (hI h 31 (k + n)) : Value) = .int (nI (f (k + n))) from congrArg Value.int (hms (k + n) (by omega) c41)) ?_
                refine n_iadd (pc := 58) dX1_boundSaved_58 ?_
                refine n_mmax (pc := 59) dX1_boundSaved_59 (lm_RX1_55 rfl) (Nat.le_of_ble_eq_true rfl) (by omega) (by omega) ?_
                refine a_istore_n (pc := 62) (i := 2) (ls' := [(0, .ref 16), (1, .int (nI k)), (2, .int (nI (max m ((n - 1) + (f (k + n)))))), (3, .int (nI q)), (4, .int (nI n))]) dX1_boundSaved_62 rfl (by decide) rfl ?_
                refine n_iinc (pc := 63) (k := 1) (ls' := [(0, .ref 16), (1, .int (nI k)), (2, .int (nI (max m ((n - 1) + (f (k + n)))))), (3, .int (nI q)), (4, .int (nI (n + 1)))]) dX1_boundSaved_63 rfl (by decide) (by decide) rfl ?_
                refine a_goto (pc := 66) (tgt := 20) dX1_boundSaved_66 (by decide) ?_
                refine a_locs (ls' := [(0, .ref 16), (1, .int (nI k)), (2, .int (nI (max m (n - 1 + f (k + n))))), (3, .int (nI q)), (4, .int (nI (n + 1)))]) rfl ?_
                exact ih (n + 1) (max m (n - 1 + f (k + n))) (by omega) (by omega) (by omega) (fun q2 n2 a1 a2 a3 a4 a5 => by
      rcases (show (q2 < q ∨ (q2 = q ∧ n2 < n)) ∨ (q2 = q ∧ n2 = n) by omega) with w | ⟨w1, w2⟩
      · exact Nat.le_trans (hlo q2 n2 a1 a2 a3 a4 w) (Nat.le_max_left _ _)
      · subst w1; subst w2; exact Nat.le_max_right _ _) (fun b b1 b2 => Nat.max_le.mpr ⟨hup b b1 b2, b2 q n c14 (by omega) c30 c41⟩) (by omega)
        refine a_iconst (pc := 17) (v := nI 2) dX1_boundSaved_17 (by decide) ?_
        refine a_istore (pc := 18) (i := 4) (ls' := [(0, .ref 16), (1, .int (nI k)), (2, .int (nI m)), (3, .int (nI q)), (4, .int (nI 2))]) dX1_boundSaved_18 (by decide) rfl ?_
        exact LQ 10 2 m (by omega) hm h1 (fun q2 n2 a1 a2 a3 a4 a5 => a5.elim (hlo q2 n2 a1 a2 a3 a4) (fun w => absurd w.2 (by omega))) hup (by omega)
  have hfk := hfb (k + 1)
  refine a_aload_n (pc := 0) (i := 0) dX1_boundSaved_0 rfl rfl ?_
  refine a_getR (pc := 1) (ci := 1) (k := 4) (b := 31) dX1_boundSaved_1 (lf_RX1_30 rfl) (by decide) rfl rfl (lt90 hn (shK_lt (show shK 16 = _ from rfl))) c.2.2.2.2.2.2.1.2.2.2.2.1 ?_
  refine a_iload_n (pc := 4) (i := 1) dX1_boundSaved_4 rfl rfl ?_
  refine a_iconst (pc := 5) (v := nI 1) dX1_boundSaved_5 (by decide) ?_
  refine n_iadd (pc := 6) dX1_boundSaved_6 ?_
  refine a_iald (pc := 7) (j := (k + 1)) dX1_boundSaved_7 rfl (lt90 hn (shK_lt (show shK 31 = _ from rfl))) rfl (by omega) ?_
  refine a_top (show (.int (hI h 31 (k + 1)) : Value) = .int (nI (f (k + 1))) from congrArg Value.int (hms (k + 1) (by omega) (by omega))) ?_
  refine a_istore_n (pc := 8) (i := 2) (ls' := [(0, .ref 16), (1, .int (nI k)), (2, .int (nI (f (k + 1))))]) dX1_boundSaved_8 rfl (by decide) rfl ?_
  refine a_iconst (pc := 9) (v := nI 0) dX1_boundSaved_9 (by decide) ?_
  refine a_istore_n (pc := 10) (i := 3) (ls' := [(0, .ref 16), (1, .int (nI k)), (2, .int (nI (f (k + 1)))), (3, .int (nI 0))]) dX1_boundSaved_10 rfl (by decide) rfl ?_
  exact LP 97 0 (f (k + 1)) (by omega) (by omega) (Nat.le_refl _) (fun q2 n2 _ _ _ _ w => absurd w (Nat.not_lt_zero _)) (fun b b1 _ => b1) (by omega)
/-- ready from letter i on -/
def PRp (h : AH) (s : SH) (f : Nat → Nat) (i : Nat) : Prop := hI h 16 5 = nI (sLen s) ∧ (∀ q, q < 96 → hL h 21 q = mkL (fun b => qhas s q ∧ b = qcell s q)) ∧ (∀ k, i ≤ k → k < sLen s → hL h 20 k = mkL (dMs s k)) ∧ (∀ k q, i ≤ k → k < sLen s → q < 96 → hI h (23 + k) q = nI (qrun s k q)) ∧ (∀ k, i ≤ k → k ≤ sLen s → hI h 31 k = nI (f k)) ∧ (∀ k, i ≤ k → k < sLen s → f (k + 1) ≤ f k ∧ ∀ q n, q < 96 → 2 ≤ n → n ≤ qrun s k q → k + n ≤ sLen s → n - 1 + f (k + n) ≤ f k) ∧ (∀ k, f k ≤ 64) ∧ ∀ k, i ≤ k → k ≤ sLen s → f k ≤ 8 * (8 - k)
theorem PRp_f {h : AH} {s : SH} {f : Nat → Nat} (r : PRp h s f 0) (hL : sLen s ≤ 8) : PRf h s f := ⟨⟨r.1, hL⟩, r.2.1, fun k => r.2.2.1 k (Nat.zero_le _), fun k q => r.2.2.2.1 k q (Nat.zero_le _), fun k => r.2.2.2.2.1 k (Nat.zero_le _), fun k => r.2.2.2.2.2.1 k (Nat.zero_le _), fun k => by have := r.2.2.2.2.2.2.1 k; omega⟩
theorem dec_i (j : Nat) : nI j + Int32.ofInt (-1) = nI j - nI 1 := by
  rw [Int32.sub_eq_add_neg]; rfl
theorem pre_neg {i : Nat} (hi : i < 100) : nI i - nI 1 < 0 ↔ i = 0 := by
  rw [Int32.lt_iff_toInt_lt, Int32.toInt_sub, nI_toInt (by omega), nI_toInt (by omega)]
  show Int.bmod _ _ < 0 ↔ _
  unfold Int.bmod
  simp only []
  split <;> omega
set_option maxHeartbeats 1500000 in
set_option maxRecDepth 100000 in
theorem sp_prepare {d : Nat} {h : AH} {s : SH} (c : CB h) (g : GS s) (r : CR h 2 s) (hL8 : sLen s ≤ 8) : AC mX1_prepare (d + 10) 0 0 [.ref 16, .ref 2] h (Qf [16, 20, 21, 23, 24, 25, 26, 27, 28, 29, 30, 31] none h (fun h2 => ∃ f, PRf h2 s f ∧ f 0 < 800)) := by
  have hn := c.1
  have gw := g.1
  have gh := g.2.1
  have gs := g.2.2.1
  have gl := g.2.2.2.2.2.1
  refine AC.of (by decide) rfl (Nat.le_of_ble_eq_true rfl) (fun X => ?_)
  show AW X mX1_prepare (d + 10) 0 0 0 [(0, .ref 16), (1, .ref 2)] [] h (Qf [16, 20, 21, 23, 24, 25, 26, 27, 28, 29, 30, 31] none h (fun h2 => ∃ f, PRf h2 s f ∧ f 0 < 800))
  have LF : ∀ (i : Nat) (f : Nat → Nat) (H : AH), i ≤ sLen s → Fr [16, 20, 21, 23, 24, 25, 26, 27, 28, 29, 30, 31] h H → PRp H s f i → AW X mX1_prepare (d + 10) 0 0 73 [(0, .ref 16), (1, .ref 2), (2, .int (nI i - nI 1))] [] H (Qf [16, 20, 21, 23, 24, 25, 26, 27, 28, 29, 30, 31] none h (fun h2 => ∃ f, PRf h2 s f ∧ f 0 < 800)) := by
    intro i
    induction i with
    | zero =>
      intro f H hi hf hp
      have hc := c.fr hf
      have hr := r.fr hf (fun a h1 h2 => by simp; omega)
      have hn2 := hc.1
      refine a_iload_n (pc := 73) (i := 2) dX1_prepare_73 rfl rfl ?_
      refine a_if_lt (pc := 74) (tgt := 137) dX1_prepare_74 (by decide) (fun c74 => ?_) (fun c74 => ?_)
      · skip
        exact a_return (pc := 137) dX1_prepare_137 rfl (⟨rfl, hf, f, PRp_f hp hL8, by have := hp.2.2.2.2.2.2.1 0; omega⟩)
      · exact absurd ((pre_neg (by omega)).mpr rfl) c74
    | succ j ih =>
      have ihJ := ih
      intro f H hi hf hp
      have hj8 : j < 8 := by omega
      refine a_locs (ls' := [(0, .ref 16), (1, .ref 2), (2, .int (nI j))]) (by rw [pk_sub (show 1 ≤ j + 1 by omega)]; rfl) ?_
      have hc := c.fr hf
      have hr := r.fr hf (fun a h1 h2 => by simp; omega)
      have hn2 := hc.1
      have h5 := hp.1
      refine a_iload_n (pc := 73) (i := 2) dX1_prepare_73 rfl rfl ?_
      refine n_if_lt (pc := 74) (tgt := 137) dX1_prepare_74 (by decide) (by omega) ?_
      refine a_aload_n (pc := 77) (i := 0) dX1_prepare_77 rfl rfl ?_
      refine a_getR (pc := 78) (ci := 1) (k := 1) (b := 20) dX1_prepare_78 (lf_RX1_18 rfl) (by decide) rfl rfl (lt90 hn2 (shK_lt (show shK 16 = _ from rfl))) hc.2.2.2.2.2.2.1.2.1 ?_
      refine a_iload_n (pc := 81) (i := 2) dX1_prepare_81 rfl rfl ?_
      refine a_aload_n (pc := 82) (i := 1) dX1_prepare_82 rfl rfl ?_
      refine a_aload_n (pc := 83) (i := 1) dX1_prepare_83 rfl rfl ?_
      refine a_iload_n (pc := 84) (i := 2) dX1_prepare_84 rfl rfl ?_
      refine a_vVN1 (pc := 85) (as := [.int (nI j)]) (b := 2) (ci := 3) (v := .int (msA s j)) (h' := H) dX1_prepare_85 (lc_RX1_69 rfl) ceX3_messageAt rfl (lt90 hn2 (shK_lt (show shK 2 = _ from rfl))) (sp_messageAt hc g hr (by omega)) rfl rfl (Nat.le_of_ble_eq_true rfl) rfl ?_
      refine a_vVN1 (pc := 88) (as := [.int (msA s j)]) (b := 2) (ci := 3) (v := .long (mkL (dMs s j))) (h' := H) dX1_prepare_88 (lc_RX1_72 rfl) ceX3_cellsWith rfl (lt90 hn2 (shK_lt (show shK 2 = _ from rfl))) (sp_cellsWith hc g hr) rfl rfl (Nat.le_of_ble_eq_true rfl) rfl ?_
      refine a_last (pc := 91) (j := j) dX1_prepare_91 rfl (lt90 hn2 (shK_lt (show shK 20 = _ from rfl))) rfl (by omega) ?_
      refine a_iconst (pc := 92) (v := nI 0) dX1_prepare_92 (by decide) ?_
      refine a_istore_n (pc := 93) (i := 3) (ls' := [(0, .ref 16), (1, .ref 2), (2, .int (nI j)), (3, .int (nI 0))]) dX1_prepare_93 rfl (by decide) rfl ?_
      obtain ⟨H1, hH1⟩ : ∃ Hx, Hx = sL H 20 j (mkL (dMs s j)) := ⟨_, rfl⟩
      have hf1 : Fr [16, 20, 21, 23, 24, 25, 26, 27, 28, 29, 30, 31] h H1 := by rw [hH1]; exact hf.sL (by simp)
      have e1 : hI H1 = hI H ∧ (∀ q, hL H1 21 q = hL H 21 q) ∧ (∀ k, k ≠ j → hL H1 20 k = hL H 20 k) ∧ hL H1 20 j = mkL (dMs s j) := by rw [hH1]; exact ⟨rfl, fun q => by simp (disch := omega) only [rd1, rd2, rd3, rd4, rd5, rd6, rd7, hI_sL, hL_sI, hL_rI], fun k hk => by simp (disch := omega) only [rd1, rd2, rd3, rd4, rd5, rd6, rd7, hI_sL, hL_sI, hL_rI], by simp (disch := omega) only [rd1, rd2, rd3, rd4, rd5, rd6, rd7, hI_sL, hL_sI, hL_rI]⟩
      refine a_heap (h' := H1) hH1.symm ?_
      have LQ : ∀ (fu : Nat) (q : Nat) (H2 : AH), q ≤ 96 → Fr [16, 20, 21, 23, 24, 25, 26, 27, 28, 29, 30, 31] h H2 → ((∀ a, a ≠ 23 + j → hI H2 a = hI H1 a) ∧ hL H2 = hL H1) → (∀ q2, q2 < q → hI H2 (23 + j) q2 = nI (qrun s j q2)) → 96 - q < fu → AW X mX1_prepare (d + 10) 0 0 94 [(0, .ref 16), (1, .ref 2), (2, .int (nI j)), (3, .int (nI q))] [] H2 (Qf [16, 20, 21, 23, 24, 25, 26, 27, 28, 29, 30, 31] none h (fun h2 => ∃ f, PRf h2 s f ∧ f 0 < 800)) := by
        intro fu
        induction fu with
        | zero => intro q H2 hq hf hk2 hrn hz; exact absurd hz (Nat.not_lt_zero _)
        | succ fu ih =>
          intro q H2 hq hf hk2 hrn hz
          have hc := c.fr hf
          have hr := r.fr hf (fun a h1 h2 => by simp; omega)
          have hn3 := hc.1
          have h5 : hI H2 16 5 = nI (sLen s) := by rw [hk2.1 16 (by omega), e1.1]; exact hp.1
          refine a_iload_n (pc := 94) (i := 3) dX1_prepare_94 rfl rfl ?_
          refine a_bipush (pc := 95) (v := nI 96) dX1_prepare_95 (by decide) ?_
          refine n_icmp_ge (pc := 97) (tgt := 120) dX1_prepare_97 (by decide) (by omega) (by omega) (fun c97 => ?_) (fun c97 => ?_)
          · skip
            have hmm : ∀ k, j < k → k ≤ sLen s → hI H2 31 k = nI (f k) := fun k a1 a2 => by rw [hk2.1 31 (by omega), e1.1]; exact hp.2.2.2.2.1 k a1 a2
            refine a_aload_n (pc := 120) (i := 0) dX1_prepare_120 rfl rfl ?_
            refine a_getR (pc := 121) (ci := 1) (k := 4) (b := 31) dX1_prepare_121 (lf_RX1_30 rfl) (by decide) rfl rfl (lt90 hn3 (shK_lt (show shK 16 = _ from rfl))) hc.2.2.2.2.2.2.1.2.2.2.2.1 ?_
            refine a_iload_n (pc := 124) (i := 2) dX1_prepare_124 rfl rfl ?_
            refine a_aload_n (pc := 125) (i := 0) dX1_prepare_125 rfl rfl ?_
            refine a_iload_n (pc := 126) (i := 2) dX1_prepare_126 rfl rfl ?_
            refine a_zV (pc := 127) (as := [.int (nI j)]) (b := 16) (ci := 1) dX1_prepare_127 (lc_RX1_79 rfl) ceX1_boundSaved rfl (lt90 hn3 (shK_lt (show shK 16 = _ from rfl))) (sp_boundSaved (d := d + 4) hc g (by omega) hL8 h5 (fun q2 hq2 => hrn q2 (by omega)) hmm hp.2.2.2.2.2.2.1) rfl rfl (Nat.le_of_ble_eq_true rfl) (fun b h2 z => by rw [z.1]) (fun m H3 q3 => ?_)
            obtain ⟨e3, m1, m2, m3⟩ := q3
            subst e3
            have hmb : m ≤ 8 * (8 - j) := m3 _ (by have := hp.2.2.2.2.2.2.2 (j + 1) (Nat.le_refl _) hi; omega) (fun q2 n2 a1 a2 a3 a4 => by have := hp.2.2.2.2.2.2.2 (j + n2) (by omega) a4; omega)
            refine a_iast (pc := 130) (j := j) dX1_prepare_130 rfl (lt90 hn3 (shK_lt (show shK 31 = _ from rfl))) rfl (by omega) ?_
            obtain ⟨HF, hHF⟩ : ∃ Hx, Hx = sI H3 31 j (nI m) := ⟨_, rfl⟩
            have fF : Fr [16, 20, 21, 23, 24, 25, 26, 27, 28, 29, 30, 31] h HF := by rw [hHF]; exact hf.sI (by simp)
            obtain ⟨f2, hf2⟩ : ∃ f2 : Nat → Nat, f2 j = m ∧ ∀ k, k ≠ j → f2 k = f k := ⟨fun k => if k = j then m else f k, if_pos rfl, fun k hk => if_neg hk⟩
            have hPF : PRp HF s f2 j := by
              rw [hHF]
              have hx := hf2.2
              refine ⟨by simp (disch := omega) only [rd1, rd2, rd3, rd4, rd5, rd6, rd7, hI_sL, hL_sI, hL_rI]; exact h5, fun q2 hq2 => ?_, fun k a1 a2 => ?_, fun k q2 a1 a2 a3 => ?_, fun k a1 a2 => ?_, fun k a1 a2 => ?_, fun k => ?_, fun k a1 a2 => ?_⟩
              · simp (disch := omega) only [rd1, rd2, rd3, rd4, rd5, rd6, rd7, hI_sL, hL_sI, hL_rI]; rw [hk2.2, e1.2.1]; exact hp.2.1 q2 hq2
              · simp (disch := omega) only [rd1, rd2, rd3, rd4, rd5, rd6, rd7, hI_sL, hL_sI, hL_rI]; rw [hk2.2]
                rcases Nat.lt_or_ge j k with w | w
                · rw [e1.2.2.1 k (by omega)]; exact hp.2.2.1 k w a2
                · rw [show k = j by omega]; exact e1.2.2.2
              · simp (disch := omega) only [rd1, rd2, rd3, rd4, rd5, rd6, rd7, hI_sL, hL_sI, hL_rI]
                rcases Nat.lt_or_ge j k with w | w
                · rw [hk2.1 (23 + k) (by omega), e1.1]; exact hp.2.2.2.1 k q2 w a2 a3
                · rw [show k = j by omega]; exact hrn q2 (by omega)
              · rcases Nat.lt_or_ge j k with w | w
                · rw [hx k (by omega)]; simp (disch := omega) only [rd1, rd2, rd3, rd4, rd5, rd6, rd7, hI_sL, hL_sI, hL_rI]; exact hmm k w a2
                · have e : k = j := by omega
                  subst e
                  rw [hf2.1]; simp (disch := omega) only [rd1, rd2, rd3, rd4, rd5, rd6, rd7, hI_sL, hL_sI, hL_rI]
              · rcases Nat.lt_or_ge j k with w | w
                · rw [hx k (by omega), hx (k + 1) (by omega)]
                  refine ⟨(hp.2.2.2.2.2.1 k w a2).1, fun q2 n2 b1 b2 b3 b4 => ?_⟩
                  rw [hx (k + n2) (by omega)]; exact (hp.2.2.2.2.2.1 k w a2).2 q2 n2 b1 b2 b3 b4
                · have e : k = j := by omega
                  subst e
                  rw [hf2.1, hx (k + 1) (by omega)]
                  refine ⟨m1, fun q2 n2 b1 b2 b3 b4 => ?_⟩
                  rw [hx (k + n2) (by omega)]; exact m2 q2 n2 b1 b2 b3 b4
              · by_cases e : k = j
                · rw [e, hf2.1]; omega
                · rw [hf2.2 k e]; exact hp.2.2.2.2.2.2.1 k
              · rcases Nat.lt_or_ge j k with w | w
                · rw [hx k (by omega)]; exact hp.2.2.2.2.2.2.2 k w a2
                · have e : k = j := by omega
                  subst e
                  rw [hf2.1]; exact hmb
            refine a_heap (h' := HF) hHF.symm ?_
            refine a_drop (ls' := [(0, .ref 16), (1, .ref 2), (2, .int (nI j))]) (by simp) ?_
            refine a_iinc (pc := 131) (i := 2) (ls' := [(0, .ref 16), (1, .ref 2), (2, .int (nI j - nI 1))]) dX1_prepare_131 rfl (dec_i j) (by decide) rfl ?_
            refine a_goto (pc := 134) (tgt := 73) dX1_prepare_134 (by decide) ?_
            exact ihJ _ HF (by omega) fF hPF
          · skip
            refine a_aload_n (pc := 100) (i := 0) dX1_prepare_100 rfl rfl ?_
            refine a_getR (pc := 101) (ci := 1) (k := 3) (b := 22) dX1_prepare_101 (lf_RX1_27 rfl) (by decide) rfl rfl (lt90 hn3 (shK_lt (show shK 16 = _ from rfl))) hc.2.2.2.2.2.2.1.2.2.2.1 ?_
            refine a_iload_n (pc := 104) (i := 2) dX1_prepare_104 rfl rfl ?_
            refine a_rald (pc := 105) (j := j) (b := (23 + j)) dX1_prepare_105 rfl (lt90 hn3 (shK_lt (show shK 22 = _ from rfl))) rfl (by omega) (hc.2.2.2.2.2.2.2.1 j hj8) ?_
            refine a_iload_n (pc := 106) (i := 3) dX1_prepare_106 rfl rfl ?_
            refine a_aload_n (pc := 107) (i := 1) dX1_prepare_107 rfl rfl ?_
            refine a_iload_n (pc := 108) (i := 3) dX1_prepare_108 rfl rfl ?_
            refine a_iload_n (pc := 109) (i := 2) dX1_prepare_109 rfl rfl ?_
            refine a_vVN1 (pc := 110) (as := [.int (nI q), .int (nI j)]) (b := 2) (ci := 3) (v := .int (nI (qrun s j q))) (h' := H2) dX1_prepare_110 (lc_RX1_76 rfl) ceX3_lettersFrom rfl (lt90 hn3 (shK_lt (show shK 2 = _ from rfl))) (sp_lettersFrom hc g hr c97 (by omega)) rfl rfl (Nat.le_of_ble_eq_true rfl) rfl ?_
            refine a_iast (pc := 113) (j := q) dX1_prepare_113 (shRow hj8) (lt90 hn3 (shK_lt (shRow hj8))) rfl (by omega) ?_
            refine n_iinc (pc := 114) (k := 1) (ls' := [(0, .ref 16), (1, .ref 2), (2, .int (nI j)), (3, .int (nI (q + 1)))]) dX1_prepare_114 rfl (by decide) (by decide) rfl ?_
            refine a_goto (pc := 117) (tgt := 94) dX1_prepare_117 (by decide) ?_
            exact ih (q + 1) _ (by omega) (hf.sI (by simp; omega)) ⟨fun a ha => (up2_row ha).trans (hk2.1 a ha), hk2.2⟩ (fun q2 h2 => by
      rcases Nat.lt_or_ge q2 q with w | w
      · simp (disch := omega) only [rd1, rd2, rd3, rd4, rd5, rd6, rd7, hI_sL, hL_sI, hL_rI]; exact hrn q2 w
      · have e : q2 = q := by omega
        subst e
        simp (disch := omega) only [rd1, rd2, rd3, rd4, rd5, rd6, rd7, hI_sL, hL_sI, hL_rI]) (by omega)
      exact LQ 97 0 H1 (by omega) hf1 ⟨fun _ _ => rfl, rfl⟩ (fun q2 h2 => absurd h2 (Nat.not_lt_zero _)) (by omega)
  have LS : ∀ (fu : Nat) (q : Nat) (H : AH), q ≤ 96 → Fr [16, 20, 21, 23, 24, 25, 26, 27, 28, 29, 30, 31] h H → hI H 16 5 = nI (sLen s) → (∀ q2, q2 < q → hL H 21 q2 = mkL (fun b => qhas s q2 ∧ b = qcell s q2)) → 96 - q < fu → AW X mX1_prepare (d + 10) 0 0 19 [(0, .ref 16), (1, .ref 2), (2, .int (nI q))] [] H (Qf [16, 20, 21, 23, 24, 25, 26, 27, 28, 29, 30, 31] none h (fun h2 => ∃ f, PRf h2 s f ∧ f 0 < 800)) := by
    intro fu
    induction fu with
    | zero => intro q H hq hf h5 hcb hz; exact absurd hz (Nat.not_lt_zero _)
    | succ fu ih =>
      intro q H hq hf h5 hcb hz
      have hc := c.fr hf
      have hr := r.fr hf (fun a h1 h2 => by simp; omega)
      have hn2 := hc.1
      refine a_iload_n (pc := 19) (i := 2) dX1_prepare_19 rfl rfl ?_
      refine a_bipush (pc := 20) (v := nI 96) dX1_prepare_20 (by decide) ?_
      refine n_icmp_ge (pc := 22) (tgt := 56) dX1_prepare_22 (by decide) (by omega) (by omega) (fun c22 => ?_) (fun c22 => ?_)
      · skip
        refine a_aload_n (pc := 56) (i := 0) dX1_prepare_56 rfl rfl ?_
        refine a_getR (pc := 57) (ci := 1) (k := 4) (b := 31) dX1_prepare_57 (lf_RX1_30 rfl) (by decide) rfl rfl (lt90 hn2 (shK_lt (show shK 16 = _ from rfl))) hc.2.2.2.2.2.2.1.2.2.2.2.1 ?_
        refine a_aload_n (pc := 60) (i := 0) dX1_prepare_60 rfl rfl ?_
        refine a_getI (pc := 61) (ci := 1) (k := 5) dX1_prepare_61 (lf_RX1_58 rfl) (by decide) rfl rfl (lt90 hn2 (shK_lt (show shK 16 = _ from rfl))) ?_
        refine a_top (show (.int (hI H 16 5) : Value) = .int (nI (sLen s)) from congrArg Value.int h5) ?_
        refine a_iconst (pc := 64) (v := nI 0) dX1_prepare_64 (by decide) ?_
        refine a_iast (pc := 65) (j := (sLen s)) dX1_prepare_65 rfl (lt90 hn2 (shK_lt (show shK 31 = _ from rfl))) rfl (by omega) ?_
        refine a_aload_n (pc := 66) (i := 0) dX1_prepare_66 rfl rfl ?_
        refine a_getI (pc := 67) (ci := 1) (k := 5) dX1_prepare_67 (lf_RX1_58 rfl) (by decide) rfl rfl (lt90 hn2 (shK_lt (show shK 16 = _ from rfl))) ?_
        refine a_top (show (.int (hI (sI H 31 (sLen s) (nI 0)) 16 5) : Value) = .int (nI (sLen s)) from congrArg Value.int h5) ?_
        refine a_iconst (pc := 70) (v := nI 1) dX1_prepare_70 (by decide) ?_
        refine a_isub (pc := 71) dX1_prepare_71 ?_
        refine a_istore_n (pc := 72) (i := 2) (ls' := [(0, .ref 16), (1, .ref 2), (2, .int ((nI (sLen s)) - (nI 1)))]) dX1_prepare_72 rfl (by decide) rfl ?_
        obtain ⟨HF, hHF⟩ : ∃ Hx, Hx = sI H 31 (sLen s) (nI 0) := ⟨_, rfl⟩
        have fF : Fr [16, 20, 21, 23, 24, 25, 26, 27, 28, 29, 30, 31] h HF := by rw [hHF]; exact hf.sI (by simp)
        have hPF : PRp HF s (fun _ => 0) (sLen s) := by rw [hHF]; exact ⟨by simp (disch := omega) only [rd1, rd2, rd3, rd4, rd5, rd6, rd7, hI_sL, hL_sI, hL_rI]; exact h5, fun q2 hq2 => hcb q2 (by omega), fun k a1 a2 => absurd a1 (by omega), fun k q2 a1 a2 => absurd a1 (by omega), fun k a1 a2 => by simp (disch := omega) only [rd1, rd2, rd3, rd4, rd5, rd6, rd7, hI_sL, hL_sI, hL_rI], fun k a1 a2 => absurd a1 (by omega), fun k => Nat.zero_le _, fun k _ _ => Nat.zero_le _⟩
        refine a_heap (h' := HF) hHF.symm ?_
        exact LF (sLen s) _ HF (Nat.le_refl _) fF hPF
      · skip
        refine a_aload_n (pc := 25) (i := 0) dX1_prepare_25 rfl rfl ?_
        refine a_getR (pc := 26) (ci := 1) (k := 2) (b := 21) dX1_prepare_26 (lf_RX1_22 rfl) (by decide) rfl rfl (lt90 hn2 (shK_lt (show shK 16 = _ from rfl))) hc.2.2.2.2.2.2.1.2.2.1 ?_
        refine a_iload_n (pc := 29) (i := 2) dX1_prepare_29 rfl rfl ?_
        refine a_aload_n (pc := 30) (i := 1) dX1_prepare_30 rfl rfl ?_
        refine a_iload_n (pc := 31) (i := 2) dX1_prepare_31 rfl rfl ?_
        refine a_vVN1 (pc := 32) (as := [.int (nI q)]) (b := 2) (ci := 3) (v := .int (bi (qhas s q))) (h' := H) dX1_prepare_32 (lc_RX1_61 rfl) ceX3_hasSpot rfl (lt90 hn2 (shK_lt (show shK 2 = _ from rfl))) (sp_hasSpot hc g hr c22) rfl rfl (Nat.le_of_ble_eq_true rfl) rfl ?_
        refine b_if_eq (pc := 35) (tgt := 48) dX1_prepare_35 (by decide) (fun c35 => ?_) (fun c35 => ?_)
        · skip
          refine a_lconst (pc := 48) (v := 0) dX1_prepare_48 (by decide) ?_
          refine a_top (show (.long 0 : Value) = .long (mkL (fun b => qhas s q ∧ b = qcell s q)) from congrArg Value.long (mkL_eq0.mpr (fun i _ y => c35 y.1)).symm) ?_
          refine a_last (pc := 49) (j := q) dX1_prepare_49 rfl (lt90 hn2 (shK_lt (show shK 21 = _ from rfl))) rfl (by omega) ?_
          refine n_iinc (pc := 50) (k := 1) (ls' := [(0, .ref 16), (1, .ref 2), (2, .int (nI (q + 1)))]) dX1_prepare_50 rfl (by decide) (by decide) rfl ?_
          refine a_goto (pc := 53) (tgt := 19) dX1_prepare_53 (by decide) ?_
          exact ih (q + 1) _ (by omega) (hf.sL (by simp)) h5 (fun q2 h2 => by
      rcases Nat.lt_or_ge q2 q with w | w
      · simp (disch := omega) only [rd1, rd2, rd3, rd4, rd5, rd6, rd7, hI_sL, hL_sI, hL_rI]; exact hcb q2 w
      · have e : q2 = q := by omega
        subst e
        simp (disch := omega) only [rd1, rd2, rd3, rd4, rd5, rd6, rd7, hI_sL, hL_sI, hL_rI]) (by omega)
        · skip
          refine a_lconst (pc := 38) (v := 1) dX1_prepare_38 (by decide) ?_
          refine a_aload_n (pc := 39) (i := 1) dX1_prepare_39 rfl rfl ?_
          refine a_iload_n (pc := 40) (i := 2) dX1_prepare_40 rfl rfl ?_
          refine a_vVN1 (pc := 41) (as := [.int (nI q)]) (b := 2) (ci := 3) (v := .int (nI (qcell s q))) (h' := H) dX1_prepare_41 (lc_RX1_65 rfl) ceX3_cellOf rfl (lt90 hn2 (shK_lt (show shK 2 = _ from rfl))) (sp_cellOf hc g hr c22 c35.2) rfl rfl (Nat.le_of_ble_eq_true rfl) rfl ?_
          refine a_lshl (pc := 44) dX1_prepare_44 ?_
          refine a_top (show (.long (1 <<< ((nI (qcell s q)).toInt64 &&& 63)) : Value) = .long (mkL (fun b => qhas s q ∧ b = qcell s q)) from congrArg Value.long ((mkL_shl (qcell_lt g c22)).trans (mkL_c fun b _ => ⟨fun y => ⟨c35, y⟩, fun y => y.2⟩))) ?_
          refine a_goto (pc := 45) (tgt := 49) dX1_prepare_45 (by decide) ?_
          refine a_last (pc := 49) (j := q) dX1_prepare_49 rfl (lt90 hn2 (shK_lt (show shK 21 = _ from rfl))) rfl (by omega) ?_
          refine n_iinc (pc := 50) (k := 1) (ls' := [(0, .ref 16), (1, .ref 2), (2, .int (nI (q + 1)))]) dX1_prepare_50 rfl (by decide) (by decide) rfl ?_
          refine a_goto (pc := 53) (tgt := 19) dX1_prepare_53 (by decide) ?_
          exact ih (q + 1) _ (by omega) (hf.sL (by simp)) h5 (fun q2 h2 => by
      rcases Nat.lt_or_ge q2 q with w | w
      · simp (disch := omega) only [rd1, rd2, rd3, rd4, rd5, rd6, rd7, hI_sL, hL_sI, hL_rI]; exact hcb q2 w
      · have e : q2 = q := by omega
        subst e
        simp (disch := omega) only [rd1, rd2, rd3, rd4, rd5, rd6, rd7, hI_sL, hL_sI, hL_rI]) (by omega)
  have hf : Fr [16, 20, 21, 23, 24, 25, 26, 27, 28, 29, 30, 31] h h := Fr.refl
  have hc := c.fr hf
  have hr := r.fr hf (fun a h1 h2 => by simp; omega)
  have hn2 := hc.1
  refine a_aload_n (pc := 0) (i := 0) dX1_prepare_0 rfl rfl ?_
  refine a_iconst (pc := 1) (v := nI 0) dX1_prepare_1 (by decide) ?_
  refine a_bipush (pc := 2) (v := nI 8) dX1_prepare_2 (by decide) ?_
  refine a_aload_n (pc := 4) (i := 1) dX1_prepare_4 rfl rfl ?_
  refine a_getI (pc := 5) (ci := 3) (k := 7) dX1_prepare_5 (lf_RX1_44 rfl) (by decide) rfl rfl (lt90 hn2 (shK_lt (show shK 2 = _ from rfl))) ?_
  refine a_top (show (.int (hI h 2 7) : Value) = .int (nI (sLen s)) from congrArg Value.int hr.1.2.2.2.2.1) ?_
  refine n_mmin (pc := 8) dX1_prepare_8 (lm_RX1_49 rfl) (Nat.le_of_ble_eq_true rfl) (by omega) (by omega) ?_
  refine n_mmax (pc := 11) dX1_prepare_11 (lm_RX1_55 rfl) (Nat.le_of_ble_eq_true rfl) (by omega) (by omega) ?_
  refine a_top (show (.int (nI (max 0 (min 8 (sLen s)))) : Value) = .int (nI (sLen s)) from congrArg (fun n => Value.int (nI n)) (by omega)) ?_
  refine a_putI (pc := 14) (ci := 1) (k := 5) dX1_prepare_14 (lf_RX1_58 rfl) (by decide) (Or.inl rfl) rfl (lt90 hn2 (shK_lt (show shK 16 = _ from rfl))) rfl ?_
  refine a_iconst (pc := 17) (v := nI 0) dX1_prepare_17 (by decide) ?_
  refine a_istore_n (pc := 18) (i := 2) (ls' := [(0, .ref 16), (1, .ref 2), (2, .int (nI 0))]) dX1_prepare_18 rfl (by decide) rfl ?_
  exact LS 97 0 _ (by omega) (hf.sI (by simp)) (by simp (disch := omega) only [rd1, rd2, rd3, rd4, rd5, rd6, rd7, hI_sL, hL_sI, hL_rI]) (fun q2 h2 => absurd h2 (Nat.not_lt_zero _)) (by omega)
set_option maxHeartbeats 1500000 in
set_option maxRecDepth 100000 in
theorem sp_spotOfCut {d : Nat} {h : AH} {s : SH} {l : List (Nat × Nat)} {k : Nat} (c : CB h) (r : PH h s l) (hk : k < l.length) (hl : l.length ≤ 8) : AC mX1_spotOfCut (d + 1) 0 0 [.ref 16, .int (nI k)] h (Qe (some (.int (nI (l.getD k (0, 0)).2))) h) := by
  have hn := c.1
  refine AC.of (by decide) rfl (Nat.le_of_ble_eq_true rfl) (fun X => ?_)
  show AW X mX1_spotOfCut (d + 1) 0 0 0 [(0, .ref 16), (1, .int (nI k))] [] h (Qe (some (.int (nI (l.getD k (0, 0)).2))) h)
  refine a_iload_n (pc := 0) (i := 1) dX1_spotOfCut_0 rfl rfl ?_
  refine n_if_lt (pc := 1) (tgt := 27) dX1_spotOfCut_1 (by decide) (by omega) ?_
  refine a_iload_n (pc := 4) (i := 1) dX1_spotOfCut_4 rfl rfl ?_
  refine a_aload_n (pc := 5) (i := 0) dX1_spotOfCut_5 rfl rfl ?_
  refine a_getI (pc := 6) (ci := 1) (k := 8) dX1_spotOfCut_6 (lf_RX1_40 rfl) (by decide) rfl rfl (lt90 hn (shK_lt (show shK 16 = _ from rfl))) ?_
  refine a_top (show (.int (hI h 16 8) : Value) = .int (nI l.length) from congrArg Value.int r.1) ?_
  refine n_icmp_ge (pc := 9) (tgt := 27) dX1_spotOfCut_9 (by decide) (by omega) (by omega) (fun c9 => ?_) (fun c9 => ?_)
  · exact absurd hk (by omega)
  · skip
    refine a_iload_n (pc := 12) (i := 1) dX1_spotOfCut_12 rfl rfl ?_
    refine a_bipush (pc := 13) (v := nI 8) dX1_spotOfCut_13 (by decide) ?_
    refine n_icmp_ge (pc := 15) (tgt := 27) dX1_spotOfCut_15 (by decide) (by omega) (by omega) (fun c15 => ?_) (fun c15 => ?_)
    · exact absurd hk (by omega)
    · skip
      refine a_aload_n (pc := 18) (i := 0) dX1_spotOfCut_18 rfl rfl ?_
      refine a_getR (pc := 19) (ci := 1) (k := 6) (b := 32) dX1_spotOfCut_19 (lf_RX1_34 rfl) (by decide) rfl rfl (lt90 hn (shK_lt (show shK 16 = _ from rfl))) c.2.2.2.2.2.2.1.2.2.2.2.2.1 ?_
      refine a_iload_n (pc := 22) (i := 1) dX1_spotOfCut_22 rfl rfl ?_
      refine a_iald (pc := 23) (j := k) dX1_spotOfCut_23 rfl (lt90 hn (shK_lt (show shK 32 = _ from rfl))) rfl (by omega) ?_
      refine a_goto (pc := 24) (tgt := 28) dX1_spotOfCut_24 (by decide) ?_
      exact a_ireturn (pc := 28) dX1_spotOfCut_28 rfl rfl (⟨by rw [(r.2.2 k hk).1], rfl⟩)
set_option maxHeartbeats 1500000 in
set_option maxRecDepth 100000 in
theorem sp_lengthOfCut {d : Nat} {h : AH} {s : SH} {l : List (Nat × Nat)} {k : Nat} (c : CB h) (r : PH h s l) (hk : k < l.length) (hl : l.length ≤ 8) : AC mX1_lengthOfCut (d + 1) 0 0 [.ref 16, .int (nI k)] h (Qe (some (.int (nI (l.getD k (0, 0)).1))) h) := by
  have hn := c.1
  refine AC.of (by decide) rfl (Nat.le_of_ble_eq_true rfl) (fun X => ?_)
  show AW X mX1_lengthOfCut (d + 1) 0 0 0 [(0, .ref 16), (1, .int (nI k))] [] h (Qe (some (.int (nI (l.getD k (0, 0)).1))) h)
  refine a_iload_n (pc := 0) (i := 1) dX1_lengthOfCut_0 rfl rfl ?_
  refine n_if_lt (pc := 1) (tgt := 27) dX1_lengthOfCut_1 (by decide) (by omega) ?_
  refine a_iload_n (pc := 4) (i := 1) dX1_lengthOfCut_4 rfl rfl ?_
  refine a_aload_n (pc := 5) (i := 0) dX1_lengthOfCut_5 rfl rfl ?_
  refine a_getI (pc := 6) (ci := 1) (k := 8) dX1_lengthOfCut_6 (lf_RX1_40 rfl) (by decide) rfl rfl (lt90 hn (shK_lt (show shK 16 = _ from rfl))) ?_
  refine a_top (show (.int (hI h 16 8) : Value) = .int (nI l.length) from congrArg Value.int r.1) ?_
  refine n_icmp_ge (pc := 9) (tgt := 27) dX1_lengthOfCut_9 (by decide) (by omega) (by omega) (fun c9 => ?_) (fun c9 => ?_)
  · exact absurd hk (by omega)
  · skip
    refine a_iload_n (pc := 12) (i := 1) dX1_lengthOfCut_12 rfl rfl ?_
    refine a_bipush (pc := 13) (v := nI 8) dX1_lengthOfCut_13 (by decide) ?_
    refine n_icmp_ge (pc := 15) (tgt := 27) dX1_lengthOfCut_15 (by decide) (by omega) (by omega) (fun c15 => ?_) (fun c15 => ?_)
    · exact absurd hk (by omega)
    · skip
      refine a_aload_n (pc := 18) (i := 0) dX1_lengthOfCut_18 rfl rfl ?_
      refine a_getR (pc := 19) (ci := 1) (k := 7) (b := 33) dX1_lengthOfCut_19 (lf_RX1_37 rfl) (by decide) rfl rfl (lt90 hn (shK_lt (show shK 16 = _ from rfl))) c.2.2.2.2.2.2.1.2.2.2.2.2.2 ?_
      refine a_iload_n (pc := 22) (i := 1) dX1_lengthOfCut_22 rfl rfl ?_
      refine a_iald (pc := 23) (j := k) dX1_lengthOfCut_23 rfl (lt90 hn (shK_lt (show shK 33 = _ from rfl))) rfl (by omega) ?_
      refine a_goto (pc := 24) (tgt := 28) dX1_lengthOfCut_24 (by decide) ?_
      exact a_ireturn (pc := 28) dX1_lengthOfCut_28 rfl rfl (⟨by rw [(r.2.2 k hk).2], rfl⟩)
