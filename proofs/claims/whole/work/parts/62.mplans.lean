/-! the class LetterCutsModel: the search for plans -/
theorem mq_mono {s : SH} (g : GS s) {x p x2 p2 : Nat} (hx : x < 2) (hx2 : x2 < 2) (hp : p < sCells s) (hp2 : p2 < sCells s) (h : x < x2 ∨ (x = x2 ∧ p ≤ p2)) : mq s x p ≤ mq s x2 p2 := by
  obtain ⟨-, -, a3, a4, a5⟩ := cell_q g hp
  obtain ⟨-, -, b3, b4, b5⟩ := cell_q g hp2
  have gw := g.1
  have gh := g.2.1
  unfold mq
  rcases h with h | ⟨rfl, h⟩
  · omega
  · have hd : p / sW s ≤ p2 / sW s := Nat.div_le_div_right h
    rcases (by omega : p / sW s < p2 / sW s ∨ p / sW s = p2 / sW s) with z | z
    · omega
    · rw [z] at a5 ⊢
      omega
/-- the spot that is tried as the a-th -/
def sq (s : SH) (a : Nat) : Nat := mq s (a / sCells s) (a % sCells s)
theorem sq_ok {s : SH} (g : GS s) {a : Nat} (ha : a < 2 * sCells s) : a / sCells s < 2 ∧ a % sCells s < sCells s := by
  have gc := cells48 g
  refine ⟨?_, Nat.mod_lt _ (by omega)⟩
  rw [Nat.div_lt_iff_lt_mul (by omega)]
  exact ha
theorem sq_mono {s : SH} (g : GS s) {a b : Nat} (ha : a ≤ b) (hb : b < 2 * sCells s) : sq s a ≤ sq s b := by
  have gc := cells48 g
  have h1 := sq_ok g (a := a) (by omega)
  have h2 := sq_ok g hb
  refine mq_mono g h1.1 h2.1 h1.2 h2.2 ?_
  have hd : a / sCells s ≤ b / sCells s := Nat.div_le_div_right ha
  rcases (by omega : a / sCells s < b / sCells s ∨ a / sCells s = b / sCells s) with z | z
  · exact Or.inl z
  · refine Or.inr ⟨z, ?_⟩
    have e1 := Nat.div_add_mod a (sCells s)
    have e2 := Nat.div_add_mod b (sCells s)
    rw [z] at e1
    omega
theorem sq_of {s : SH} (g : GS s) {q f : Nat} (hq : q < 96) (h : 1 ≤ qrun s f q) : ∃ a, a < 2 * sCells s ∧ q = sq s a := by
  have gc := cells48 g
  obtain ⟨x, p, ⟨hx, hp⟩, rfl⟩ := run_mq g hq h
  have e1 : (sCells s * x + p) / sCells s = x := by rw [Nat.mul_add_div (by omega), Nat.div_eq_of_lt hp]; rfl
  have e2 : (sCells s * x + p) % sCells s = p := by rw [Nat.mul_add_mod, Nat.mod_eq_of_lt hp]
  refine ⟨sCells s * x + p, ?_, by unfold sq; rw [e1, e2]⟩
  have : sCells s * x ≤ sCells s * 1 := Nat.mul_le_mul_left _ (by omega)
  omega
/-- the row of vain keys, for plans of m cuts -/
def VIm (h : AH) (s : SH) (m : Nat) : Prop := ∃ vm, vm ≤ 2048 ∧ hI h 66 25 = nI vm ∧ cnt (fun i => hL h 87 i ≠ 0) 4096 ≤ vm ∧ ∀ i, i < 4096 → hL h 87 i ≠ 0 → Bd s m (hL h 87 i)
theorem VIm.free {h : AH} {s : SH} {m : Nat} (v : VIm h s m) : ∃ z, z < 4096 ∧ hL h 87 z = 0 := by
  obtain ⟨vm, h1, -, h2, -⟩ := v
  refine Classical.byContradiction fun hz => ?_
  have h3 : cnt (fun i => hL h 87 i ≠ 0) 4096 = 4096 := by
    have h4 := cnt_not (P := fun i => hL h 87 i ≠ 0) 4096
    have h5 : cnt (fun i => ¬ hL h 87 i ≠ 0) 4096 = 0 := cnt_none _ fun i hi hn => hz ⟨i, hi, Classical.byContradiction hn⟩
    omega
  omega
theorem VIm.row {h h2 : AH} {s : SH} {m : Nat} (v : VIm h s m) (e1 : hI h2 66 25 = hI h 66 25) (e2 : hL h2 87 = hL h 87) : VIm h2 s m := by
  unfold VIm at v ⊢
  rw [e1, e2]
  exact v
theorem VIm.add {h h2 : AH} {s : SH} {m vm i : Nat} {key : Int64} (h1 : vm < 2048) (h2b : hI h2 66 25 = nI (vm + 1)) (h3 : cnt (fun i => hL h 87 i ≠ 0) 4096 ≤ vm) (h4 : ∀ i, i < 4096 → hL h 87 i ≠ 0 → Bd s m (hL h 87 i)) (hi : i < 4096) (e : ∀ j, hL h2 87 j = if j = i then key else hL h 87 j) (hb : Bd s m key) : VIm h2 s m := by
  refine ⟨vm + 1, by omega, h2b, ?_, fun j hj hn => ?_⟩
  · have h5 : cnt (fun j => hL h2 87 j ≠ 0) 4096 ≤ cnt (fun j => hL h 87 j ≠ 0 ∨ j = i) 4096 := cnt_mono fun j _ hn => by
      rw [e j] at hn
      by_cases z : j = i
      · exact Or.inr z
      · rw [if_neg z] at hn; exact Or.inl hn
    have h6 : cnt (fun j => hL h 87 j ≠ 0 ∨ j = i) 4096 ≤ cnt (fun j => hL h 87 j ≠ 0) 4096 + 1 := by
      rcases Classical.em (hL h 87 i ≠ 0) with z | z
      · have : cnt (fun j => hL h 87 j ≠ 0 ∨ j = i) 4096 ≤ cnt (fun j => hL h 87 j ≠ 0) 4096 := cnt_mono fun j _ hn => hn.elim id (fun y => y ▸ z)
        omega
      · rw [cnt_del (Q := fun j => hL h 87 j ≠ 0 ∨ j = i) (x := i) (Or.inr rfl) hi]
        have : cnt (fun j => (hL h 87 j ≠ 0 ∨ j = i) ∧ j ≠ i) 4096 ≤ cnt (fun j => hL h 87 j ≠ 0) 4096 := cnt_mono fun j _ hn => hn.1.elim id (fun y => absurd y hn.2)
        omega
    omega
  · rw [e j] at hn ⊢
    by_cases z : j = i
    · rw [if_pos z]; exact hb
    · rw [if_neg z] at hn ⊢; exact h4 j hj hn
theorem len_e {a c m : Nat} (h : a + (c + 1) = m) : a + 1 = m - c := by omega
theorem len_e2 {a c m : Nat} (h : a + (c + 1) = m) : a + 1 + c = m := by omega
theorem len_e3 {a c m : Nat} (h : a + 1 = m - c) : a + (c + 1) = m := by omega
/-- the cuts that are held from the c-th on -/
def PAm (h : AH) (s : SH) (c : Nat) (l : List (Nat × Nat)) : Prop := ∀ i, i < l.length → hI h 83 (c + i) = nI (l.getD i (0, 0)).1 ∧ hI h 84 (c + i) = nI ((l.getD i (0, 0)).2 / 48) ∧ hI h 85 (c + i) = nI (qpl s (l.getD i (0, 0)).2)
abbrev SPm : List Nat := [66, 80, 81, 83, 84, 85, 87]
def K25 (h h2 : AH) : Prop := ∀ j, j ≠ 25 → hI h2 66 j = hI h 66 j
def ARm (c : Nat) (h h2 : AH) : Prop := ∀ i, i < c → hI h2 83 i = hI h 83 i ∧ hI h2 84 i = hI h 84 i ∧ hI h2 85 i = hI h 85 i
theorem ARm.trans {c c2 : Nat} {h h2 h3 : AH} (a : ARm c h h2) (b : ARm c2 h2 h3) (hc : c ≤ c2) : ARm c h h3 := fun i hi => ⟨(b i (by omega)).1.trans (a i hi).1, (b i (by omega)).2.1.trans (a i hi).2.1, (b i (by omega)).2.2.trans (a i hi).2.2⟩
def PPre (h : AH) (s : SH) (f : Nat → Nat) (m : Nat) (Y : Nat → Prop) : Prop := CB h ∧ DM h 68 s ∧ (NDm h s f ∧ MTm h s) ∧ TKm h s Y ∧ VIm h s m
def PRes (h : AH) (s : SH) (m k cut : Nat) (Y : Nat → Prop) (b : Prop) (h2 : AH) : Prop := (Fr SPm h h2 ∧ K25 h h2) ∧ TKm h2 s Y ∧ VIm h2 s m ∧ ARm cut h h2 ∧ (b ↔ ∃ l, plV s k Y l ∧ l.length + cut = m) ∧ (b → ∃ l, GE s k Y l ∧ l.length + cut = m ∧ PAm h2 s cut l)
theorem PRes_n {h : AH} {s : SH} {m k cut : Nat} {Y : Nat → Prop} : ∀ b h2, PRes h s m k cut Y b h2 → hN h2 = hN h := fun b h2 q => q.1.1.1
theorem PPre.fr {S : List Nat} {h h2 : AH} {s : SH} {f : Nat → Nat} {m : Nat} {Y Z : Nat → Prop} (p : PPre h s f m Y) (fr : Fr S h h2) (hs : ∀ a, a ∈ S → a = 66 ∨ a = 80 ∨ a = 81 ∨ a = 83 ∨ a = 84 ∨ a = 85 ∨ a = 87) (tk : TKm h2 s Z) (vi : VIm h2 s m) : PPre h2 s f m Z := by
  obtain ⟨c, r, ⟨⟨n1, n2, n3⟩, mt⟩, -, -⟩ := p
  exact ⟨c.fr fr, r.fr fr (fun z => by have := hs _ z; omega), ⟨⟨n1, fun k hk => by rw [(fr.2.2 82 (fun z => by have := hs _ z; omega)).1]; exact n2 k hk, n3⟩, fun k hk => by rw [(fr.2.2 86 (fun z => by have := hs _ z; omega)).2]; exact mt k hk⟩, tk, vi⟩
theorem own_free {s : SH} (g : GS s) {x p n : Nat} {Y : Nat → Prop} (hx : x < 2) (hp : p < sCells s) (hon : ∀ b, pcl s (mq s x p) n b → b / 8 < sH s ∧ b % 8 < sW s) : mkL (fun c => (c < sCells s ∧ Y (mb s c)) ∧ (c < sCells s ∧ pcl s (mq s x p) n (mb s c))) = 0 ↔ ∀ b, pcl s (mq s x p) n b → ¬ Y b := by
  rw [mkL_eq0]
  have gc := cells48 g
  constructor
  · intro h b hb hy
    have h1 := mb_qpl g (hon b hb)
    exact h (qpl s b) (by omega) ⟨⟨h1.1, by rw [h1.2]; exact hy⟩, h1.1, by rw [h1.2]; exact hb⟩
  · intro h c _ hc
    exact h _ hc.2.2 hc.1.2
set_option maxHeartbeats 4000000 in
set_option maxRecDepth 100000 in
theorem plans_body {D m k cut : Nat} {h : AH} {s : SH} {f : Nat → Nat} {Y : Nat → Prop} (g : GS s) (h8 : sLen s ≤ 8) (hm : m ≤ 8) (hp : PPre h s f m Y) (hk : k ≤ sLen s) (hcm : cut ≤ m) (IH : ∀ {k2 : Nat} {Z : Nat → Prop} {h2 : AH}, k < k2 → k2 ≤ sLen s → cut + 1 ≤ m → PPre h2 s f m Z → AC mX5_plans (D + 61) 0 0 [.ref 66, .int (nI k2), .int (nI (cut + 1)), .int (nI m)] h2 (Qb (PRes h2 s m k2 (cut + 1) Z))) : AC mX5_plans (D + 62) 0 0 [.ref 66, .int (nI k), .int (nI cut), .int (nI m)] h (Qb (PRes h s m k cut Y)) := by
  refine AC.of (by decide) rfl (Nat.le_of_ble_eq_true rfl) (fun X => ?_)
  show AW X mX5_plans (D + 62) 0 0 0 [(0, .ref 66), (1, .int (nI k)), (2, .int (nI cut)), (3, .int (nI m))] [] h (Qb (PRes h s m k cut Y))
  have hn := hp.1.1
  obtain ⟨c, r, ⟨⟨n1, n2, n3⟩, mt⟩, tk, vi⟩ := id hp
  have gw := g.1
  have gh := g.2.1
  have gc := cells48 g
  refine a_iload_n (pc := 0) (i := 1) dX5_plans_0 rfl rfl ?_
  refine a_aload_n (pc := 1) (i := 0) dX5_plans_1 rfl rfl ?_
  refine a_getR (pc := 2) (ci := 5) (k := 8) (b := 68) dX5_plans_2 (lf_RX5_17 rfl) (by decide) rfl rfl (lt90 hn (shK_lt (show shK 66 = _ from rfl))) c.2.2.2.2.2.2.2.2.1.2.1 ?_
  refine a_iconst (pc := 5) (v := nI 3) dX5_plans_5 (by decide) ?_
  refine a_iald (pc := 6) (j := 3) dX5_plans_6 rfl (lt90 hn (shK_lt (show shK 68 = _ from rfl))) rfl (by omega) ?_
  refine a_top (show (.int (hI h 68 3) : Value) = .int (nI (sLen s)) from congrArg Value.int r.1.2.2.2.1) ?_
  refine n_icmp_ne (pc := 7) (tgt := 21) dX5_plans_7 (by decide) (by omega) (by omega) (fun c7 => ?_) (fun c7 => ?_)
  · skip
    have hfk := n3 k
    refine a_aload_n (pc := 21) (i := 0) dX5_plans_21 rfl rfl ?_
    refine a_getR (pc := 22) (ci := 5) (k := 18) (b := 82) dX5_plans_22 (lf_RX5_38 rfl) (by decide) rfl rfl (lt90 hn (shK_lt (show shK 66 = _ from rfl))) c.2.2.2.2.2.2.2.2.1.2.2.2.2.2.2.2.1 ?_
    refine a_iload_n (pc := 25) (i := 1) dX5_plans_25 rfl rfl ?_
    refine a_iald (pc := 26) (j := k) dX5_plans_26 rfl (lt90 hn (shK_lt (show shK 82 = _ from rfl))) rfl (by omega) ?_
    refine a_top (show (.int (hI h 82 k) : Value) = .int (nI (f k)) from congrArg Value.int (n2 k hk)) ?_
    refine a_iload_n (pc := 27) (i := 3) dX5_plans_27 rfl rfl ?_
    refine a_iload_n (pc := 28) (i := 2) dX5_plans_28 rfl rfl ?_
    refine n_isub (pc := 29) dX5_plans_29 (by omega) ?_
    refine n_icmp_gt (pc := 30) (tgt := 61) dX5_plans_30 (by decide) (by omega) (by omega) (fun c30 => ?_) (fun c30 => ?_)
    · skip
      refine a_iconst (pc := 61) (v := nI 0) dX5_plans_61 (by decide) ?_
      exact a_ireturn (pc := 62) dX5_plans_62 rfl rfl (⟨False, by rw [bi_f id]; rfl, ⟨Fr.refl, fun _ _ => rfl⟩, tk, vi, (fun _ _ => ⟨rfl, rfl, rfl⟩), ⟨fun z => z.elim, fun z => by obtain ⟨l, h1, h2⟩ := z; have := NB_le n1 h1; omega⟩, fun z => z.elim⟩)
    · skip
      refine a_aload_n (pc := 33) (i := 0) dX5_plans_33 rfl rfl ?_
      refine a_iload_n (pc := 34) (i := 1) dX5_plans_34 rfl rfl ?_
      refine a_wV1 (pc := 35) (as := [.int (nI k)]) (b := 66) (ci := 5) (v := .int (nI (nMf s Y k))) dX5_plans_35 (lc_RX5_207 rfl) ceX5_missingFrom rfl (lt90 hn (shK_lt (show shK 66 = _ from rfl))) (s5_missingFrom (d := D + 1) c g r tk hk) rfl rfl (Nat.le_of_ble_eq_true rfl) (fun H1 f1 u1 => ?_)
      have hmf : nMf s Y k ≤ 24 := Nat.le_trans (cnt_le _ _) (by omega)
      have c1 := c.fr f1
      have hn1 := c1.1
      have r1 := r.fr f1 (by simp)
      have e66 : hI H1 66 = hI h 66 := (f1.2.2 66 (by simp)).1
      have tk1 := tk.fr f1 (by simp)
      have l87 : hL H1 87 = hL h 87 := (f1.2.2 87 (by simp)).2
      have vi1 : VIm H1 s m := vi.row (by rw [e66]) l87
      have fs1 : Fr SPm h H1 := f1.mono (by intro a ha; simp at ha ⊢; omega)
      have ar1 : ARm cut h H1 := fun i _ => ⟨by rw [(f1.2.2 83 (by simp)).1], by rw [(f1.2.2 84 (by simp)).1], by rw [(f1.2.2 85 (by simp)).1]⟩
      have mt1 : MTm H1 s := fun k hk => by rw [(f1.2.2 86 (by simp)).2]; exact mt k hk
      have n21 : ∀ k, k ≤ sLen s → hI H1 82 k = nI (f k) := fun k hk => by rw [(f1.2.2 82 (by simp)).1]; exact n2 k hk
      have p1 : PPre H1 s f m Y := hp.fr f1 (by simp) tk1 vi1
      refine n_if_gt (pc := 38) (tgt := 61) dX5_plans_38 (by decide) (by omega) (fun c38 => ?_) (fun c38 => ?_)
      · skip
        refine a_iconst (pc := 61) (v := nI 0) dX5_plans_61 (by decide) ?_
        exact a_ireturn (pc := 62) dX5_plans_62 rfl rfl (⟨False, by rw [bi_f id]; rfl, ⟨fs1, fun j _ => by rw [e66]⟩, tk1, vi1, ar1, ⟨fun z => z.elim, fun z => by
      obtain ⟨l, h1, h2⟩ := z
      have h3 := PA_SS g (A := noA) (fun i hi => hi.elim) ⟨h1, SS_none fun _ z => z⟩
      have h4 := nMf_0.mpr (h3.mono (fun i hi => Or.inl hi) (fun _ z => z))
      omega⟩, fun z => z.elim⟩)
      · skip
        obtain ⟨z, hz, hz0⟩ := vi1.free
        refine a_aload_n (pc := 41) (i := 0) dX5_plans_41 rfl rfl ?_
        refine a_getR (pc := 42) (ci := 5) (k := 23) (b := 87) dX5_plans_42 (lf_RX5_54 rfl) (by decide) rfl rfl (lt90 hn1 (shK_lt (show shK 66 = _ from rfl))) c1.2.2.2.2.2.2.2.2.1.2.2.2.2.2.2.2.2.2.2.2.2.1 ?_
        refine a_aload_n (pc := 45) (i := 0) dX5_plans_45 rfl rfl ?_
        refine a_aload_n (pc := 46) (i := 0) dX5_plans_46 rfl rfl ?_
        refine a_iload_n (pc := 47) (i := 1) dX5_plans_47 rfl rfl ?_
        refine a_iload_n (pc := 48) (i := 2) dX5_plans_48 rfl rfl ?_
        refine a_vV1 (pc := 49) (as := [.int (nI k), .int (nI cut)]) (b := 66) (ci := 5) (v := .long (mkL (keyP s Y k cut))) (h' := H1) dX5_plans_49 (lc_RX5_221 rfl) ceX5_keyOf rfl (lt90 hn1 (shK_lt (show shK 66 = _ from rfl))) (s5_keyOf c1 g r1 h8 tk1 mt1 hk (by omega)) rfl rfl (Nat.le_of_ble_eq_true rfl) rfl ?_
        refine a_zV (pc := 52) (as := [.long (mkL (keyP s Y k cut))]) (b := 66) (ci := 5) dX5_plans_52 (lc_RX5_225 rfl) ceX5_vainAt rfl (lt90 hn1 (shK_lt (show shK 66 = _ from rfl))) (s5_vainAt c1 hz hz0) rfl rfl (Nat.le_of_ble_eq_true rfl) (fun b h2 y => by rw [y.1]) (fun a H1b qa => ?_)
        obtain ⟨rfl, ha, hva⟩ := qa
        clear hn1
        have hn1 := c1.1
        refine a_lald (pc := 55) (j := a) dX5_plans_55 rfl (lt90 hn1 (shK_lt (show shK 87 = _ from rfl))) rfl (by omega) ?_
        refine a_lconst (pc := 56) (v := 0) dX5_plans_56 (by decide) ?_
        refine a_lcmp (pc := 57) dX5_plans_57 ?_
        refine a_if_eq (pc := 58) (tgt := 63) dX5_plans_58 (by decide) (fun c58 => ?_) (fun c58 => ?_)
        · skip
          refine a_aload_n (pc := 63) (i := 0) dX5_plans_63 rfl rfl ?_
          refine a_getR (pc := 64) (ci := 5) (k := 8) (b := 68) dX5_plans_64 (lf_RX5_17 rfl) (by decide) rfl rfl (lt90 hn1 (shK_lt (show shK 66 = _ from rfl))) c1.2.2.2.2.2.2.2.2.1.2.1 ?_
          refine a_iconst (pc := 67) (v := nI 0) dX5_plans_67 (by decide) ?_
          refine a_iald (pc := 68) (j := 0) dX5_plans_68 rfl (lt90 hn1 (shK_lt (show shK 68 = _ from rfl))) rfl (by omega) ?_
          refine a_top (show (.int (hI H1b 68 0) : Value) = .int (nI (sW s)) from congrArg Value.int r1.1.1) ?_
          refine a_aload_n (pc := 69) (i := 0) dX5_plans_69 rfl rfl ?_
          refine a_getR (pc := 70) (ci := 5) (k := 8) (b := 68) dX5_plans_70 (lf_RX5_17 rfl) (by decide) rfl rfl (lt90 hn1 (shK_lt (show shK 66 = _ from rfl))) c1.2.2.2.2.2.2.2.2.1.2.1 ?_
          refine a_iconst (pc := 73) (v := nI 3) dX5_plans_73 (by decide) ?_
          refine a_iald (pc := 74) (j := 3) dX5_plans_74 rfl (lt90 hn1 (shK_lt (show shK 68 = _ from rfl))) rfl (by omega) ?_
          refine a_top (show (.int (hI H1b 68 3) : Value) = .int (nI (sLen s)) from congrArg Value.int r1.1.2.2.2.1) ?_
          refine a_iload_n (pc := 75) (i := 1) dX5_plans_75 rfl rfl ?_
          refine n_isub (pc := 76) dX5_plans_76 (by omega) ?_
          refine a_vS1 (pc := 77) (as := [.int (nI (sW s)), .int (nI ((sLen s) - k))]) (v := .int (nI (min (sW s) (sLen s - k)))) (h' := H1b) dX5_plans_77 (lc_RX5_119 rfl) ceX5_min (s5_min (by omega) (by omega)) rfl rfl (Nat.le_of_ble_eq_true rfl) rfl ?_
          refine a_istore (pc := 80) (i := 4) (ls' := [(0, .ref 66), (1, .int (nI k)), (2, .int (nI cut)), (3, .int (nI m)), (4, .int (nI (min (sW s) (sLen s - k))))]) dX5_plans_80 (by decide) rfl ?_
          have LP : ∀ (fu : Nat) (n : Nat) (H : AH), n ≤ min (sW s) (sLen s - k) → Fr SPm h H → K25 h H → TKm H s Y → VIm H s m → ARm cut h H → (∀ n2 q2, n < n2 → ¬ okE s k Y (m - cut) n2 q2) → n < fu → AW X mX5_plans (D + 62) 0 0 82 [(0, .ref 66), (1, .int (nI k)), (2, .int (nI cut)), (3, .int (nI m)), (4, .int (nI n))] [] H (Qb (PRes h s m k cut Y)) := by
            intro fu
            induction fu with
            | zero => intro n H hnn hf hk5 htk hvi har hno hz; exact absurd hz (Nat.not_lt_zero _)
            | succ fu ih =>
              intro n H hnn hf hk5 htk hvi har hno hz
              have ihO := ih
              have pp := hp.fr hf (by simp) htk hvi
              obtain ⟨c2, r2, ⟨⟨-, n22, -⟩, mt2⟩, -, -⟩ := id pp
              have hn2 := c2.1
              refine a_iload (pc := 82) (i := 4) dX5_plans_82 rfl ?_
              refine n_if_le (pc := 84) (tgt := 266) dX5_plans_84 (by decide) (by omega) (fun c84 => ?_) (fun c84 => ?_)
              · have hex : ¬ ∃ l, plV s k Y l ∧ l.length + cut = m := by
                  rintro ⟨l, h1, h2⟩
                  match l, h1, h2 with
                  | [], h1, h2 => exact c7 h1
                  | (n2, q2) :: r2, h1, h2 =>
                    have e : ((n2, q2) :: r2).length = r2.length + 1 := rfl
                    exact hno n2 q2 (by have := h1.1.1.1; omega) ⟨h1.1, r2, h1.2, by omega⟩
                obtain ⟨vm, v1, v2, v3, v4⟩ := id hvi
                refine a_aload_n (pc := 266) (i := 0) dX5_plans_266 rfl rfl ?_
                refine a_getI (pc := 267) (ci := 5) (k := 25) dX5_plans_267 (lf_RX5_238 rfl) (by decide) rfl rfl (lt90 hn2 (shK_lt (show shK 66 = _ from rfl))) ?_
                refine a_top (show (.int (hI H 66 25) : Value) = .int (nI vm) from congrArg Value.int v2) ?_
                refine a_sipush (pc := 270) (v := nI 2048) dX5_plans_270 (by decide) ?_
                refine n_icmp_ge (pc := 273) (tgt := 307) dX5_plans_273 (by decide) (by omega) (by omega) (fun c273 => ?_) (fun c273 => ?_)
                · skip
                  refine a_iconst (pc := 307) (v := nI 0) dX5_plans_307 (by decide) ?_
                  exact a_ireturn (pc := 308) dX5_plans_308 rfl rfl (⟨False, by rw [bi_f id]; rfl, ⟨hf, hk5⟩, htk, hvi, har, ⟨fun z => z.elim, fun z => hex z⟩, fun z => z.elim⟩)
                · obtain ⟨z2, hz2, hz20⟩ := hvi.free
                  refine a_aload_n (pc := 276) (i := 0) dX5_plans_276 rfl rfl ?_
                  refine a_iload_n (pc := 277) (i := 1) dX5_plans_277 rfl rfl ?_
                  refine a_iload_n (pc := 278) (i := 2) dX5_plans_278 rfl rfl ?_
                  refine a_vV1 (pc := 279) (as := [.int (nI k), .int (nI cut)]) (b := 66) (ci := 5) (v := .long (mkL (keyP s Y k cut))) (h' := H) dX5_plans_279 (lc_RX5_221 rfl) ceX5_keyOf rfl (lt90 hn2 (shK_lt (show shK 66 = _ from rfl))) (s5_keyOf c2 g r2 h8 htk mt2 hk (by omega)) rfl rfl (Nat.le_of_ble_eq_true rfl) rfl ?_
                  refine a_lstore (pc := 282) (i := 4) (ls' := [(0, .ref 66), (1, .int (nI k)), (2, .int (nI cut)), (3, .int (nI m)), (4, .long (mkL (keyP s Y k cut)))]) dX5_plans_282 (by decide) rfl ?_
                  refine a_aload_n (pc := 284) (i := 0) dX5_plans_284 rfl rfl ?_
                  refine a_getR (pc := 285) (ci := 5) (k := 23) (b := 87) dX5_plans_285 (lf_RX5_54 rfl) (by decide) rfl rfl (lt90 hn2 (shK_lt (show shK 66 = _ from rfl))) c2.2.2.2.2.2.2.2.2.1.2.2.2.2.2.2.2.2.2.2.2.2.1 ?_
                  refine a_aload_n (pc := 288) (i := 0) dX5_plans_288 rfl rfl ?_
                  refine a_lload (pc := 289) (i := 4) dX5_plans_289 rfl ?_
                  refine a_zV (pc := 291) (as := [.long (mkL (keyP s Y k cut))]) (b := 66) (ci := 5) dX5_plans_291 (lc_RX5_225 rfl) ceX5_vainAt rfl (lt90 hn2 (shK_lt (show shK 66 = _ from rfl))) (s5_vainAt c2 hz2 hz20) rfl rfl (Nat.le_of_ble_eq_true rfl) (fun b h2 y => by rw [y.1]) (fun b Hb qb => ?_)
                  obtain ⟨rfl, hb, -⟩ := qb
                  have hn3 := c2.1
                  refine a_lload (pc := 294) (i := 4) dX5_plans_294 rfl ?_
                  refine a_last (pc := 296) (j := b) dX5_plans_296 rfl (lt90 hn3 (shK_lt (show shK 87 = _ from rfl))) rfl (by omega) ?_
                  refine a_aload_n (pc := 297) (i := 0) dX5_plans_297 rfl rfl ?_
                  refine a_dup (pc := 298) dX5_plans_298 rfl ?_
                  refine a_getI (pc := 299) (ci := 5) (k := 25) dX5_plans_299 (lf_RX5_238 rfl) (by decide) rfl rfl (lt90 hn3 (shK_lt (show shK 66 = _ from rfl))) ?_
                  refine a_top (show (.int (hI (sL Hb 87 b (mkL (keyP s Y k cut))) 66 25) : Value) = .int (nI vm) from congrArg Value.int v2) ?_
                  refine a_iconst (pc := 302) (v := nI 1) dX5_plans_302 (by decide) ?_
                  refine n_iadd (pc := 303) dX5_plans_303 ?_
                  refine a_putI (pc := 304) (ci := 5) (k := 25) dX5_plans_304 (lf_RX5_238 rfl) (by decide) (Or.inl rfl) rfl (lt90 hn3 (shK_lt (show shK 66 = _ from rfl))) rfl ?_
                  refine a_iconst (pc := 307) (v := nI 0) dX5_plans_307 (by decide) ?_
                  exact a_ireturn (pc := 308) dX5_plans_308 rfl rfl (⟨False, by rw [bi_f id]; rfl, ⟨(hf.sL (by simp)).sI (by simp), fun j hj => by rw [rd1 (by omega)]; exact hk5 j hj⟩, by
      show hL _ 66 17 = _
      rw [hL_sI, rd5 (by omega)]
      exact htk, VIm.add (i := b) c273 (rd2 ⟨rfl, rfl⟩) v3 v4 hb (fun j => by
      rw [hL_sI, hL_sL]
      by_cases e : j = b
      · rw [if_pos ⟨rfl, e⟩, if_pos e]
      · rw [if_neg (fun y => e y.2), if_neg e]) (Bd_of g (by omega) (by omega) hex), fun i hi => ⟨by rw [rd1 (by omega)]; exact (har i hi).1, by rw [rd1 (by omega)]; exact (har i hi).2.1, by rw [rd1 (by omega)]; exact (har i hi).2.2⟩, ⟨fun z => z.elim, fun z => hex z⟩, fun z => z.elim⟩)
              · have hkn : k + n ≤ sLen s := by omega
                have hfn := n3 (k + n)
                refine a_aload_n (pc := 87) (i := 0) dX5_plans_87 rfl rfl ?_
                refine a_getR (pc := 88) (ci := 5) (k := 18) (b := 82) dX5_plans_88 (lf_RX5_38 rfl) (by decide) rfl rfl (lt90 hn2 (shK_lt (show shK 66 = _ from rfl))) c2.2.2.2.2.2.2.2.2.1.2.2.2.2.2.2.2.1 ?_
                refine a_iload_n (pc := 91) (i := 1) dX5_plans_91 rfl rfl ?_
                refine a_iload (pc := 92) (i := 4) dX5_plans_92 rfl ?_
                refine n_iadd (pc := 94) dX5_plans_94 ?_
                refine a_iald (pc := 95) (j := (k + n)) dX5_plans_95 rfl (lt90 hn2 (shK_lt (show shK 82 = _ from rfl))) rfl (by omega) ?_
                refine a_top (show (.int (hI H 82 (k + n)) : Value) = .int (nI (f (k + n))) from congrArg Value.int (n22 (k + n) hkn)) ?_
                refine a_iload_n (pc := 96) (i := 3) dX5_plans_96 rfl rfl ?_
                refine a_iload_n (pc := 97) (i := 2) dX5_plans_97 rfl rfl ?_
                refine n_isub (pc := 98) dX5_plans_98 (by omega) ?_
                refine a_iconst (pc := 99) (v := nI 1) dX5_plans_99 (by decide) ?_
                refine n_isub (pc := 100) dX5_plans_100 (by omega) ?_
                refine n_icmp_le (pc := 101) (tgt := 107) dX5_plans_101 (by decide) (by omega) (by omega) (fun c101 => ?_) (fun c101 => ?_)
                · skip
                  refine a_iconst (pc := 107) (v := nI 0) dX5_plans_107 (by decide) ?_
                  refine a_istore (pc := 108) (i := 5) (ls' := [(0, .ref 66), (1, .int (nI k)), (2, .int (nI cut)), (3, .int (nI m)), (4, .int (nI n)), (5, .int (nI 0))]) dX5_plans_108 (by decide) rfl ?_
                  have LA : ∀ (fu : Nat) (a : Nat) (H2 : AH), a ≤ 2 * sCells s → Fr SPm h H2 → K25 h H2 → TKm H2 s Y → VIm H2 s m → ARm cut h H2 → (∀ i, i < a → ¬ okE s k Y (m - cut) n (sq s i)) → 2 * sCells s - a < fu → AW X mX5_plans (D + 62) 0 0 110 [(0, .ref 66), (1, .int (nI k)), (2, .int (nI cut)), (3, .int (nI m)), (4, .int (nI n)), (5, .int (nI a))] [] H2 (Qb (PRes h s m k cut Y)) := by
                    intro fu
                    induction fu with
                    | zero => intro a H2 haa hf2 hk52 htk2 hvi2 har2 hna hz; exact absurd hz (Nat.not_lt_zero _)
                    | succ fu ih =>
                      intro a H2 haa hf2 hk52 htk2 hvi2 har2 hna hz
                      have pp2 := hp.fr hf2 (by simp) htk2 hvi2
                      obtain ⟨c3, r3, -, -, -⟩ := id pp2
                      have hn3 := c3.1
                      refine a_iload (pc := 110) (i := 5) dX5_plans_110 rfl ?_
                      refine a_iconst (pc := 112) (v := nI 2) dX5_plans_112 (by decide) ?_
                      refine a_aload_n (pc := 113) (i := 0) dX5_plans_113 rfl rfl ?_
                      refine a_vV1 (pc := 114) (as := []) (b := 66) (ci := 5) (v := .int (nI (sCells s))) (h' := H2) dX5_plans_114 (lc_RX5_172 rfl) ceX5_cells rfl (lt90 hn3 (shK_lt (show shK 66 = _ from rfl))) (s5_cells c3 g r3) rfl rfl (Nat.le_of_ble_eq_true rfl) rfl ?_
                      refine n_imul (pc := 117) dX5_plans_117 ?_
                      refine n_icmp_ge (pc := 118) (tgt := 260) dX5_plans_118 (by decide) (by omega) (by omega) (fun c118 => ?_) (fun c118 => ?_)
                      · skip
                        refine n_idec (pc := 260) (ls' := [(0, .ref 66), (1, .int (nI k)), (2, .int (nI cut)), (3, .int (nI m)), (4, .int (nI (n - 1))), (5, .int (nI a))]) dX5_plans_260 rfl (by omega) (by decide) rfl ?_
                        refine a_goto (pc := 263) (tgt := 82) dX5_plans_263 (by decide) ?_
                        refine a_drop (ls' := [(0, .ref 66), (1, .int (nI k)), (2, .int (nI cut)), (3, .int (nI m)), (4, .int (nI (n - 1)))]) (by simp) ?_
                        exact ihO (n - 1) H2 (by omega) hf2 hk52 htk2 hvi2 har2 (fun n2 q2 h1 h2 => by
                          rcases (by omega : n < n2 ∨ n2 = n) with z | rfl
                          · exact hno n2 q2 z h2
                          · exact by
                                    obtain ⟨a2, h3, rfl⟩ := sq_of g h2.1.1.2 (f := k) (by have := h2.1.2.2.1; omega)
                                    exact hna a2 (by omega) h2) (by omega)
                      · obtain ⟨hx, hpl⟩ := sq_ok g c118
                        obtain ⟨x, hxe⟩ : ∃ x, x = a / sCells s := ⟨_, rfl⟩
                        obtain ⟨w, hwe⟩ : ∃ w, w = a % sCells s := ⟨_, rfl⟩
                        rw [← hxe] at hx
                        rw [← hwe] at hpl
                        have hsq : sq s a = mq s x w := by unfold sq; rw [← hxe, ← hwe]
                        have hq := mq_ok g hx hpl
                        refine a_iload (pc := 121) (i := 5) dX5_plans_121 rfl ?_
                        refine a_aload_n (pc := 123) (i := 0) dX5_plans_123 rfl rfl ?_
                        refine a_vV1 (pc := 124) (as := []) (b := 66) (ci := 5) (v := .int (nI (sCells s))) (h' := H2) dX5_plans_124 (lc_RX5_172 rfl) ceX5_cells rfl (lt90 hn3 (shK_lt (show shK 66 = _ from rfl))) (s5_cells c3 g r3) rfl rfl (Nat.le_of_ble_eq_true rfl) rfl ?_
                        refine n_idiv (pc := 127) dX5_plans_127 (by omega) (by omega) (by omega) ?_
                        refine a_top (show (.int (nI (a / (sCells s))) : Value) = .int (nI x) from by rw [hxe]) ?_
                        refine a_istore (pc := 128) (i := 6) (ls' := [(0, .ref 66), (1, .int (nI k)), (2, .int (nI cut)), (3, .int (nI m)), (4, .int (nI n)), (5, .int (nI a)), (6, .int (nI x))]) dX5_plans_128 (by decide) rfl ?_
                        refine a_iload (pc := 130) (i := 5) dX5_plans_130 rfl ?_
                        refine a_aload_n (pc := 132) (i := 0) dX5_plans_132 rfl rfl ?_
                        refine a_vV1 (pc := 133) (as := []) (b := 66) (ci := 5) (v := .int (nI (sCells s))) (h' := H2) dX5_plans_133 (lc_RX5_172 rfl) ceX5_cells rfl (lt90 hn3 (shK_lt (show shK 66 = _ from rfl))) (s5_cells c3 g r3) rfl rfl (Nat.le_of_ble_eq_true rfl) rfl ?_
                        refine n_irem (pc := 136) dX5_plans_136 (by omega) (by omega) (by omega) ?_
                        refine a_top (show (.int (nI (a % (sCells s))) : Value) = .int (nI w) from by rw [hwe]) ?_
                        refine a_istore (pc := 137) (i := 7) (ls' := [(0, .ref 66), (1, .int (nI k)), (2, .int (nI cut)), (3, .int (nI m)), (4, .int (nI n)), (5, .int (nI a)), (6, .int (nI x)), (7, .int (nI w))]) dX5_plans_137 (by decide) rfl ?_
                        refine a_aload_n (pc := 139) (i := 0) dX5_plans_139 rfl rfl ?_
                        refine a_iload (pc := 140) (i := 6) dX5_plans_140 rfl ?_
                        refine a_iload (pc := 142) (i := 7) dX5_plans_142 rfl ?_
                        refine a_iload (pc := 144) (i := 4) dX5_plans_144 rfl ?_
                        refine a_iload_n (pc := 146) (i := 1) dX5_plans_146 rfl rfl ?_
                        have hsi := strip_iff g (x := x) (p := w) (n := n) (f := k) hx hpl (by omega) hkn
                        refine a_vV1 (pc := 147) (as := [.int (nI x), .int (nI w), .int (nI n), .int (nI k)]) (b := 66) (ci := 5) (v := .int (bi (mq s x w % 8 + n ≤ sW s ∧ ∀ i, i < n → qlt s (mq s x w + i) = nI (sMs s (k + i)) ∧ qcu s (mq s x w + i)))) (h' := H2) dX5_plans_147 (lc_RX5_210 rfl) ceX5_isStrip rfl (lt90 hn3 (shK_lt (show shK 66 = _ from rfl))) (s5_isStrip (d := D + 56) (n := n) c3 g r3 hx hpl (by omega) (by omega)) rfl rfl (Nat.le_of_ble_eq_true rfl) rfl ?_
                        refine b_if_ne (pc := 150) (tgt := 156) dX5_plans_150 (by decide) (fun c150 => ?_) (fun c150 => ?_)
                        · have hrun := hsi.mp c150
                          have hon : ∀ b, pcl s (mq s x w) n b → b / 8 < sH s ∧ b % 8 < sW s := pcl_on g hq.1 c150.1 (fun i hi => (c150.2 i hi).2)
                          refine a_aload_n (pc := 156) (i := 0) dX5_plans_156 rfl rfl ?_
                          refine a_iload (pc := 157) (i := 6) dX5_plans_157 rfl ?_
                          refine a_iload (pc := 159) (i := 7) dX5_plans_159 rfl ?_
                          refine a_iload (pc := 161) (i := 4) dX5_plans_161 rfl ?_
                          refine a_vV1 (pc := 163) (as := [.int (nI x), .int (nI w), .int (nI n)]) (b := 66) (ci := 5) (v := .long (mkL (fun c => c < sCells s ∧ pcl s (mq s x w) n (mb s c)))) (h' := H2) dX5_plans_163 (lc_RX5_229 rfl) ceX5_cellsOf rfl (lt90 hn3 (shK_lt (show shK 66 = _ from rfl))) (s5_cellsOf (d := D + 59) (n := n) c3 g r3 hx hpl (by omega) c150.1) rfl rfl (Nat.le_of_ble_eq_true rfl) rfl ?_
                          refine a_lstore (pc := 166) (i := 8) (ls' := [(0, .ref 66), (1, .int (nI k)), (2, .int (nI cut)), (3, .int (nI m)), (4, .int (nI n)), (5, .int (nI a)), (6, .int (nI x)), (7, .int (nI w)), (8, .long (mkL (fun c => c < sCells s ∧ pcl s (mq s x w) n (mb s c))))]) dX5_plans_166 (by decide) rfl ?_
                          refine a_aload_n (pc := 168) (i := 0) dX5_plans_168 rfl rfl ?_
                          refine a_getL (pc := 169) (ci := 5) (k := 17) dX5_plans_169 (lf_RX5_197 rfl) (by decide) rfl rfl (lt90 hn3 (shK_lt (show shK 66 = _ from rfl))) ?_
                          refine a_top (show (.long (hL H2 66 17) : Value) = .long (mkL (fun b => b < sCells s ∧ Y (mb s b))) from congrArg Value.long htk2) ?_
                          refine a_lload (pc := 172) (i := 8) dX5_plans_172 rfl ?_
                          refine a_land (pc := 174) dX5_plans_174 ?_
                          refine a_top (show (.long ((mkL (fun b => b < sCells s ∧ Y (mb s b))) &&& (mkL (fun c => c < sCells s ∧ pcl s (mq s x w) n (mb s c)))) : Value) = .long (mkL (fun c => (c < sCells s ∧ Y (mb s c)) ∧ (c < sCells s ∧ pcl s (mq s x w) n (mb s c)))) from congrArg Value.long (mkL_and _ _)) ?_
                          refine a_lconst (pc := 175) (v := 0) dX5_plans_175 (by decide) ?_
                          refine a_lcmp (pc := 176) dX5_plans_176 ?_
                          refine a_if_eq (pc := 177) (tgt := 183) dX5_plans_177 (by decide) (fun c177 => ?_) (fun c177 => ?_)
                          · have hdis := (own_free g hx hpl hon).mp ((lg_cmp_eq _ _).mp c177)
                            have hst : stOK s k (mq s x w) n Y := ⟨⟨by omega, hq.1⟩, hkn, hrun, hdis⟩
                            obtain ⟨Z, hZ⟩ : ∃ Z, Z = uX Y (pcl s (mq s x w) n) := ⟨_, rfl⟩
                            refine a_aload_n (pc := 183) (i := 0) dX5_plans_183 rfl rfl ?_
                            refine a_dup (pc := 184) dX5_plans_184 rfl ?_
                            refine a_getL (pc := 185) (ci := 5) (k := 17) dX5_plans_185 (lf_RX5_197 rfl) (by decide) rfl rfl (lt90 hn3 (shK_lt (show shK 66 = _ from rfl))) ?_
                            refine a_top (show (.long (hL H2 66 17) : Value) = .long (mkL (fun b => b < sCells s ∧ Y (mb s b))) from congrArg Value.long htk2) ?_
                            refine a_lload (pc := 188) (i := 8) dX5_plans_188 rfl ?_
                            refine a_lor (pc := 190) dX5_plans_190 ?_
                            refine a_top (show (.long ((mkL (fun b => b < sCells s ∧ Y (mb s b))) ||| (mkL (fun c => c < sCells s ∧ pcl s (mq s x w) n (mb s c)))) : Value) = .long (mkL (fun b => b < sCells s ∧ Z (mb s b))) from congrArg Value.long ((mkL_or _ _).trans (mkL_c fun b _ => by rw [hZ]; exact ⟨fun z => z.elim (fun z => ⟨z.1, Or.inl z.2⟩) (fun z => ⟨z.1, Or.inr z.2⟩), fun z => z.2.elim (fun y => Or.inl ⟨z.1, y⟩) (fun y => Or.inr ⟨z.1, y⟩)⟩))) ?_
                            refine a_putL (pc := 191) (ci := 5) (k := 17) dX5_plans_191 (lf_RX5_197 rfl) (by decide) rfl rfl (lt90 hn3 (shK_lt (show shK 66 = _ from rfl))) rfl ?_
                            refine a_aload_n (pc := 194) (i := 0) dX5_plans_194 rfl rfl ?_
                            refine a_getR (pc := 195) (ci := 5) (k := 19) (b := 83) dX5_plans_195 (lf_RX5_41 rfl) (by decide) rfl rfl (lt90 hn3 (shK_lt (show shK 66 = _ from rfl))) c3.2.2.2.2.2.2.2.2.1.2.2.2.2.2.2.2.2.1 ?_
                            refine a_iload_n (pc := 198) (i := 2) dX5_plans_198 rfl rfl ?_
                            refine a_iload (pc := 199) (i := 4) dX5_plans_199 rfl ?_
                            refine a_iast (pc := 201) (j := cut) dX5_plans_201 rfl (lt90 hn3 (shK_lt (show shK 83 = _ from rfl))) rfl (by omega) ?_
                            refine a_aload_n (pc := 202) (i := 0) dX5_plans_202 rfl rfl ?_
                            refine a_getR (pc := 203) (ci := 5) (k := 20) (b := 84) dX5_plans_203 (lf_RX5_44 rfl) (by decide) rfl rfl (lt90 hn3 (shK_lt (show shK 66 = _ from rfl))) c3.2.2.2.2.2.2.2.2.1.2.2.2.2.2.2.2.2.2.1 ?_
                            refine a_iload_n (pc := 206) (i := 2) dX5_plans_206 rfl rfl ?_
                            refine a_iload (pc := 207) (i := 6) dX5_plans_207 rfl ?_
                            refine a_iast (pc := 209) (j := cut) dX5_plans_209 rfl (lt90 hn3 (shK_lt (show shK 84 = _ from rfl))) rfl (by omega) ?_
                            refine a_aload_n (pc := 210) (i := 0) dX5_plans_210 rfl rfl ?_
                            refine a_getR (pc := 211) (ci := 5) (k := 21) (b := 85) dX5_plans_211 (lf_RX5_47 rfl) (by decide) rfl rfl (lt90 hn3 (shK_lt (show shK 66 = _ from rfl))) c3.2.2.2.2.2.2.2.2.1.2.2.2.2.2.2.2.2.2.2.1 ?_
                            refine a_iload_n (pc := 214) (i := 2) dX5_plans_214 rfl rfl ?_
                            refine a_iload (pc := 215) (i := 7) dX5_plans_215 rfl ?_
                            refine a_iast (pc := 217) (j := cut) dX5_plans_217 rfl (lt90 hn3 (shK_lt (show shK 85 = _ from rfl))) rfl (by omega) ?_
                            obtain ⟨H3, hH3⟩ : ∃ Hx, Hx = sI (sI (sI (sL H2 66 17 (mkL (fun b => b < sCells s ∧ Z (mb s b)))) 83 cut (nI n)) 84 cut (nI x)) 85 cut (nI w) := ⟨_, rfl⟩
                            have f23 : Fr [66, 83, 84, 85] H2 H3 := by rw [hH3]; exact (((Fr.refl.sL (by simp)).sI (by simp)).sI (by simp)).sI (by simp)
                            have f3 : Fr SPm h H3 := hf2.trans (f23.mono (by intro a ha; simp at ha ⊢; omega))
                            have k3 : hI H3 66 = hI H2 66 := by rw [hH3]; funext j; rw [rd1 (by omega), rd1 (by omega), rd1 (by omega)]; rfl
                            have tk3 : TKm H3 s Z := by unfold TKm; rw [hH3]; exact rd6 ⟨rfl, rfl⟩
                            have vi3 : VIm H3 s m := hvi2.row (by rw [k3]) (by rw [hH3]; funext j; simp only [hL_sI]; rw [rd5 (by omega)])
                            have a83 : hI H3 83 cut = nI n ∧ hI H3 84 cut = nI x ∧ hI H3 85 cut = nI w := by rw [hH3]; exact ⟨by rw [rd1 (by omega), rd1 (by omega)]; exact rd2 ⟨rfl, rfl⟩, by rw [rd1 (by omega)]; exact rd2 ⟨rfl, rfl⟩, rd2 ⟨rfl, rfl⟩⟩
                            have ar3 : ARm cut H2 H3 := fun i hi => by rw [hH3]; exact ⟨by rw [rd1 (by omega), rd1 (by omega), rd1 (by omega)]; rfl, by rw [rd1 (by omega), rd1 (by omega), rd1 (by omega)]; rfl, by rw [rd1 (by omega), rd1 (by omega), rd1 (by omega)]; rfl⟩
                            have pp3 : PPre H3 s f m Z := hp.fr f3 (by simp) tk3 vi3
                            have c4 := pp3.1
                            have hn4 := c4.1
                            refine a_heap (h' := H3) hH3.symm ?_
                            refine a_aload_n (pc := 218) (i := 0) dX5_plans_218 rfl rfl ?_
                            refine a_iload_n (pc := 219) (i := 1) dX5_plans_219 rfl rfl ?_
                            refine a_iload (pc := 220) (i := 4) dX5_plans_220 rfl ?_
                            refine n_iadd (pc := 222) dX5_plans_222 ?_
                            refine a_iload_n (pc := 223) (i := 2) dX5_plans_223 rfl rfl ?_
                            refine a_iconst (pc := 224) (v := nI 1) dX5_plans_224 (by decide) ?_
                            refine n_iadd (pc := 225) dX5_plans_225 ?_
                            refine a_iload_n (pc := 226) (i := 3) dX5_plans_226 rfl rfl ?_
                            refine a_yV (pc := 227) (as := [.int (nI (k + n)), .int (nI (cut + 1)), .int (nI m)]) (b := 66) (ci := 5) dX5_plans_227 (lc_RX5_233 rfl) ceX5_plans rfl (lt90 hn4 (shK_lt (show shK 66 = _ from rfl))) (IH (by omega) hkn (by omega) pp3) rfl rfl (Nat.le_of_ble_eq_true rfl) PRes_n (fun bb H4 q4 => ?_)
                            obtain ⟨⟨f4, k4⟩, tk4, vi4, ar4, iff4, win4⟩ := q4
                            have c5 := c4.fr f4
                            have hn5 := c5.1
                            refine a_istore (pc := 230) (i := 10) (ls' := [(0, .ref 66), (1, .int (nI k)), (2, .int (nI cut)), (3, .int (nI m)), (4, .int (nI n)), (5, .int (nI a)), (6, .int (nI x)), (7, .int (nI w)), (8, .long (mkL (fun c => c < sCells s ∧ pcl s (mq s x w) n (mb s c)))), (10, .int (bi bb))]) dX5_plans_230 (by decide) rfl ?_
                            refine a_aload_n (pc := 232) (i := 0) dX5_plans_232 rfl rfl ?_
                            refine a_dup (pc := 233) dX5_plans_233 rfl ?_
                            refine a_getL (pc := 234) (ci := 5) (k := 17) dX5_plans_234 (lf_RX5_197 rfl) (by decide) rfl rfl (lt90 hn5 (shK_lt (show shK 66 = _ from rfl))) ?_
                            refine a_top (show (.long (hL H4 66 17) : Value) = .long (mkL (fun b => b < sCells s ∧ Z (mb s b))) from congrArg Value.long tk4) ?_
                            refine a_lload (pc := 237) (i := 8) dX5_plans_237 rfl ?_
                            refine a_ldc2 (pc := 239) (v := (-1)) dX5_plans_239 (lj_RX5_236 rfl) ?_
                            refine a_lxor (pc := 242) dX5_plans_242 ?_
                            refine a_top (show (.long ((mkL (fun c => c < sCells s ∧ pcl s (mq s x w) n (mb s c))) ^^^ ((-1))) : Value) = .long (mkL (fun c => ¬ (c < sCells s ∧ pcl s (mq s x w) n (mb s c)))) from congrArg Value.long (mkL_not _)) ?_
                            refine a_land (pc := 243) dX5_plans_243 ?_
                            refine a_top (show (.long ((mkL (fun b => b < sCells s ∧ Z (mb s b))) &&& (mkL (fun c => ¬ (c < sCells s ∧ pcl s (mq s x w) n (mb s c))))) : Value) = .long (mkL (fun b => b < sCells s ∧ Y (mb s b))) from congrArg Value.long ((mkL_and _ _).trans (mkL_c fun b _ => by rw [hZ]; exact ⟨fun z => ⟨z.1.1, z.1.2.elim id (fun y => absurd ⟨z.1.1, y⟩ z.2)⟩, fun z => ⟨⟨z.1, Or.inl z.2⟩, fun y => hdis _ y.2 z.2⟩⟩))) ?_
                            refine a_putL (pc := 244) (ci := 5) (k := 17) dX5_plans_244 (lf_RX5_197 rfl) (by decide) rfl rfl (lt90 hn5 (shK_lt (show shK 66 = _ from rfl))) rfl ?_
                            obtain ⟨H5, hH5⟩ : ∃ Hx, Hx = sL H4 66 17 (mkL (fun b => b < sCells s ∧ Y (mb s b))) := ⟨_, rfl⟩
                            have f45 : Fr [66] H4 H5 := by rw [hH5]; exact Fr.refl.sL (by simp)
                            have e45 : hI H5 = hI H4 := by rw [hH5]; rfl
                            have f5 : Fr SPm h H5 := (f3.trans f4).trans (f45.mono (by intro a ha; simp at ha ⊢; omega))
                            have k5 : K25 h H5 := fun j hj => by rw [e45, k4 j hj, k3]; exact hk52 j hj
                            have tk5 : TKm H5 s Y := by unfold TKm; rw [hH5]; exact rd6 ⟨rfl, rfl⟩
                            have vi5 : VIm H5 s m := vi4.row (by rw [e45]) (f45.2.2 87 (by simp)).2
                            have ar5 : ARm cut h H5 := (har2.trans ar3 (Nat.le_refl _)).trans (fun i hi => by rw [e45]; exact ar4 i (by omega)) (Nat.le_refl cut)
                            refine a_heap (h' := H5) hH5.symm ?_
                            have c6 := c.fr f5
                            have hn6 := c6.1
                            refine a_iload (pc := 247) (i := 10) dX5_plans_247 rfl ?_
                            refine b_if_eq (pc := 249) (tgt := 254) dX5_plans_249 (by decide) (fun c249 => ?_) (fun c249 => ?_)
                            · skip
                              refine n_iinc (pc := 254) (k := 1) (ls' := [(0, .ref 66), (1, .int (nI k)), (2, .int (nI cut)), (3, .int (nI m)), (4, .int (nI n)), (5, .int (nI (a + 1))), (6, .int (nI x)), (7, .int (nI w)), (8, .long (mkL (fun c => c < sCells s ∧ pcl s (mq s x w) n (mb s c)))), (10, .int (bi bb))]) dX5_plans_254 rfl (by decide) (by decide) rfl ?_
                              refine a_goto (pc := 257) (tgt := 110) dX5_plans_257 (by decide) ?_
                              refine a_drop (ls' := [(0, .ref 66), (1, .int (nI k)), (2, .int (nI cut)), (3, .int (nI m)), (4, .int (nI n)), (5, .int (nI (a + 1)))]) (by simp) ?_
                              exact ih (a + 1) H5 (by omega) f5 k5 tk5 vi5 ar5 (fun i hi h2 => by
                                rcases (by omega : i < a ∨ i = a) with z | rfl
                                · exact hna i z h2
                                · exact by
                                          rw [hsq] at h2
                                          obtain ⟨-, l, h3, h4⟩ := h2
                                          rw [← hZ] at h3
                                          exact c249 (iff4.mpr ⟨l, h3, len_e3 h4⟩)) (by omega)
                            · obtain ⟨l, g1, g2, g3⟩ := win4 c249
                              refine a_iconst (pc := 252) (v := nI 1) dX5_plans_252 (by decide) ?_
                              have hpe : isPe s k Y (l.length + 1) n (mq s x w) := by
                                refine ⟨⟨hst, l, by rw [← hZ]; exact GE_plV g1, rfl⟩, fun n2 q2 ho => ?_⟩
                                rw [len_e g2] at ho
                                rcases Nat.lt_trichotomy n2 n with z | z | z
                                · exact Or.inl z
                                · subst z
                                  refine Or.inr ⟨rfl, ?_⟩
                                  obtain ⟨a2, h3, rfl⟩ := sq_of g ho.1.1.2 (f := k) (by have := ho.1.2.2.1; omega)
                                  have h5 : a ≤ a2 := Nat.le_of_not_lt fun y => hna a2 y ho
                                  rw [← hsq]
                                  exact sq_mono g h5 h3
                                · exact absurd ho (hno n2 q2 z)
                              have hpa : PAm H5 s cut ((n, mq s x w) :: l) := fun i hi => by
                                rw [e45]
                                rcases Nat.eq_zero_or_pos i with z | z
                                · subst z
                                  have a4 := ar4 cut (by omega)
                                  refine ⟨a4.1.trans a83.1, a4.2.1.trans (a83.2.1.trans ?_), a4.2.2.trans (a83.2.2.trans ?_)⟩
                                  · show nI x = nI (mq s x w / 48); rw [hq.2.2.1]
                                  · show nI w = nI (qpl s (mq s x w)); rw [hq.2.2.2.2.2]
                                · obtain ⟨j, rfl⟩ : ∃ j, i = j + 1 := ⟨i - 1, by omega⟩
                                  have h7 : j < l.length := by have e : ((n, mq s x w) :: l).length = l.length + 1 := rfl; omega
                                  have h8 := g3 j h7
                                  rw [show cut + (j + 1) = cut + 1 + j by omega]
                                  exact h8
                              exact a_ireturn (pc := 253) dX5_plans_253 rfl rfl (⟨True, by rw [bi_t trivial]; rfl, ⟨f5, k5⟩, tk5, vi5, ar5, ⟨fun _ => ⟨(n, mq s x w) :: l, ⟨hst, by rw [← hZ]; exact GE_plV g1⟩, len_e2 g2⟩, fun _ => trivial⟩, fun _ => ⟨(n, mq s x w) :: l, ⟨hpe, by rw [← hZ]; exact g1⟩, len_e2 g2, hpa⟩⟩)
                          · skip
                            refine a_goto (pc := 180) (tgt := 254) dX5_plans_180 (by decide) ?_
                            refine n_iinc (pc := 254) (k := 1) (ls' := [(0, .ref 66), (1, .int (nI k)), (2, .int (nI cut)), (3, .int (nI m)), (4, .int (nI n)), (5, .int (nI (a + 1))), (6, .int (nI x)), (7, .int (nI w)), (8, .long (mkL (fun c => c < sCells s ∧ pcl s (mq s x w) n (mb s c))))]) dX5_plans_254 rfl (by decide) (by decide) rfl ?_
                            refine a_goto (pc := 257) (tgt := 110) dX5_plans_257 (by decide) ?_
                            refine a_drop (ls' := [(0, .ref 66), (1, .int (nI k)), (2, .int (nI cut)), (3, .int (nI m)), (4, .int (nI n)), (5, .int (nI (a + 1)))]) (by simp) ?_
                            exact ih (a + 1) H2 (by omega) hf2 hk52 htk2 hvi2 har2 (fun i hi h2 => by
                              rcases (by omega : i < a ∨ i = a) with z | rfl
                              · exact hna i z h2
                              · exact c177 ((lg_cmp_eq _ _).mpr ((own_free g hx hpl hon).mpr (by rw [hsq] at h2; exact h2.1.2.2.2)))) (by omega)
                        · skip
                          refine a_goto (pc := 153) (tgt := 254) dX5_plans_153 (by decide) ?_
                          refine n_iinc (pc := 254) (k := 1) (ls' := [(0, .ref 66), (1, .int (nI k)), (2, .int (nI cut)), (3, .int (nI m)), (4, .int (nI n)), (5, .int (nI (a + 1))), (6, .int (nI x)), (7, .int (nI w))]) dX5_plans_254 rfl (by decide) (by decide) rfl ?_
                          refine a_goto (pc := 257) (tgt := 110) dX5_plans_257 (by decide) ?_
                          refine a_drop (ls' := [(0, .ref 66), (1, .int (nI k)), (2, .int (nI cut)), (3, .int (nI m)), (4, .int (nI n)), (5, .int (nI (a + 1)))]) (by simp) ?_
                          exact ih (a + 1) H2 (by omega) hf2 hk52 htk2 hvi2 har2 (fun i hi h2 => by
                            rcases (by omega : i < a ∨ i = a) with z | rfl
                            · exact hna i z h2
                            · exact c150 (hsi.mpr (by rw [hsq] at h2; exact h2.1.2.2.1))) (by omega)
                  exact LA (2 * sCells s + 1) 0 H (Nat.zero_le _) hf hk5 htk hvi har (fun i hi => absurd hi (by omega)) (by omega)
                · skip
                  refine a_goto (pc := 104) (tgt := 260) dX5_plans_104 (by decide) ?_
                  refine n_idec (pc := 260) (ls' := [(0, .ref 66), (1, .int (nI k)), (2, .int (nI cut)), (3, .int (nI m)), (4, .int (nI (n - 1)))]) dX5_plans_260 rfl (by omega) (by decide) rfl ?_
                  refine a_goto (pc := 263) (tgt := 82) dX5_plans_263 (by decide) ?_
                  exact ihO (n - 1) H (by omega) hf hk5 htk hvi har (fun n2 q2 h1 h2 => by
                    rcases (by omega : n < n2 ∨ n2 = n) with z | rfl
                    · exact hno n2 q2 z h2
                    · exact by
                              obtain ⟨-, l, h3, h4⟩ := h2
                              have := NB_le n1 h3
                              omega) (by omega)
          exact LP (min (sW s) (sLen s - k) + 1) _ H1b (Nat.le_refl _) fs1 (fun j _ => by rw [e66]) tk1 vi1 ar1 (fun n2 q2 h1 h2 => by
            have h3 := run_max g (q := q2) (f := k)
            have h4 := h2.1.2.2.1
            have h5 := h2.1.2.1
            omega) (by omega)
        · have hne : hL H1b 87 a ≠ 0 := fun q => c58 ((lg_cmp_eq _ _).mpr q)
          have hbd : Bd s m (mkL (keyP s Y k cut)) := by obtain ⟨_, _, _, _, v4⟩ := vi1; have := v4 a ha hne; rwa [hva.resolve_left hne] at this
          refine a_iconst (pc := 61) (v := nI 0) dX5_plans_61 (by decide) ?_
          exact a_ireturn (pc := 62) dX5_plans_62 rfl rfl (⟨False, by rw [bi_f id]; rfl, ⟨fs1, fun j _ => by rw [e66]⟩, tk1, vi1, ar1, ⟨fun z => z.elim, fun z => hbd k cut Y (by omega) (by omega) rfl z⟩, fun z => z.elim⟩)
  · have hpn : ∀ l, plV s k Y l → l = [] := fun l hl => by have := plV_le hl; exact List.length_eq_zero_iff.mp (by omega)
    refine a_iload_n (pc := 10) (i := 2) dX5_plans_10 rfl rfl ?_
    refine a_iload_n (pc := 11) (i := 3) dX5_plans_11 rfl rfl ?_
    refine n_icmp_ne (pc := 12) (tgt := 19) dX5_plans_12 (by decide) (by omega) (by omega) (fun c12 => ?_) (fun c12 => ?_)
    · skip
      refine a_iconst (pc := 19) (v := nI 0) dX5_plans_19 (by decide) ?_
      exact a_ireturn (pc := 20) dX5_plans_20 rfl rfl (⟨False, by rw [bi_f id]; rfl, ⟨Fr.refl, fun _ _ => rfl⟩, tk, vi, (fun _ _ => ⟨rfl, rfl, rfl⟩), ⟨fun z => z.elim, fun z => by obtain ⟨l, h1, h2⟩ := z; rw [hpn l h1] at h2; exact c12 (by simpa using h2)⟩, fun z => z.elim⟩)
    · skip
      refine a_iconst (pc := 15) (v := nI 1) dX5_plans_15 (by decide) ?_
      refine a_goto (pc := 16) (tgt := 20) dX5_plans_16 (by decide) ?_
      exact a_ireturn (pc := 20) dX5_plans_20 rfl rfl (⟨True, by rw [bi_t trivial]; rfl, ⟨Fr.refl, fun _ _ => rfl⟩, tk, vi, (fun _ _ => ⟨rfl, rfl, rfl⟩), ⟨fun _ => ⟨[], c7, by simpa using c12⟩, fun _ => trivial⟩, fun _ => ⟨[], c7, by simpa using c12, fun i hi => absurd hi (Nat.not_lt_zero _)⟩⟩)
theorem s5_plans {D m : Nat} {s : SH} {f : Nat → Nat} (g : GS s) (h8 : sLen s ≤ 8) (hm : m ≤ 8) : ∀ (v : Nat) {k cut : Nat} {h : AH} {Y : Nat → Prop}, sLen s ≤ k + v → PPre h s f m Y → k ≤ sLen s → cut ≤ m → AC mX5_plans (D + v + 62) 0 0 [.ref 66, .int (nI k), .int (nI cut), .int (nI m)] h (Qb (PRes h s m k cut Y))
  | 0, k, cut, h, Y, hv, hp, hk, hc => plans_body (D := D) g h8 hm hp hk hc (fun {k2} {Z} {h2} h1 h3 _ _ => absurd h1 (by omega))
  | v + 1, k, cut, h, Y, hv, hp, hk, hc => plans_body (D := D + v + 1) g h8 hm hp hk hc (fun {k2} {Z} {h2} h1 h3 h4 h5 => s5_plans g h8 hm v (by omega) h5 h3 h4)
