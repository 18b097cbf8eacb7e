/-! the class LetterCutsModel: letters that cells are given to -/
/-- the cells that a letter can have, by their numbers -/
def Cm (s : SH) (X : Nat → Prop) (k c : Nat) : Prop := c < sCells s ∧ cwP s (nI (sMs s k)) (mb s c) ∧ ¬ X (mb s c)
def SDs (A : Nat → Prop) (C : Nat → Nat → Prop) : Prop := ∃ f : Nat → Nat, (∀ v, A v → f v < 48 ∧ C v (f v)) ∧ ∀ i j, A i → A j → f i = f j → i = j
theorem mb_qpl {s : SH} (g : GS s) {b : Nat} (h : b / 8 < sH s ∧ b % 8 < sW s) : qpl s b < sCells s ∧ mb s (qpl s b) = b := by
  have gh := g.2.1
  have h1 := h.1
  have h2 := h.2
  have hb : b < 48 := by omega
  have h3 := mq_of g (q := b) (by omega) ⟨by omega, by omega⟩
  have h5 := mq_ok g (x := 0) (by omega) h3.1
  refine ⟨h3.1, ?_⟩
  have h4 := h3.2
  rw [show b / 48 = 0 by omega] at h4
  unfold mq at h4
  unfold mb
  omega
theorem SDs_SS {s : SH} (g : GS s) {A X : Nat → Prop} (hA : ∀ v, A v → v < sLen s) : SDs A (Cm s X) ↔ SS s A X := by
  constructor
  · rintro ⟨f, f1, f2⟩
    refine ⟨fun v => mb s (f v), fun v hv => ?_, fun i j hi hj e => f2 i j hi hj (mb_inj g (f1 i hi).2.1 (f1 j hj).2.1 e)⟩
    rw [msA_lt (hA v hv)]
    exact (f1 v hv).2.2
  · rintro ⟨f, f1, f2⟩
    refine ⟨fun v => qpl s (f v), fun v hv => ?_, fun i j hi hj e => f2 i j hi hj ?_⟩
    · have h1 := f1 v hv
      rw [msA_lt (hA v hv)] at h1
      have h2 := mb_qpl g (cw_on g h1.1)
      have h3 := cells48 g
      exact ⟨Nat.lt_of_lt_of_le h2.1 h3.2, h2.1, by rw [h2.2]; exact h1⟩
    · have h1 := mb_qpl g (cw_on g (f1 i hi).1)
      have h2 := mb_qpl g (cw_on g (f1 j hj).1)
      have e : qpl s (f i) = qpl s (f j) := e
      rw [← h1.2, ← h2.2, e]
theorem SDs_no {g : Nat} {C : Nat → Nat → Prop} {W : Nat → Option Nat} {T2 : Nat → Prop} (hW : MW g C W) (t : FT C (fun _ => False) W g T2) : ¬ SDs (fun v => v = g ∨ ∃ c, W c = some v) C := by
  rintro ⟨f, f1, f2⟩
  obtain ⟨-, t2, t3⟩ := t
  have h1 : cnt (fun v => v = g ∨ ∃ c, T2 c ∧ W c = some v) (g + 1) ≤ cnt T2 48 := by
    have hin : ∀ i, (i = g ∨ ∃ c, T2 c ∧ W c = some i) → (i = g ∨ ∃ c, W c = some i) := fun i h => h.elim Or.inl (fun ⟨c, _, h2⟩ => Or.inr ⟨c, h2⟩)
    refine cnt_map (f := f) (fun i hi hp => ⟨(f1 i (hin i hp)).1, ?_⟩) (fun i j a b hi hj e => f2 i j (hin i hi) (hin j hj) e)
    have h9 := f1 i (hin i hp)
    rcases hp with rfl | ⟨c, p1, p2⟩
    · exact t2 _ h9.1 h9.2
    · obtain ⟨-, v, q1, q2⟩ := t3 c p1 id
      rw [p2] at q1
      cases q1
      exact q2 _ h9.1 h9.2
  have h2 : cnt T2 48 ≤ cnt (fun v => ∃ c, T2 c ∧ W c = some v) g := by
    refine cnt_map (f := fun c => (W c).getD 0) (fun i hi hp => ?_) (fun i j a b p1 p2 e => ?_)
    · obtain ⟨-, v, q1, q2⟩ := t3 i hp id
      rw [q1]
      exact ⟨(hW.2 i v q1).1.1, i, hp, q1⟩
    · obtain ⟨-, v, q1, -⟩ := t3 i p1 id
      obtain ⟨-, w, q2, -⟩ := t3 j p2 id
      rw [q1, q2] at e
      have e : v = w := e
      subst e
      exact hW.1 i j v q1 q2
  have h3 : cnt (fun v => ∃ c, T2 c ∧ W c = some v) g ≤ cnt (fun v => v = g ∨ ∃ c, T2 c ∧ W c = some v) g := cnt_mono fun i _ q => Or.inr q
  rw [cnt_yes (n := g) (Or.inl rfl)] at h1
  omega
theorem SDs_held {g : Nat} {C : Nat → Nat → Prop} {W : Nat → Option Nat} (hW : MW g C W) : SDs (fun v => ∃ c, W c = some v) C := by
  have hc : ∀ v, ∃ c, (∃ c, W c = some v) → W c = some v := fun v => by
    rcases Classical.em (∃ c, W c = some v) with ⟨c, h⟩ | h
    · exact ⟨c, fun _ => h⟩
    · exact ⟨0, fun z => absurd z h⟩
  refine ⟨fun v => Classical.choose (hc v), fun v hv => ?_, fun i j hi hj e => ?_⟩
  · have h := hW.2 _ _ (Classical.choose_spec (hc v) hv)
    exact ⟨h.2, h.1.2⟩
  · have h1 := Classical.choose_spec (hc i) hi
    have h2 := Classical.choose_spec (hc j) hj
    have e : Classical.choose (hc i) = Classical.choose (hc j) := e
    rw [e, h2] at h1
    cases h1
    rfl
theorem TT_held {g : Nat} {C : Nat → Nat → Prop} {W W2 : Nat → Option Nat} (hW : MW g C W) (t : TT C (fun _ => False) W g W2) : MW (g + 1) C W2 ∧ ∀ v, (∃ c, W2 c = some v) ↔ (v = g ∨ ∃ c, W c = some v) := by
  obtain ⟨-, ⟨c9, -, t3⟩, t4, t5, t6⟩ := t
  refine ⟨⟨fun c1 c2 v => t6 c1 c2 v id id, fun c v h => ?_⟩, fun v => ⟨?_, ?_⟩⟩
  · obtain ⟨a1, a2, a3⟩ := t4 c v id h
    refine ⟨⟨?_, a1⟩, a2⟩
    rcases a3 with rfl | ⟨c0, -, a4⟩
    · omega
    · have := (hW.2 c0 v a4).1.1; omega
  · rintro ⟨c, h⟩
    obtain ⟨-, -, a3⟩ := t4 c v id h
    exact a3.elim Or.inl (fun ⟨c0, _, h0⟩ => Or.inr ⟨c0, h0⟩)
  · rintro (rfl | ⟨c, h⟩)
    · exact ⟨c9, t3⟩
    · obtain ⟨c2, -, h2⟩ := t5 c v id h
      exact ⟨c2, h2⟩
theorem MW_up {g : Nat} {C : Nat → Nat → Prop} {W : Nat → Option Nat} (hW : MW g C W) : MW (g + 1) C W := ⟨hW.1, fun c v h => ⟨⟨Nat.lt_succ_of_lt (hW.2 c v h).1.1, (hW.2 c v h).1.2⟩, (hW.2 c v h).2⟩⟩
/-- the letters from a place on that get a cell, one after the other -/
def gS (s : SH) (X : Nat → Prop) (fr : Nat) : Nat → Nat → Prop
  | 0 => fun _ => False
  | k + 1 => fun i => gS s X fr k i ∨ (i = k ∧ fr ≤ k ∧ SS s (fun v => v = k ∨ gS s X fr k v) X)
theorem gS_in {s : SH} {X : Nat → Prop} {fr : Nat} : ∀ {k i : Nat}, gS s X fr k i → fr ≤ i ∧ i < k
  | 0, _, h => h.elim
  | k + 1, i, h => h.elim (fun z => ⟨(gS_in z).1, by have := (gS_in z).2; omega⟩) (fun z => by have := z.1; have := z.2.1; omega)
theorem gS_top {s : SH} {X : Nat → Prop} {fr k : Nat} : gS s X fr (k + 1) k ↔ fr ≤ k ∧ SS s (fun v => v = k ∨ gS s X fr k v) X :=
  ⟨fun h => h.elim (fun z => absurd (gS_in z).2 (by omega)) (fun z => z.2), fun h => Or.inr ⟨rfl, h⟩⟩
theorem gS_iff {s : SH} {X : Nat → Prop} {fr : Nat} : ∀ {k i : Nat}, gS s X fr k i ↔ i < k ∧ gS s X fr (i + 1) i
  | 0, i => ⟨fun h => h.elim, fun h => absurd h.1 (by omega)⟩
  | k + 1, i => by
    by_cases e : i = k
    · subst e
      exact ⟨fun h => ⟨by omega, h⟩, fun h => h.2⟩
    · constructor
      · rintro (h | h)
        · exact ⟨by have := (gS_in h).2; omega, (gS_iff.mp h).2⟩
        · exact absurd h.1 e
      · rintro ⟨h1, h2⟩
        exact Or.inl (gS_iff.mpr ⟨by omega, h2⟩)
noncomputable def nMf (s : SH) (X : Nat → Prop) (fr : Nat) : Nat := cnt (fun i => fr ≤ i ∧ ¬ gS s X fr (i + 1) i) (sLen s)
theorem SS_none {s : SH} {X : Nat → Prop} {A : Nat → Prop} (h : ∀ v, ¬ A v) : SS s A X := ⟨fun v => v, fun v hv => absurd hv (h v), fun i _ hi => absurd hi (h i)⟩
theorem gS_SS {s : SH} {X : Nat → Prop} {fr : Nat} : ∀ k, SS s (gS s X fr k) X
  | 0 => SS_none fun _ h => h
  | k + 1 => by
    rcases Classical.em (fr ≤ k ∧ SS s (fun v => v = k ∨ gS s X fr k v) X) with h | h
    · exact h.2.mono (fun i hi => hi.elim Or.inr (fun z => Or.inl z.1)) (fun _ z => z)
    · exact (gS_SS k).mono (fun i hi => hi.elim id (fun z => absurd z.2 h)) (fun _ z => z)
theorem nMf_0 {s : SH} {X : Nat → Prop} {fr : Nat} : nMf s X fr = 0 ↔ SS s (fun i => fr ≤ i ∧ i < sLen s) X := by
  constructor
  · intro h
    refine (gS_SS (s := s) (X := X) (fr := fr) (sLen s)).mono (fun i hi => gS_iff.mpr ⟨hi.2, Classical.byContradiction fun z => ?_⟩) (fun _ z => z)
    have := (cnt_ex (P := fun i => fr ≤ i ∧ ¬ gS s X fr (i + 1) i) (sLen s)).mpr ⟨i, hi.2, hi.1, z⟩
    have h : cnt (fun i => fr ≤ i ∧ ¬ gS s X fr (i + 1) i) (sLen s) = 0 := h
    omega
  · intro h
    refine cnt_none _ fun i hi hz => hz.2 (gS_top.mpr ⟨hz.1, h.mono (fun v hv => ?_) (fun _ z => z)⟩)
    rcases hv with rfl | hv
    · exact ⟨hz.1, hi⟩
    · have := gS_in hv; omega
theorem cnt_not {P : Nat → Prop} : ∀ n, cnt P n + cnt (fun i => ¬ P i) n = n
  | 0 => rfl
  | n + 1 => by
    have ih := cnt_not (P := P) n
    rcases Classical.em (P n) with h | h
    · rw [cnt_yes h, cnt_no (P := fun i => ¬ P i) (fun z => z h)]; omega
    · rw [cnt_no h, cnt_yes (P := fun i => ¬ P i) h]; omega
theorem mset_gS {s : SH} (g : GS s) : ∀ k, k ≤ sLen s → CPR (fun i => gS s noA 0 (i + 1) i) (dMs s) k (mset (dMs s) k).1 (mset (dMs s) k).2
  | 0, _ => ⟨rfl, fun _ h => absurd h (by omega)⟩
  | k + 1, hk => by
    have ih := mset_gS g k (by omega)
    obtain ⟨G, hG⟩ : ∃ G : Nat → Prop, G = fun i => gS s noA 0 (i + 1) i := ⟨_, rfl⟩
    rw [← hG] at ih ⊢
    have hO : CPR (fun i => (i < k ∧ G i) ∨ i = k) (dMs s) k (mset (dMs s) k).1 (mset (dMs s) k).2 := by
      have ec : ∀ j, j ≤ k → cnt (fun i => (i < k ∧ G i) ∨ i = k) j = cnt G j := fun j hj => cnt_congr _ fun i hi => ⟨fun z => z.elim (fun z => z.2) (fun z => by omega), fun z => Or.inl ⟨by omega, z⟩⟩
      refine ⟨by rw [ec k (Nat.le_refl _)]; exact ih.1, fun j hj ho => ?_⟩
      rw [ec j (by omega)]
      exact ih.2 j hj (ho.elim (fun z => z.2) (fun z => by omega))
    have hY := CPR_yes hO (Or.inr rfl)
    have hD : (fun k b => dMs s k b ∧ ¬ noA b) = dMs s := funext fun k => funext fun b => propext ⟨fun z => z.1, fun z => ⟨z, id⟩⟩
    have hSD := CPR_SD g (X := noA) (O := fun i => (i < k ∧ G i) ∨ i = k) (i := k + 1) (g := (mset (dMs s) k).1 + 1) (C := cset (mset (dMs s) k).2 (mset (dMs s) k).1 (dMs s k)) (by rw [hD]; exact hY)
    have hSS : SS s (fun v => v < k + 1 ∧ ((v < k ∧ G v) ∨ v = k)) noA ↔ G k := by
      rw [hG]
      show _ ↔ gS s noA 0 (k + 1) k
      rw [gS_top]
      have e : (fun v => v < k + 1 ∧ ((v < k ∧ (fun i => gS s noA 0 (i + 1) i) v) ∨ v = k)) = (fun v => v = k ∨ gS s noA 0 k v) := funext fun v => propext (by
        rw [gS_iff (k := k) (i := v)]
        constructor
        · rintro ⟨-, z | z⟩
          · exact Or.inr z
          · exact Or.inl z
        · rintro (z | z)
          · exact ⟨by omega, Or.inr z⟩
          · exact ⟨by omega, Or.inl z⟩)
      rw [e]
      exact ⟨fun z => ⟨Nat.zero_le _, z⟩, fun z => z.2⟩
    show CPR G (dMs s) (k + 1) (cif (SD ((mset (dMs s) k).1 + 1) (cset (mset (dMs s) k).2 (mset (dMs s) k).1 (dMs s k))) ((mset (dMs s) k).1 + 1, cset (mset (dMs s) k).2 (mset (dMs s) k).1 (dMs s k)) (mset (dMs s) k)).1 (cif (SD ((mset (dMs s) k).1 + 1) (cset (mset (dMs s) k).2 (mset (dMs s) k).1 (dMs s k))) ((mset (dMs s) k).1 + 1, cset (mset (dMs s) k).2 (mset (dMs s) k).1 (dMs s k)) (mset (dMs s) k)).2
    rcases Classical.em (SD ((mset (dMs s) k).1 + 1) (cset (mset (dMs s) k).2 (mset (dMs s) k).1 (dMs s k))) with z | z
    · rw [cif_t z]
      exact CPR_yes ih (hSS.mp (hSD.mp z))
    · rw [cif_f z]
      exact CPR_no ih (fun y => z (hSD.mpr (hSS.mpr y)))
theorem nMf_miss {s : SH} (g : GS s) : nMf s noA 0 = nMiss s := by
  rw [nMiss_eq, (mset_gS g (sLen s) (Nat.le_refl _)).1]
  have h := cnt_not (P := fun i => gS s noA 0 (i + 1) i) (sLen s)
  have e : nMf s noA 0 = cnt (fun i => ¬ gS s noA 0 (i + 1) i) (sLen s) := cnt_congr _ fun i _ => ⟨fun z => z.2, fun z => ⟨Nat.zero_le _, z⟩⟩
  rw [e]
  omega
theorem mkL_tst {P : Nat → Prop} {k : Nat} (hk : k < 64) : (mkL P >>> ((nI k).toInt64 &&& 63)) &&& 1 = 1 ↔ P k := by
  have h1 : (BitVec.ofNat 64 k).toNat = k := by simp; omega
  have h0 : ∀ i, ((mkL P >>> ((nI k).toInt64 &&& 63)) &&& 1).toBitVec.getLsbD i = ((mkL P >>> ((nI k).toInt64 &&& 63)).toBitVec.getLsbD i && (1 : Int64).toBitVec.getLsbD i) := fun i => by rw [Int64.toBitVec_and, BitVec.getLsbD_and]
  have h2 : (mkL P >>> ((nI k).toInt64 &&& 63)).toBitVec.getLsbD 0 = (mkL P).toBitVec.getLsbD k := by
    rw [Int64.toBitVec_shiftRight, lsh_c ⟨k, hk⟩, BitVec.sshiftRight', h1, BitVec.getLsbD_sshiftRight]
    simp [hk]
  have h3 : (1 : Int64).toBitVec = 1#64 := rfl
  constructor
  · intro e
    have h4 := h0 0
    rw [e, h2, h3] at h4
    have h5 : (mkL P).toBitVec.getLsbD k = true := by simpa using h4.symm
    exact (mkL_bit.mp h5).2
  · intro hp
    apply Int64.toBitVec_inj.mp
    refine BitVec.eq_of_getLsbD_eq fun i hi => ?_
    rw [h0 i, h3]
    by_cases e : i = 0
    · subst e
      rw [h2, mkL_bit.mpr ⟨hk, hp⟩]; rfl
    · have : (1#64).getLsbD i = false := by rw [BitVec.getLsbD_one]; simp [e]
      rw [this, Bool.and_false]
/-- asked cells and holders, as the model has them -/
def MSm (h : AH) (s : SH) (T : Nat → Prop) (W : Nat → Option Nat) : Prop := (∀ c, c < sCells s → hI h 81 c = bi (T c)) ∧ ∀ c, c < sCells s → hI h 80 c = enc (W c)
def TKm (h : AH) (s : SH) (X : Nat → Prop) : Prop := hL h 66 17 = mkL (fun b => b < sCells s ∧ X (mb s b))
theorem TKm.fr {S : List Nat} {h h2 : AH} {s : SH} {X : Nat → Prop} (r : TKm h s X) (f : Fr S h h2) (hs : 66 ∉ S) : TKm h2 s X := by
  unfold TKm
  rw [(f.2.2 66 hs).2]
  exact r
def FPm (h : AH) (s : SH) (X : Nat → Prop) (g u : Nat) (T : Nat → Prop) (W : Nat → Option Nat) : Prop := (CB h ∧ GS s ∧ DM h 68 s ∧ TKm h s X) ∧ (g ≤ sLen s ∧ u < sLen s) ∧ MW g (Cm s X) W ∧ (∀ c, W c = some u → T c) ∧ MSm h s T W
def FRm (h : AH) (s : SH) (X : Nat → Prop) (g u : Nat) (T : Nat → Prop) (W : Nat → Option Nat) (b : Prop) (h2 : AH) : Prop := ∃ T2 W2, Fr [80, 81] h h2 ∧ MSm h2 s T2 W2 ∧ (b → TT (Cm s X) T W u W2) ∧ (¬ b → W2 = W ∧ FT (Cm s X) T W u T2)
theorem FRm_n {h : AH} {s : SH} {X : Nat → Prop} {g u : Nat} {T : Nat → Prop} {W : Nat → Option Nat} : ∀ b h2, FRm h s X g u T W b h2 → hN h2 = hN h := fun b h2 ⟨_, _, f, _⟩ => f.1
theorem MSm_ask {h : AH} {s : SH} {T : Nat → Prop} {W : Nat → Option Nat} (m : MSm h s T W) {k : Nat} : MSm (sI h 81 k (nI 1 &&& 1)) s (fun b => T b ∨ b = k) W := ⟨fun c hc => by
  by_cases e : c = k
  · rw [rd2 ⟨rfl, e⟩, bi_t (Or.inr e)]; rfl
  · rw [rd1 (Or.inr e), m.1 c hc]; exact bi_c ⟨Or.inl, fun z => z.elim id (fun z => absurd z e)⟩, fun c hc => by rw [rd1 (by omega)]; exact m.2 c hc⟩
theorem MSm_wset {h : AH} {s : SH} {T : Nat → Prop} {W : Nat → Option Nat} (m : MSm h s T W) {k u : Nat} : MSm (sI h 80 k (nI u)) s T (wset W k u) := ⟨fun c hc => by rw [rd1 (by omega)]; exact m.1 c hc, fun c hc => by
  by_cases e : c = k
  · rw [rd2 ⟨rfl, e⟩, e, wset_eq]; rfl
  · rw [rd1 (Or.inr e), wset_ne e]; exact m.2 c hc⟩
theorem FLo_end {s : SH} {X T : Nat → Prop} {W : Nat → Option Nat} {u : Nat} {T2 : Nat → Prop} (f : FLo (Cm s X) T W u (sCells s) T2) : FT (Cm s X) T W u T2 := ⟨f.1, fun c _ hC => f.2.1 c hC.1 hC, f.2.2⟩
set_option maxHeartbeats 1500000 in
set_option maxRecDepth 100000 in
theorem gives_body {d g u : Nat} {h : AH} {s : SH} {Y T : Nat → Prop} {W : Nat → Option Nat} (hp : FPm h s Y g u T W) (IH : ∀ {u2 : Nat} {T2 : Nat → Prop} {h2 : AH}, cnt T 48 + 1 ≤ cnt T2 48 → FPm h2 s Y g u2 T2 W → AC mX5_gives (d + 5) 0 0 [.ref 66, .int (nI u2)] h2 (Qb (FRm h2 s Y g u2 T2 W))) : AC mX5_gives (d + 6) 0 0 [.ref 66, .int (nI u)] h (Qb (FRm h s Y g u T W)) := by
  refine AC.of (by decide) rfl (Nat.le_of_ble_eq_true rfl) (fun X => ?_)
  show AW X mX5_gives (d + 6) 0 0 0 [(0, .ref 66), (1, .int (nI u))] [] h (Qb (FRm h s Y g u T W))
  have hn := hp.1.1.1
  obtain ⟨⟨c, gg, r, tk⟩, ⟨hg, hu⟩, hW, huT, hM⟩ := id hp
  have gc := cells48 gg
  have gl := gg.2.2.2.2.2.1
  have LP : ∀ (fu : Nat) (k : Nat) (T2 : Nat → Prop) (H : AH), k ≤ sCells s → Fr [80, 81] h H → MSm H s T2 W → FLo (Cm s Y) T W u k T2 → sCells s - k < fu → AW X mX5_gives (d + 6) 0 0 2 [(0, .ref 66), (1, .int (nI u)), (2, .int (nI k))] [] H (Qb (FRm h s Y g u T W)) := by
    intro fu
    induction fu with
    | zero => intro k T2 H hk hf hm hl hz; exact absurd hz (Nat.not_lt_zero _)
    | succ fu ih =>
      intro k T2 H hk hf hm hl hz
      have c1 := c.fr hf
      have hn1 := c1.1
      have r1 := r.fr hf (by simp)
      have tk1 : hL H 66 17 = mkL (fun b => b < sCells s ∧ Y (mb s b)) := tk.fr hf (by simp)
      refine a_iload_n (pc := 2) (i := 2) dX5_gives_2 rfl rfl ?_
      refine a_aload_n (pc := 3) (i := 0) dX5_gives_3 rfl rfl ?_
      refine a_vV1 (pc := 4) (as := []) (b := 66) (ci := 5) (v := .int (nI (sCells s))) (h' := H) dX5_gives_4 (lc_RX5_172 rfl) ceX5_cells rfl (lt90 hn1 (shK_lt (show shK 66 = _ from rfl))) (s5_cells c1 gg r1) rfl rfl (Nat.le_of_ble_eq_true rfl) rfl ?_
      refine n_icmp_ge (pc := 7) (tgt := 101) dX5_gives_7 (by decide) (by omega) (by omega) (fun c7 => ?_) (fun c7 => ?_)
      · have ek : k = sCells s := by omega
        rw [ek] at hl
        refine a_iconst (pc := 101) (v := nI 0) dX5_gives_101 (by decide) ?_
        exact a_ireturn (pc := 102) dX5_gives_102 rfl rfl (⟨False, by rw [bi_f id]; rfl, T2, W, hf, hm, fun z => z.elim, fun _ => ⟨rfl, FLo_end hl⟩⟩)
      · skip
        refine a_aload_n (pc := 10) (i := 0) dX5_gives_10 rfl rfl ?_
        refine a_getR (pc := 11) (ci := 5) (k := 16) (b := 81) dX5_gives_11 (lf_RX5_34 rfl) (by decide) rfl rfl (lt90 hn1 (shK_lt (show shK 66 = _ from rfl))) c1.2.2.2.2.2.2.2.2.1.2.2.2.2.2.2.1 ?_
        refine a_iload_n (pc := 14) (i := 2) dX5_gives_14 rfl rfl ?_
        refine a_zald (pc := 15) (j := k) dX5_gives_15 rfl (lt90 hn1 (shK_lt (show shK 81 = _ from rfl))) rfl (by omega) ?_
        refine a_top (show (.int (hI H 81 k) : Value) = .int (bi (T2 k)) from congrArg Value.int (hm.1 k c7)) ?_
        refine b_if_ne (pc := 16) (tgt := 95) dX5_gives_16 (by decide) (fun c16 => ?_) (fun c16 => ?_)
        · skip
          refine n_iinc (pc := 95) (k := 1) (ls' := [(0, .ref 66), (1, .int (nI u)), (2, .int (nI (k + 1)))]) dX5_gives_95 rfl (by decide) (by decide) rfl ?_
          refine a_goto (pc := 98) (tgt := 2) dX5_gives_98 (by decide) ?_
          exact ih (k + 1) T2 H (by omega) hf hm (FLo_skip hl (fun z => c16)) (by omega)
        · skip
          refine a_aload_n (pc := 19) (i := 0) dX5_gives_19 rfl rfl ?_
          refine a_getL (pc := 20) (ci := 5) (k := 17) dX5_gives_20 (lf_RX5_197 rfl) (by decide) rfl rfl (lt90 hn1 (shK_lt (show shK 66 = _ from rfl))) ?_
          refine a_top (show (.long (hL H 66 17) : Value) = .long (mkL (fun b => b < sCells s ∧ Y (mb s b))) from congrArg Value.long tk1) ?_
          refine a_iload_n (pc := 23) (i := 2) dX5_gives_23 rfl rfl ?_
          refine a_lshr (pc := 24) dX5_gives_24 ?_
          refine a_lconst (pc := 25) (v := 1) dX5_gives_25 (by decide) ?_
          refine a_land (pc := 26) dX5_gives_26 ?_
          refine a_lconst (pc := 27) (v := 1) dX5_gives_27 (by decide) ?_
          refine a_lcmp (pc := 28) dX5_gives_28 ?_
          refine a_if_eq (pc := 29) (tgt := 95) dX5_gives_29 (by decide) (fun c29 => ?_) (fun c29 => ?_)
          · skip
            refine n_iinc (pc := 95) (k := 1) (ls' := [(0, .ref 66), (1, .int (nI u)), (2, .int (nI (k + 1)))]) dX5_gives_95 rfl (by decide) (by decide) rfl ?_
            refine a_goto (pc := 98) (tgt := 2) dX5_gives_98 (by decide) ?_
            exact ih (k + 1) T2 H (by omega) hf hm (FLo_skip hl (fun z => absurd ((mkL_tst (by omega)).mp ((lg_cmp_eq _ _).mp c29)).2 z.2.2)) (by omega)
          · have hx : ¬ Y (mb s k) := fun z => c29 ((lg_cmp_eq _ _).mpr ((mkL_tst (by omega)).mpr ⟨c7, z⟩))
            refine a_aload_n (pc := 32) (i := 0) dX5_gives_32 rfl rfl ?_
            refine a_iload_n (pc := 33) (i := 2) dX5_gives_33 rfl rfl ?_
            refine a_aload_n (pc := 34) (i := 0) dX5_gives_34 rfl rfl ?_
            refine a_getR (pc := 35) (ci := 5) (k := 8) (b := 68) dX5_gives_35 (lf_RX5_17 rfl) (by decide) rfl rfl (lt90 hn1 (shK_lt (show shK 66 = _ from rfl))) c1.2.2.2.2.2.2.2.2.1.2.1 ?_
            refine a_sipush (pc := 38) (v := nI 162) dX5_gives_38 (by decide) ?_
            refine a_iload_n (pc := 41) (i := 1) dX5_gives_41 rfl rfl ?_
            refine n_iadd (pc := 42) dX5_gives_42 ?_
            refine a_iald (pc := 43) (j := (162 + u)) dX5_gives_43 rfl (lt90 hn1 (shK_lt (show shK 68 = _ from rfl))) rfl (by omega) ?_
            refine a_top (show (.int (hI H 68 (162 + u)) : Value) = .int (nI (sMs s u)) from congrArg Value.int (r1.2.2.2.2 u hu)) ?_
            refine a_vV1 (pc := 44) (as := [.int (nI k), .int (nI (sMs s u))]) (b := 66) (ci := 5) (v := .int (bi (cwP s (nI (sMs s u)) (mb s k)))) (h' := H) dX5_gives_44 (lc_RX5_201 rfl) ceX5_hasLetter rfl (lt90 hn1 (shK_lt (show shK 66 = _ from rfl))) (s5_hasLetter (d := d) c1 gg r1 c7) rfl rfl (Nat.le_of_ble_eq_true rfl) rfl ?_
            refine b_if_ne (pc := 47) (tgt := 53) dX5_gives_47 (by decide) (fun c47 => ?_) (fun c47 => ?_)
            · have hC : Cm s Y u k := ⟨c7, c47, hx⟩
              refine a_aload_n (pc := 53) (i := 0) dX5_gives_53 rfl rfl ?_
              refine a_getR (pc := 54) (ci := 5) (k := 16) (b := 81) dX5_gives_54 (lf_RX5_34 rfl) (by decide) rfl rfl (lt90 hn1 (shK_lt (show shK 66 = _ from rfl))) c1.2.2.2.2.2.2.2.2.1.2.2.2.2.2.2.1 ?_
              refine a_iload_n (pc := 57) (i := 2) dX5_gives_57 rfl rfl ?_
              refine a_iconst (pc := 58) (v := nI 1) dX5_gives_58 (by decide) ?_
              refine a_zast (pc := 59) (j := k) dX5_gives_59 rfl (lt90 hn1 (shK_lt (show shK 81 = _ from rfl))) rfl (by omega) ?_
              obtain ⟨H1, hH1⟩ : ∃ Hx, Hx = sI H 81 k ((nI 1) &&& 1) := ⟨_, rfl⟩
              have f1 : Fr [80, 81] h H1 := by rw [hH1]; exact hf.sI (by simp)
              have m1 : MSm H1 s (fun b => T2 b ∨ b = k) W := by rw [hH1]; exact MSm_ask hm
              refine a_heap (h' := H1) hH1.symm ?_
              have c2 := c.fr f1
              have hn2 := c2.1
              refine a_aload_n (pc := 60) (i := 0) dX5_gives_60 rfl rfl ?_
              refine a_getR (pc := 61) (ci := 5) (k := 15) (b := 80) dX5_gives_61 (lf_RX5_31 rfl) (by decide) rfl rfl (lt90 hn2 (shK_lt (show shK 66 = _ from rfl))) c2.2.2.2.2.2.2.2.2.1.2.2.2.2.2.1 ?_
              refine a_iload_n (pc := 64) (i := 2) dX5_gives_64 rfl rfl ?_
              refine a_iald (pc := 65) (j := k) dX5_gives_65 rfl (lt90 hn2 (shK_lt (show shK 80 = _ from rfl))) rfl (by omega) ?_
              refine a_top (show (.int (hI H1 80 k) : Value) = .int (enc (W k)) from congrArg Value.int (m1.2 k c7)) ?_
              refine a_iconst (pc := 66) (v := (-1)) dX5_gives_66 (by decide) ?_
              refine a_icmp_eq (pc := 67) (tgt := 86) dX5_gives_67 (by decide) (fun c67 => ?_) (fun c67 => ?_)
              · have hw : W k = none := (enc_m1 (fun v hv => by have := (hW.2 k v hv).1.1; omega)).mp c67
                refine a_aload_n (pc := 86) (i := 0) dX5_gives_86 rfl rfl ?_
                refine a_getR (pc := 87) (ci := 5) (k := 15) (b := 80) dX5_gives_87 (lf_RX5_31 rfl) (by decide) rfl rfl (lt90 hn2 (shK_lt (show shK 66 = _ from rfl))) c2.2.2.2.2.2.2.2.2.1.2.2.2.2.2.1 ?_
                refine a_iload_n (pc := 90) (i := 2) dX5_gives_90 rfl rfl ?_
                refine a_iload_n (pc := 91) (i := 1) dX5_gives_91 rfl rfl ?_
                refine a_iast (pc := 92) (j := k) dX5_gives_92 rfl (lt90 hn2 (shK_lt (show shK 80 = _ from rfl))) rfl (by omega) ?_
                refine a_iconst (pc := 93) (v := nI 1) dX5_gives_93 (by decide) ?_
                exact a_ireturn (pc := 94) dX5_gives_94 rfl rfl (⟨True, by rw [bi_t trivial]; rfl, _, wset W k u, f1.sI (by simp), MSm_wset m1, fun _ => TT_free hW huT (fun z => c16 (hl.1 k z)) (by omega) hC hw, fun z => absurd trivial z⟩)
              · obtain ⟨v, hv⟩ : ∃ v, W k = some v := Option.ne_none_iff_exists'.mp (fun z => c67 ((enc_m1 (fun v hv => by have := (hW.2 k v hv).1.1; omega)).mpr z))
                have hvg := (hW.2 k v hv).1.1
                have hp1 : FPm H1 s Y g v (fun b => T2 b ∨ b = k) W := ⟨⟨c2, gg, r.fr f1 (by simp), tk.fr f1 (by simp)⟩, ⟨hg, by omega⟩, hW, fun b hb => Or.inr (hW.1 b k v hb hv), m1⟩
                have hcn : cnt T 48 + 1 ≤ cnt (fun b => T2 b ∨ b = k) 48 := cnt_lt (x := k) (by omega) (fun b _ q => Or.inl (hl.1 b q)) (fun q => c16 (hl.1 k q)) (Or.inr rfl)
                refine a_aload_n (pc := 70) (i := 0) dX5_gives_70 rfl rfl ?_
                refine a_aload_n (pc := 71) (i := 0) dX5_gives_71 rfl rfl ?_
                refine a_getR (pc := 72) (ci := 5) (k := 15) (b := 80) dX5_gives_72 (lf_RX5_31 rfl) (by decide) rfl rfl (lt90 hn2 (shK_lt (show shK 66 = _ from rfl))) c2.2.2.2.2.2.2.2.2.1.2.2.2.2.2.1 ?_
                refine a_iload_n (pc := 75) (i := 2) dX5_gives_75 rfl rfl ?_
                refine a_iald (pc := 76) (j := k) dX5_gives_76 rfl (lt90 hn2 (shK_lt (show shK 80 = _ from rfl))) rfl (by omega) ?_
                refine a_top (show (.int (hI H1 80 k) : Value) = .int (nI v) from congrArg Value.int ((m1.2 k c7).trans (by rw [hv]; rfl))) ?_
                refine a_yV (pc := 77) (as := [.int (nI v)]) (b := 66) (ci := 5) dX5_gives_77 (lc_RX5_204 rfl) ceX5_gives rfl (lt90 hn2 (shK_lt (show shK 66 = _ from rfl))) (IH hcn hp1) rfl rfl (Nat.le_of_ble_eq_true rfl) FRm_n (fun b1 H2 q2 => ?_)
                obtain ⟨T3, W3, f3, m3, t3, n3⟩ := q2
                have c3 := c2.fr f3
                have hn3 := c3.1
                refine b_if_ne (pc := 80) (tgt := 86) dX5_gives_80 (by decide) (fun c80 => ?_) (fun c80 => ?_)
                · skip
                  refine a_aload_n (pc := 86) (i := 0) dX5_gives_86 rfl rfl ?_
                  refine a_getR (pc := 87) (ci := 5) (k := 15) (b := 80) dX5_gives_87 (lf_RX5_31 rfl) (by decide) rfl rfl (lt90 hn3 (shK_lt (show shK 66 = _ from rfl))) c3.2.2.2.2.2.2.2.2.1.2.2.2.2.2.1 ?_
                  refine a_iload_n (pc := 90) (i := 2) dX5_gives_90 rfl rfl ?_
                  refine a_iload_n (pc := 91) (i := 1) dX5_gives_91 rfl rfl ?_
                  refine a_iast (pc := 92) (j := k) dX5_gives_92 rfl (lt90 hn3 (shK_lt (show shK 80 = _ from rfl))) rfl (by omega) ?_
                  refine a_iconst (pc := 93) (v := nI 1) dX5_gives_93 (by decide) ?_
                  exact a_ireturn (pc := 94) dX5_gives_94 rfl rfl (⟨True, by rw [bi_t trivial]; rfl, T3, wset W3 k u, (f1.trans f3).sI (by simp), MSm_wset m3, fun _ => TT_move (T1 := fun b => T2 b ∨ b = k) hW huT (fun b hb => Or.inl (hl.1 b hb)) (fun z => c16 (hl.1 k z)) (Or.inr rfl) (by omega) hC hv (t3 c80), fun z => absurd trivial z⟩)
                · obtain ⟨e3, ft⟩ := n3 c80
                  subst e3
                  refine a_goto (pc := 83) (tgt := 95) dX5_gives_83 (by decide) ?_
                  refine n_iinc (pc := 95) (k := 1) (ls' := [(0, .ref 66), (1, .int (nI u)), (2, .int (nI (k + 1)))]) dX5_gives_95 rfl (by decide) (by decide) rfl ?_
                  refine a_goto (pc := 98) (tgt := 2) dX5_gives_98 (by decide) ?_
                  exact ih (k + 1) T3 H2 (by omega) (f1.trans f3) m3 (FLo_step hl (by omega) hv ft) (by omega)
            · skip
              refine a_goto (pc := 50) (tgt := 95) dX5_gives_50 (by decide) ?_
              refine n_iinc (pc := 95) (k := 1) (ls' := [(0, .ref 66), (1, .int (nI u)), (2, .int (nI (k + 1)))]) dX5_gives_95 rfl (by decide) (by decide) rfl ?_
              refine a_goto (pc := 98) (tgt := 2) dX5_gives_98 (by decide) ?_
              exact ih (k + 1) T2 H (by omega) hf hm (FLo_skip hl (fun z => absurd z.2.1 c47)) (by omega)
  refine a_iconst (pc := 0) (v := nI 0) dX5_gives_0 (by decide) ?_
  refine a_istore_n (pc := 1) (i := 2) (ls' := [(0, .ref 66), (1, .int (nI u)), (2, .int (nI 0))]) dX5_gives_1 rfl (by decide) rfl ?_
  exact LP (sCells s + 1) 0 T h (Nat.zero_le _) Fr.refl hM FLo_0 (by omega)
theorem s5_gives {d : Nat} {s : SH} {Y : Nat → Prop} {g : Nat} : ∀ (m : Nat) {u : Nat} {h : AH} {T : Nat → Prop} {W : Nat → Option Nat}, 48 ≤ m + cnt T 48 → FPm h s Y g u T W → AC mX5_gives (d + m + 6) 0 0 [.ref 66, .int (nI u)] h (Qb (FRm h s Y g u T W))
  | 0, u, h, T, W, hm, hp => gives_body (d := d) hp (fun {u2} {T2} {h2} hc _ => absurd (cnt_le T2 48) (by omega))
  | m + 1, u, h, T, W, hm, hp => by
    have key := gives_body (d := d + m + 1) hp (fun {u2} {T2} {h2} hc hp2 => s5_gives m (by omega) hp2)
    exact key
set_option maxHeartbeats 1500000 in
set_option maxRecDepth 100000 in
theorem s5_missingFrom {d fr : Nat} {Y : Nat → Prop} {h : AH} {s : SH} (c : CB h) (g : GS s) (r : DM h 68 s) (tk : TKm h s Y) (hfr : fr ≤ sLen s) : AC mX5_missingFrom (d + 60) 0 0 [.ref 66, .int (nI fr)] h (Qf [80, 81] (some (.int (nI (nMf s Y fr)))) h (fun h2 => True)) := by
  have hn := c.1
  have gw := g.1
  have gh := g.2.1
  have gl := g.2.2.2.2.2.1
  have gc := cells48 g
  refine AC.of (by decide) rfl (Nat.le_of_ble_eq_true rfl) (fun X => ?_)
  show AW X mX5_missingFrom (d + 60) 0 0 0 [(0, .ref 66), (1, .int (nI fr))] [] h (Qf [80, 81] (some (.int (nI (nMf s Y fr)))) h (fun h2 => True))
  have LQ : ∀ (fu : Nat) (k : Nat) (W : Nat → Option Nat) (H : AH), fr ≤ k ∧ k ≤ sLen s → Fr [80, 81] h H → MW k (Cm s Y) W → (∀ v, (∃ c, W c = some v) ↔ gS s Y fr k v) → (∀ c, c < sCells s → hI H 80 c = enc (W c)) → sLen s - k < fu → AW X mX5_missingFrom (d + 60) 0 0 27 [(0, .ref 66), (1, .int (nI fr)), (2, .int (nI (cnt (fun i => fr ≤ i ∧ ¬ gS s Y fr (i + 1) i) k))), (3, .int (nI k))] [] H (Qf [80, 81] (some (.int (nI (nMf s Y fr)))) h (fun h2 => True)) := by
    intro fu
    induction fu with
    | zero => intro k W H hk hf hW hw hg hz; exact absurd hz (Nat.not_lt_zero _)
    | succ fu ih =>
      intro k W H hk hf hW hw hg hz
      have c1 := c.fr hf
      have hn1 := c1.1
      have r1 := r.fr hf (by simp)
      have hcn := cnt_le (fun i => fr ≤ i ∧ ¬ gS s Y fr (i + 1) i) k
      refine a_iload_n (pc := 27) (i := 3) dX5_missingFrom_27 rfl rfl ?_
      refine a_aload_n (pc := 28) (i := 0) dX5_missingFrom_28 rfl rfl ?_
      refine a_getR (pc := 29) (ci := 5) (k := 8) (b := 68) dX5_missingFrom_29 (lf_RX5_17 rfl) (by decide) rfl rfl (lt90 hn1 (shK_lt (show shK 66 = _ from rfl))) c1.2.2.2.2.2.2.2.2.1.2.1 ?_
      refine a_iconst (pc := 32) (v := nI 3) dX5_missingFrom_32 (by decide) ?_
      refine a_iald (pc := 33) (j := 3) dX5_missingFrom_33 rfl (lt90 hn1 (shK_lt (show shK 68 = _ from rfl))) rfl (by omega) ?_
      refine a_top (show (.int (hI H 68 3) : Value) = .int (nI (sLen s)) from congrArg Value.int r1.1.2.2.2.1) ?_
      refine n_icmp_ge (pc := 34) (tgt := 85) dX5_missingFrom_34 (by decide) (by omega) (by omega) (fun c34 => ?_) (fun c34 => ?_)
      · have ek : k = sLen s := by omega
        refine a_iload_n (pc := 85) (i := 2) dX5_missingFrom_85 rfl rfl ?_
        exact a_ireturn (pc := 86) dX5_missingFrom_86 rfl rfl (⟨by rw [ek]; rfl, hf, trivial⟩)
      · skip
        refine a_iconst (pc := 37) (v := nI 0) dX5_missingFrom_37 (by decide) ?_
        refine a_istore (pc := 38) (i := 4) (ls' := [(0, .ref 66), (1, .int (nI fr)), (2, .int (nI (cnt (fun i => fr ≤ i ∧ ¬ gS s Y fr (i + 1) i) k))), (3, .int (nI k)), (4, .int (nI 0))]) dX5_missingFrom_38 (by decide) rfl ?_
        have OUT := ih
        have LR : ∀ (fu : Nat) (b : Nat) (H2 : AH), b ≤ sCells s → Fr [81] H H2 → (∀ c, c < b → hI H2 81 c = nI 0) → sCells s - b < fu → AW X mX5_missingFrom (d + 60) 0 0 40 [(0, .ref 66), (1, .int (nI fr)), (2, .int (nI (cnt (fun i => fr ≤ i ∧ ¬ gS s Y fr (i + 1) i) k))), (3, .int (nI k)), (4, .int (nI b))] [] H2 (Qf [80, 81] (some (.int (nI (nMf s Y fr)))) h (fun h2 => True)) := by
          intro fu
          induction fu with
          | zero => intro b H2 hb hf2 ha hz; exact absurd hz (Nat.not_lt_zero _)
          | succ fu ih =>
            intro b H2 hb hf2 ha hz
            have ihO := ih
            have c2 := c1.fr hf2
            have hn2 := c2.1
            have r2 := r1.fr hf2 (by simp)
            refine a_iload (pc := 40) (i := 4) dX5_missingFrom_40 rfl ?_
            refine a_aload_n (pc := 42) (i := 0) dX5_missingFrom_42 rfl rfl ?_
            refine a_vV1 (pc := 43) (as := []) (b := 66) (ci := 5) (v := .int (nI (sCells s))) (h' := H2) dX5_missingFrom_43 (lc_RX5_172 rfl) ceX5_cells rfl (lt90 hn2 (shK_lt (show shK 66 = _ from rfl))) (s5_cells c2 g r2) rfl rfl (Nat.le_of_ble_eq_true rfl) rfl ?_
            refine n_icmp_ge (pc := 46) (tgt := 63) dX5_missingFrom_46 (by decide) (by omega) (by omega) (fun c46 => ?_) (fun c46 => ?_)
            · skip
              have m2 : MSm H2 s (fun _ => False) W := ⟨fun c hc => by rw [ha c (by omega), bi_f id]; rfl, fun c hc => by rw [(hf2.2.2 80 (by simp)).1]; exact hg c hc⟩
              have hfa : Fr [80, 81] h H2 := hf.trans (hf2.mono (by simp))
              have hp : FPm H2 s Y k k (fun _ => False) W := ⟨⟨c2, g, r2, tk.fr hfa (by simp)⟩, ⟨hk.2, c34⟩, hW, fun b hb => by have := (hW.2 b k hb).1.1; omega, m2⟩
              refine a_iload_n (pc := 63) (i := 2) dX5_missingFrom_63 rfl rfl ?_
              refine a_aload_n (pc := 64) (i := 0) dX5_missingFrom_64 rfl rfl ?_
              refine a_iload_n (pc := 65) (i := 3) dX5_missingFrom_65 rfl rfl ?_
              refine a_yV (pc := 66) (as := [.int (nI k)]) (b := 66) (ci := 5) dX5_missingFrom_66 (lc_RX5_204 rfl) ceX5_gives rfl (lt90 hn2 (shK_lt (show shK 66 = _ from rfl))) (s5_gives (d := d + 5) 48 (by omega) hp) rfl rfl (Nat.le_of_ble_eq_true rfl) FRm_n (fun b1 H3 q2 => ?_)
              obtain ⟨T3, W3, f3, m3, t3, n3⟩ := q2
              have c3 := c2.fr f3
              have hn3 := c3.1
              have hSD : SDs (fun v => v = k ∨ gS s Y fr k v) (Cm s Y) ↔ SS s (fun v => v = k ∨ gS s Y fr k v) Y := SDs_SS g (fun v hv => by rcases hv with rfl | hv; exact c34; have := gS_in hv; omega)
              have hfun : (fun v => v = k ∨ ∃ c, W c = some v) = (fun v => v = k ∨ gS s Y fr k v) := funext fun v => propext (by rw [hw v])
              refine b_if_eq (pc := 69) (tgt := 76) dX5_missingFrom_69 (by decide) (fun c69 => ?_) (fun c69 => ?_)
              · obtain ⟨e3, ft⟩ := n3 c69
                subst e3
                have hng : ¬ gS s Y fr (k + 1) k := fun z => by have z1 := hSD.mpr (gS_top.mp z).2; rw [← hfun] at z1; exact SDs_no hW ft z1
                refine a_iconst (pc := 76) (v := nI 1) dX5_missingFrom_76 (by decide) ?_
                refine n_iadd (pc := 77) dX5_missingFrom_77 ?_
                refine a_istore_n (pc := 78) (i := 2) (ls' := [(0, .ref 66), (1, .int (nI fr)), (2, .int (nI ((cnt (fun i => fr ≤ i ∧ ¬ gS s Y fr (i + 1) i) k) + 1))), (3, .int (nI k)), (4, .int (nI b))]) dX5_missingFrom_78 rfl (by decide) rfl ?_
                refine n_iinc (pc := 79) (k := 1) (ls' := [(0, .ref 66), (1, .int (nI fr)), (2, .int (nI ((cnt (fun i => fr ≤ i ∧ ¬ gS s Y fr (i + 1) i) k) + 1))), (3, .int (nI (k + 1))), (4, .int (nI b))]) dX5_missingFrom_79 rfl (by decide) (by decide) rfl ?_
                refine a_goto (pc := 82) (tgt := 27) dX5_missingFrom_82 (by decide) ?_
                refine a_drop (ls' := [(0, .ref 66), (1, .int (nI fr)), (2, .int (nI ((cnt (fun i => fr ≤ i ∧ ¬ gS s Y fr (i + 1) i) k) + 1))), (3, .int (nI (k + 1)))]) (by simp) ?_
                refine a_locs (ls' := [(0, .ref 66), (1, .int (nI fr)), (2, .int (nI (cnt (fun i => fr ≤ i ∧ ¬ gS s Y fr (i + 1) i) (k + 1)))), (3, .int (nI (k + 1)))]) (by rw [cnt_yes (P := fun i => fr ≤ i ∧ ¬ gS s Y fr (i + 1) i) ⟨hk.1, hng⟩]) ?_
                exact OUT (k + 1) W3 H3 (by omega) (hfa.trans f3) (MW_up hW) (fun v => (hw v).trans ⟨Or.inl, fun z => z.elim id (fun z => absurd (gS_top.mpr z.2) hng)⟩) m3.2 (by omega)
              · obtain ⟨hW3, hh3⟩ := TT_held hW (t3 c69)
                have hyg : gS s Y fr (k + 1) k := gS_top.mpr ⟨hk.1, hSD.mp (by have z1 := SDs_held hW3; rw [show (fun v => ∃ c, W3 c = some v) = (fun v => v = k ∨ gS s Y fr k v) from (funext fun v => propext (hh3 v)).trans hfun] at z1; exact z1)⟩
                refine a_iconst (pc := 72) (v := nI 0) dX5_missingFrom_72 (by decide) ?_
                refine a_goto (pc := 73) (tgt := 77) dX5_missingFrom_73 (by decide) ?_
                refine n_iadd (pc := 77) dX5_missingFrom_77 ?_
                refine a_istore_n (pc := 78) (i := 2) (ls' := [(0, .ref 66), (1, .int (nI fr)), (2, .int (nI ((cnt (fun i => fr ≤ i ∧ ¬ gS s Y fr (i + 1) i) k) + 0))), (3, .int (nI k)), (4, .int (nI b))]) dX5_missingFrom_78 rfl (by decide) rfl ?_
                refine n_iinc (pc := 79) (k := 1) (ls' := [(0, .ref 66), (1, .int (nI fr)), (2, .int (nI ((cnt (fun i => fr ≤ i ∧ ¬ gS s Y fr (i + 1) i) k) + 0))), (3, .int (nI (k + 1))), (4, .int (nI b))]) dX5_missingFrom_79 rfl (by decide) (by decide) rfl ?_
                refine a_goto (pc := 82) (tgt := 27) dX5_missingFrom_82 (by decide) ?_
                refine a_drop (ls' := [(0, .ref 66), (1, .int (nI fr)), (2, .int (nI ((cnt (fun i => fr ≤ i ∧ ¬ gS s Y fr (i + 1) i) k) + 0))), (3, .int (nI (k + 1)))]) (by simp) ?_
                refine a_locs (ls' := [(0, .ref 66), (1, .int (nI fr)), (2, .int (nI (cnt (fun i => fr ≤ i ∧ ¬ gS s Y fr (i + 1) i) (k + 1)))), (3, .int (nI (k + 1)))]) (by rw [cnt_no (P := fun i => fr ≤ i ∧ ¬ gS s Y fr (i + 1) i) (fun z => z.2 hyg)]; rfl) ?_
                exact OUT (k + 1) W3 H3 (by omega) (hfa.trans f3) hW3 (fun v => (hh3 v).trans ⟨fun z => z.elim (fun z => by rw [z]; exact hyg) (fun z => Or.inl ((hw v).mp z)), fun z => z.elim (fun z => Or.inr ((hw v).mpr z)) (fun z => Or.inl z.1)⟩) m3.2 (by omega)
            · skip
              refine a_aload_n (pc := 49) (i := 0) dX5_missingFrom_49 rfl rfl ?_
              refine a_getR (pc := 50) (ci := 5) (k := 16) (b := 81) dX5_missingFrom_50 (lf_RX5_34 rfl) (by decide) rfl rfl (lt90 hn2 (shK_lt (show shK 66 = _ from rfl))) c2.2.2.2.2.2.2.2.2.1.2.2.2.2.2.2.1 ?_
              refine a_iload (pc := 53) (i := 4) dX5_missingFrom_53 rfl ?_
              refine a_iconst (pc := 55) (v := nI 0) dX5_missingFrom_55 (by decide) ?_
              refine a_zast (pc := 56) (j := b) dX5_missingFrom_56 rfl (lt90 hn2 (shK_lt (show shK 81 = _ from rfl))) rfl (by omega) ?_
              refine n_iinc (pc := 57) (k := 1) (ls' := [(0, .ref 66), (1, .int (nI fr)), (2, .int (nI (cnt (fun i => fr ≤ i ∧ ¬ gS s Y fr (i + 1) i) k))), (3, .int (nI k)), (4, .int (nI (b + 1)))]) dX5_missingFrom_57 rfl (by decide) (by decide) rfl ?_
              refine a_goto (pc := 60) (tgt := 40) dX5_missingFrom_60 (by decide) ?_
              exact ih (b + 1) _ (by omega) (hf2.sI (by simp)) (fun j hj => by
                  by_cases e : j = b
                  · rw [rd2 ⟨rfl, e⟩]; rfl
                  · rw [rd1 (Or.inr e)]; exact ha j (by omega)) (by omega)
        exact LR (sCells s + 1) 0 H (Nat.zero_le _) Fr.refl (fun c hc => absurd hc (by omega)) (by omega)
  have LP : ∀ (fu : Nat) (b : Nat) (H : AH), b ≤ sCells s → Fr [80, 81] h H → (∀ c, c < b → hI H 80 c = -1) → sCells s - b < fu → AW X mX5_missingFrom (d + 60) 0 0 4 [(0, .ref 66), (1, .int (nI fr)), (2, .int (nI 0)), (3, .int (nI b))] [] H (Qf [80, 81] (some (.int (nI (nMf s Y fr)))) h (fun h2 => True)) := by
    intro fu
    induction fu with
    | zero => intro b H hb hf ha hz; exact absurd hz (Nat.not_lt_zero _)
    | succ fu ih =>
      intro b H hb hf ha hz
      have c1 := c.fr hf
      have hn1 := c1.1
      have r1 := r.fr hf (by simp)
      refine a_iload_n (pc := 4) (i := 3) dX5_missingFrom_4 rfl rfl ?_
      refine a_aload_n (pc := 5) (i := 0) dX5_missingFrom_5 rfl rfl ?_
      refine a_vV1 (pc := 6) (as := []) (b := 66) (ci := 5) (v := .int (nI (sCells s))) (h' := H) dX5_missingFrom_6 (lc_RX5_172 rfl) ceX5_cells rfl (lt90 hn1 (shK_lt (show shK 66 = _ from rfl))) (s5_cells c1 g r1) rfl rfl (Nat.le_of_ble_eq_true rfl) rfl ?_
      refine n_icmp_ge (pc := 9) (tgt := 25) dX5_missingFrom_9 (by decide) (by omega) (by omega) (fun c9 => ?_) (fun c9 => ?_)
      · skip
        refine a_iload_n (pc := 25) (i := 1) dX5_missingFrom_25 rfl rfl ?_
        refine a_istore_n (pc := 26) (i := 3) (ls' := [(0, .ref 66), (1, .int (nI fr)), (2, .int (nI 0)), (3, .int (nI fr))]) dX5_missingFrom_26 rfl (by decide) rfl ?_
        refine a_locs (ls' := [(0, .ref 66), (1, .int (nI fr)), (2, .int (nI (cnt (fun i => fr ≤ i ∧ ¬ gS s Y fr (i + 1) i) fr))), (3, .int (nI fr))]) (by rw [show cnt (fun i => fr ≤ i ∧ ¬ gS s Y fr (i + 1) i) fr = 0 from cnt_none _ fun i hi z => by have := z.1; omega]) ?_
        exact LQ (sLen s + 1) fr (fun _ => none) H ⟨Nat.le_refl _, hfr⟩ hf ⟨fun _ _ _ h => (by cases h), fun _ _ h => (by cases h)⟩ (fun v => ⟨fun ⟨_, h⟩ => (by cases h), fun z => by have := gS_in z; omega⟩) (fun c hc => ha c (by omega)) (by omega)
      · skip
        refine a_aload_n (pc := 12) (i := 0) dX5_missingFrom_12 rfl rfl ?_
        refine a_getR (pc := 13) (ci := 5) (k := 15) (b := 80) dX5_missingFrom_13 (lf_RX5_31 rfl) (by decide) rfl rfl (lt90 hn1 (shK_lt (show shK 66 = _ from rfl))) c1.2.2.2.2.2.2.2.2.1.2.2.2.2.2.1 ?_
        refine a_iload_n (pc := 16) (i := 3) dX5_missingFrom_16 rfl rfl ?_
        refine a_iconst (pc := 17) (v := (-1)) dX5_missingFrom_17 (by decide) ?_
        refine a_iast (pc := 18) (j := b) dX5_missingFrom_18 rfl (lt90 hn1 (shK_lt (show shK 80 = _ from rfl))) rfl (by omega) ?_
        refine n_iinc (pc := 19) (k := 1) (ls' := [(0, .ref 66), (1, .int (nI fr)), (2, .int (nI 0)), (3, .int (nI (b + 1)))]) dX5_missingFrom_19 rfl (by decide) (by decide) rfl ?_
        refine a_goto (pc := 22) (tgt := 4) dX5_missingFrom_22 (by decide) ?_
        exact ih (b + 1) _ (by omega) (hf.sI (by simp)) (fun j hj => by
            by_cases e : j = b
            · rw [rd2 ⟨rfl, e⟩]
            · rw [rd1 (Or.inr e)]; exact ha j (by omega)) (by omega)
  refine a_iconst (pc := 0) (v := nI 0) dX5_missingFrom_0 (by decide) ?_
  refine a_istore_n (pc := 1) (i := 2) (ls' := [(0, .ref 66), (1, .int (nI fr)), (2, .int (nI 0))]) dX5_missingFrom_1 rfl (by decide) rfl ?_
  refine a_iconst (pc := 2) (v := nI 0) dX5_missingFrom_2 (by decide) ?_
  refine a_istore_n (pc := 3) (i := 3) (ls' := [(0, .ref 66), (1, .int (nI fr)), (2, .int (nI 0)), (3, .int (nI 0))]) dX5_missingFrom_3 rfl (by decide) rfl ?_
  exact LP (sCells s + 1) 0 h (Nat.zero_le _) Fr.refl (fun c hc => absurd hc (by omega)) (by omega)
set_option maxHeartbeats 1500000 in
set_option maxRecDepth 100000 in
theorem s5_missingNow {d : Nat} {h : AH} {s : SH} (c : CB h) (g : GS s) (r : DM h 68 s) : AC mX5_missingNow (d + 61) 0 0 [.ref 66] h (Qf [66, 80, 81] (some (.int (nI (nMiss s)))) h (fun h2 => hI h2 66 = hI h 66)) := by
  have hn := c.1
  have gw := g.1
  have gh := g.2.1
  have gl := g.2.2.2.2.2.1
  have gc := cells48 g
  refine AC.of (by decide) rfl (Nat.le_of_ble_eq_true rfl) (fun X => ?_)
  show AW X mX5_missingNow (d + 61) 0 0 0 [(0, .ref 66)] [] h (Qf [66, 80, 81] (some (.int (nI (nMiss s)))) h (fun h2 => hI h2 66 = hI h 66))
  refine a_aload_n (pc := 0) (i := 0) dX5_missingNow_0 rfl rfl ?_
  refine a_lconst (pc := 1) (v := 0) dX5_missingNow_1 (by decide) ?_
  refine a_putL (pc := 2) (ci := 5) (k := 17) dX5_missingNow_2 (lf_RX5_197 rfl) (by decide) rfl rfl (lt90 hn (shK_lt (show shK 66 = _ from rfl))) rfl ?_
  obtain ⟨H0, hH0⟩ : ∃ Hx, Hx = sL h 66 17 0 := ⟨_, rfl⟩
  have f0 : Fr [66] h H0 := by rw [hH0]; exact Fr.refl.sL (by simp)
  have tk : TKm H0 s noA := by unfold TKm; rw [hH0, hL_sL, if_pos ⟨rfl, rfl⟩]; exact (mkL_eq0.mpr (fun i _ z => z.2)).symm
  have e66 : hI H0 66 = hI h 66 := by rw [hH0]; rfl
  refine a_heap (h' := H0) hH0.symm ?_
  have c0 := c.fr f0
  have hn0 := c0.1
  have r0 := r.fr f0 (by simp)
  refine a_aload_n (pc := 5) (i := 0) dX5_missingNow_5 rfl rfl ?_
  refine a_iconst (pc := 6) (v := nI 0) dX5_missingNow_6 (by decide) ?_
  refine a_wV1 (pc := 7) (as := [.int (nI 0)]) (b := 66) (ci := 5) (v := .int (nI (nMf s noA 0))) dX5_missingNow_7 (lc_RX5_207 rfl) ceX5_missingFrom rfl (lt90 hn0 (shK_lt (show shK 66 = _ from rfl))) (s5_missingFrom (d := d) c0 g r0 tk (Nat.zero_le _)) rfl rfl (Nat.le_of_ble_eq_true rfl) (fun H1 f1 r1 => ?_)
  exact a_ireturn (pc := 10) dX5_missingNow_10 rfl rfl (⟨by rw [nMf_miss g], (f0.mono (by simp)).trans (f1.mono (by simp)), by show hI H1 66 = hI h 66; rw [(f1.2.2 66 (by simp)).1, e66]⟩)
