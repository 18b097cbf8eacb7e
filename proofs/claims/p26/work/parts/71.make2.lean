/-! making: rows with the count of cells named; new T[n][m]; what a maker leaves -/
theorem ltN {h : AH} {a n : Nat} (hn : hN h = n) (ha : a < n) : a < hN h := by rw [hn]; exact ha
section RW71
variable {X : XT} {mt : MT} {d kc ks kc' ks' pc : Nat} {ls ls' : List (Nat × Value)} {st : List Value} {h : AH} {Q : Res → AH → Prop}
theorem b_new {n ci idx : Nat} (hn : hN h = n) (e1 : kc' = kc + 1) (e2 : ks' = ks + nF ci) (hd : decode (mB mt) pc = .ok (.new idx, 3)) (hs : shK n = some (.inl ci)) (hl1 : Cond.classLink (mN mt).cls idx (cR ci) ∈ lw_tb2) (hl2 : Cond.instantiable (cR ci) (nF ci) ∈ lw_tb2) (hl3 : Cond.initialized (cR ci) ∈ lw_tb2) (hok1 : ls.all (fun q => okv n q.2) = true) (hok2 : st.all (okv n) = true)
    (kk : AW X mt d kc ks (pc + 3) ls (.ref n :: st) (nw h) Q) : AW X mt d kc' ks' pc ls st h Q := by
  subst hn e1 e2
  exact a_new hd hs hl1 hl2 hl3 hok1 hok2 kk
theorem b_newarr {N t n : Nat} {at' : ArrayType} {i : Int32} (hn : hN h = N) (e1 : kc' = kc + 1) (e2 : ks' = ks + n) (hd : decode (mB mt) pc = .ok (.newarray at', 2)) (hs : shK N = some (.inr (t, n))) (hat : newarray.typeOf at' = tyF t) (ht : t < 4) (hl1 : Cond.arrayClass (tyF t) ∈ lw_tb2) (hi : i = nI n) (hok1 : ls.all (fun q => okv N q.2) = true) (hok2 : st.all (okv N) = true)
    (kk : AW X mt d kc ks (pc + 2) ls (.ref N :: st) (nw h) Q) : AW X mt d kc' ks' pc ls (.int i :: st) h Q := by
  subst hn e1 e2
  exact a_newarr hd hs hat ht hl1 hi hok1 hok2 kk
theorem b_newref {N n idx : Nat} {i : Int32} (hn : hN h = N) (e1 : kc' = kc + 1) (e2 : ks' = ks + n) (hd : decode (mB mt) pc = .ok (.anewarray idx, 3)) (hs : shK N = some (.inr (4, n))) (hl1 : Cond.classLink (mN mt).cls idx "LetterCuts$Sheet" ∈ lw_tb2) (hi : i = nI n) (hok1 : ls.all (fun q => okv N q.2) = true) (hok2 : st.all (okv N) = true)
    (kk : AW X mt d kc ks (pc + 3) ls (.ref N :: st) (nw h) Q) : AW X mt d kc' ks' pc ls (.int i :: st) h Q := by
  subst hn e1 e2
  exact a_newref hd hs hl1 hi hok1 hok2 kk
theorem hN_nwM {h : AH} {n : Nat} : hN (nwM h n) = hN h + 1 + n := rfl
theorem nwM_row {h : AH} {n b : Nat} (hb : hN h ≤ b ∧ b ≤ hN h + n) : hI (nwM h n) b = (fun _ => 0) ∧ hL (nwM h n) b = (fun _ => 0) := ⟨if_pos hb, if_pos hb⟩
theorem nwM_old {h : AH} {n b : Nat} (hb : b < hN h) : hI (nwM h n) b = hI h b ∧ hL (nwM h n) b = hL h b ∧ hR (nwM h n) b = hR h b := ⟨if_neg (by omega), if_neg (by omega), by
  show (if b = hN h then _ else if hN h < b ∧ b ≤ hN h + n then _ else hR h b) = _
  rw [if_neg (by omega), if_neg (by omega)]⟩
theorem nwM_ref {h : AH} {n : Nat} : hR (nwM h n) (hN h) = fun i => if i < n then some (hN h + 1 + i) else none := if_pos rfl
theorem nwM_in {h : AH} {n b : Nat} (hb : hN h < b ∧ b ≤ hN h + n) : hR (nwM h n) b = fun _ => none := by
  show (if b = hN h then _ else if hN h < b ∧ b ≤ hN h + n then _ else hR h b) = _
  rw [if_neg (by omega), if_pos hb]
theorem hC_low {N : Nat} (h : N ≤ 68) : hC N = List.range N := by
  unfold hC
  rw [dyn_low h, List.append_nil, Nat.min_eq_left h]
theorem wld_extS {cls : Nat → ClassId} {ad ad' : Nat → Nat} {h h' : AH} {new : va_W} (h68 : hN h' ≤ 68) (hn : hN h' = hN h + new.length) (ho : ∀ a, a < hN h → ad' a = ad a ∧ ce cls ad' h' a = ce cls ad h a) (hnew : ∀ i, i < new.length → new[i]? = some (ad' (hN h + i), ce cls ad' h' (hN h + i))) : wld cls ad' h' = wld cls ad h ++ new := by
  have h69 : hN h ≤ 68 := by omega
  unfold wld
  rw [hC_low h68, hC_low h69]
  apply List.ext_getElem?
  intro i
  by_cases hi : i < hN h
  · rw [List.getElem?_append_left (by simp; omega), List.getElem?_map, List.getElem?_map, List.getElem?_range hi, List.getElem?_range (by omega), Option.map_some, Option.map_some, (ho i hi).1, (ho i hi).2]
  · rw [List.getElem?_append_right (by simp; omega), List.length_map, List.length_range]
    by_cases hj : i < hN h'
    · rw [List.getElem?_map, List.getElem?_range hj, hnew (i - hN h) (by omega), show hN h + (i - hN h) = i by omega]
      rfl
    · rw [List.getElem?_eq_none (by simp; omega), List.getElem?_eq_none (by omega)]
theorem wfh_nwM {h : AH} {n : Nat} (h90 : hN h + 1 + n ≤ 68) (hw : wfh h) : wfh (nwM h n) := by
  have hp := fun b => prN_low (N := hN h) (a := b) (by omega)
  have hp2 := fun b => prN_low (N := hN (nwM h n)) (a := b) (by rw [hN_nwM]; omega)
  refine ⟨by rw [hN_nwM, dyn_low (by omega), ← dyn_low (N := hN h) (by omega)]; exact hw.1, fun a j k ha e => ?_⟩
  rw [hp2, hN_nwM] at ha
  rw [hp2, hN_nwM]
  rcases (by omega : a < hN h ∨ a = hN h ∨ (hN h < a ∧ a ≤ hN h + n)) with z | z | z
  · rw [(nwM_old z).2.2] at e
    rcases hw.2 a j k ((hp a).mpr z) e with y | y
    · have := (hp k).mp y
      exact Or.inl (by omega)
    · exact Or.inr y
  · subst z
    rw [nwM_ref] at e
    simp only at e
    split at e
    · cases e; exact Or.inl (by omega)
    · cases e
  · rw [nwM_in z] at e
    cases e
theorem mat_nm : "[" ++ (FieldType.array FieldType.int).toString = "[[I" := by decide +kernel
theorem inner_ok {k : Nat} (c9 : ClassId) : Jvm.Free.Multi.innerC c9 k (defaultValue .int) = vp_cell c9 (k, .inl (fun _ => 0)) := by
  rw [vp_cell_i]
  unfold Jvm.Free.Multi.innerC arrV
  congr 1
  apply Array.ext
  · simp
  · intro i h1 h2
    simp [defaultValue]
theorem b_newmat {N n k idx : Nat} {i j : Int32} (hn : hN h = N) (e1 : kc' = kc + (1 + n)) (e2 : ks' = ks + (n + n * k)) (hd : decode (mB mt) pc = .ok (.multianewarray idx 2, 4)) (hs : shK N = some (.inr (5, n))) (hs2 : ∀ i, i < n → shK (N + 1 + i) = some (.inr (0, k))) (h90 : N + 1 + n ≤ 68) (hk : k ≤ 4096) (hl1 : Cond.classLink (mN mt).cls idx "[[I" ∈ lw_tb2) (hl2 : Cond.arrayClass .int ∈ lw_tb2) (hi : i = nI n) (hj : j = nI k)
    (hok1 : ls.all (fun q => okv N q.2) = true) (hok2 : st.all (okv N) = true) (kk : AW X mt d kc ks (pc + 4) ls (.ref N :: st) (nwM h n) Q) : AW X mt d kc' ks' pc ls (.int j :: .int i :: st) h Q := by
  subst hn e1 e2 hi hj
  intro p l e R s m args below meth c A G cls Z H locs cells slots ad lsA C F D hc hs3 hA
  have hn4 := (shK_len hs).2
  obtain ⟨hx, hb, hml, hown, hw, -, -, -, -, hAs, hK, hE, -, -⟩ := id C
  have en : wld cls ad h ++ va_pl [] (fun _ => ce cls ad h 0) = wld cls ad h := List.append_nil _
  refine va_mna (X := wld cls ad h) (L := []) (f := fun _ => ce cls ad h 0) (ty := .int) (cy := cls 0) (N' := n) (K' := k) (z := (k, .inl (fun _ => 0))) hx hb hown (by rw [mat_nm]; exact hw _ hl1 rfl) hE.2.2.2.1 (hw _ hl2 rfl) (hK.2 0 _ rfl).2 hK (by rw [en]; exact D.1) (by rw [en]; exact D.2.1) D.2.2.1 hAs (nI_pos (by omega)) (nI_pos (by omega)) (nI_clamp (by omega)) (nI_clamp (by omega))
    (Nat.le_trans (Nat.mul_le_mul_right 4 hn4) (by decide)) (Nat.le_trans (Nat.mul_le_mul hk (show componentBytes .int ≤ 8 by decide)) (by decide)) (Nat.le_trans hk (by decide)) rfl rfl (by omega) (by omega) (fun c9 => inner_ok c9) hd (fun q r cA H1 ri _ zK z1 z2 z3 => ?_)
  have hcA : cA = cls 5 := cls_same (t := 5) (tys := tysOf cls) hK zK (tys_at 5 (by omega))
  subst hcA
  obtain ⟨ad', had⟩ : ∃ f : Nat → Nat, f = fun a => if a = hN h then q else if hN h < a ∧ a ≤ hN h + n then r (a - (hN h + 1)) else ad a := ⟨_, rfl⟩
  have hext : ∀ a, (a < hN h ∨ hN h + 1 + n ≤ a) → ad' a = ad a := fun a ha => by rw [had]; simp only; rw [if_neg (by omega), if_neg (by omega)]
  have hq : ad' (hN h) = q := by rw [had]; exact if_pos rfl
  have hr : ∀ i, i < n → ad' (hN h + 1 + i) = r i := fun i hi => by rw [had]; simp only; rw [if_neg (by omega), if_pos (by omega)]; congr 1; omega
  have hext9 : ∀ a, (a < hN h ∨ 90 ≤ a) → ad' a = ad a := fun a ha => hext a (by omega)
  have hwld : wld cls ad' (nwM h n) = wld cls ad h ++ ([(q, .inl (cls 5, n, .inr (.inr (.inr (.inr (fun i => if i < n then some (r i) else none))))))] ++ va_pl ([] ++ (List.range n).map r) (vr_up (fun _ => ce cls ad h 0) ((List.range n).map r) (.inl (cls 0, (k, .inl (fun _ => 0)))))) := by
    refine wld_extS (by rw [hN_nwM]; exact h90) (by rw [hN_nwM]; simp [va_pl]; omega) (fun a ha => ⟨hext a (Or.inl ha), ce_congr (nwM_old ha).1 (nwM_old ha).2.1 (fun j => ?_)⟩) (fun i hi => ?_)
    · rw [(nwM_old ha).2.2]
      cases e : hR h a j with
      | none => rfl
      | some b =>
        simp only [Option.map_some]
        rw [hext b ?_]
        rcases D.2.2.2.1.2 a j b ((prN_low (by omega)).mpr ha) e with y | y
        · exact Or.inl ((prN_low (by omega)).mp y)
        · unfold ext at y
          exact Or.inr (by omega)
    · cases i with
      | zero =>
        rw [Nat.add_zero, hq, ce_arr (kdA_sh hs)]
        have e : aC ad' (nwM h n) (hN h) 5 n = (n, .inr (.inr (.inr (.inr (fun i => if i < n then some (r i) else none))))) := by
          simp only [aC, nwM_ref]
          rw [if_neg (by omega), if_neg (by omega)]
          congr 5
          funext i
          by_cases hi : i < n
          · rw [if_pos hi, if_pos hi, Option.map_some, hr i hi]
          · rw [if_neg hi, if_neg hi]; rfl
        rw [e]; rfl
      | succ i =>
        have hi2 : i < n := by simp [va_pl] at hi; omega
        have hm : r i ∈ (List.range n).map r := List.mem_map.mpr ⟨i, List.mem_range.mpr hi2, rfl⟩
        rw [show hN h + (i + 1) = hN h + 1 + i by omega, hr i hi2, ce_arr (kdA_sh (hs2 i hi2))]
        have e : aC ad' (nwM h n) (hN h + 1 + i) 0 k = (k, .inl (fun _ => 0)) := by simp only [aC, (nwM_row (h := h) (n := n) (b := hN h + 1 + i) (by omega)).1]; rfl
        rw [e]
        simp only [List.singleton_append, List.getElem?_cons_succ, List.nil_append, va_pl, List.getElem?_map, List.getElem?_range hi2, Option.map_some]
        rw [vr_up_in hm]
  have g := kk p l e R s m args below meth c A G cls Z H1 locs (cells + 1 + n) (slots + n + n * k) ad' lsA C (F.lo (n1 := hN (nwM h n)) (by rw [hN_nwM]; exact h90) (by rw [hN_nwM]; omega) (fun a ha => hext a (by rw [hN_nwM] at ha; omega))) ⟨by rw [hwld, ← List.append_assoc]; exact z1, by rw [hwld, ← List.append_assoc]; exact z2, z3, wfh_nwM h90 D.2.2.2.1, adOK_up hext9 D.2.2.2.2⟩ (by omega) (by omega) (by rw [map_okl hext9 hok1]; exact hA)
  rw [List.map_cons, map_okv hext9 hok2] at g
  have e : cv ad' (.ref (hN h)) = .ref q := by simp only [cv, hq]
  rw [e] at g
  exact g
end RW71
/-- the cells below k stand as they did -/
def Sb (k : Nat) (h h2 : AH) : Prop := ∀ a, a < k → hI h2 a = hI h a ∧ hL h2 a = hL h a ∧ hR h2 a = hR h a
theorem Sb.refl {k : Nat} {h : AH} : Sb k h h := fun _ _ => ⟨rfl, rfl, rfl⟩
theorem Sb.trans {k : Nat} {h h2 h3 : AH} (f : Sb k h h2) (g : Sb k h2 h3) : Sb k h h3 := fun a ha => ⟨(g a ha).1.trans (f a ha).1, (g a ha).2.1.trans (f a ha).2.1, (g a ha).2.2.trans (f a ha).2.2⟩
theorem Sb.mono {k k' : Nat} {h h2 : AH} (f : Sb k h h2) (hk : k' ≤ k) : Sb k' h h2 := fun a ha => f a (by omega)
theorem Sb.nw {h : AH} {k n : Nat} (hn : hN h = n) (hk : k ≤ n) : Sb k h (nw h) := fun a ha => by
  have hne : a ≠ hN h := by omega
  exact ⟨upr_row hne, upr_row hne, upr_row hne⟩
theorem Sb.nwM {h : AH} {k n m : Nat} (hn : hN h = n) (hk : k ≤ n) : Sb k h (nwM h m) := fun a ha => nwM_old (by omega)
theorem Sb.sR {h : AH} {k a j : Nat} {x : Option Nat} (ha : k ≤ a) : Sb k h (sR h a j x) := fun b hb => ⟨rfl, rfl, up2_row (by omega)⟩
theorem Sb.sI {h : AH} {k a j : Nat} {x : Int32} (ha : k ≤ a) : Sb k h (sI h a j x) := fun b hb => ⟨up2_row (by omega), rfl, rfl⟩
/-- n cells, these refs and these ints among them -/
def BD (n : Nat) (rs : List (Nat × Nat × Nat)) (h : AH) : Prop := hN h = n ∧ ∀ q ∈ rs, hR h q.1 q.2.1 = some q.2.2
theorem BD.nil {n : Nat} {h : AH} (hn : hN h = n) : BD n [] h := ⟨hn, fun q hq => absurd hq (by simp)⟩
theorem BD.keep {n m : Nat} {rs : List (Nat × Nat × Nat)} {h h2 : AH} (b : BD n rs h) {k : Nat} (s : Sb k h h2) (hm : hN h2 = m) (hk : ∀ q ∈ rs, q.1 < k) : BD m rs h2 := ⟨hm, fun q hq => by rw [(s q.1 (hk q hq)).2.2]; exact b.2 q hq⟩
theorem BD.sR {n : Nat} {rs : List (Nat × Nat × Nat)} {h : AH} (b : BD n rs h) {a j x : Nat} (hk : ∀ q ∈ rs, ¬ (q.1 = a ∧ q.2.1 = j)) : BD n ((a, j, x) :: rs) (sR h a j (some x)) := ⟨b.1, fun q hq => by
  rcases List.mem_cons.mp hq with rfl | hq
  · rw [hR_sR]; exact if_pos ⟨rfl, rfl⟩
  · rw [hR_sR, if_neg (hk q hq)]; exact b.2 q hq⟩
theorem BD.app {n m : Nat} {rs rs2 : List (Nat × Nat × Nat)} {h : AH} (b : BD n rs h) (b2 : BD m rs2 h) : BD m (rs2 ++ rs) h := ⟨b2.1, fun q hq => (List.mem_append.mp hq).elim (b2.2 q) (b.2 q)⟩
theorem BD.sI {n : Nat} {rs : List (Nat × Nat × Nat)} {h : AH} (b : BD n rs h) {a j : Nat} {x : Int32} : BD n rs (sI h a j x) := b
/-- the end of a maker of the cell k: m cells, these refs, and R -/
def Qc (k m : Nat) (rs : List (Nat × Nat × Nat)) (h : AH) (R : AH → Prop) : Res → AH → Prop := fun r h2 => r = .inl none ∧ BD m rs h2 ∧ Sb k h h2 ∧ R h2
theorem CR.sb {h h2 : AH} {k K : Nat} {s : SH} (r : CR h k s) (f : Sb K h h2) (hk : k + 4 ≤ K) : CR h2 k s := by
  unfold CR at r ⊢
  rw [(f k (by omega)).1, (f k (by omega)).2.1, (f (k + 1) (by omega)).1, (f (k + 2) (by omega)).1, (f (k + 3) (by omega)).1]
  exact r
theorem aC_in : Cond.arrayClass (tyF 0) ∈ lw_tb2 ∧ Cond.arrayClass (tyF 1) ∈ lw_tb2 ∧ Cond.arrayClass (tyF 2) ∈ lw_tb2 ∧ Cond.arrayClass (tyF 3) ∈ lw_tb2 := by decide +kernel
