/-! rows of AW: fields and arrays -/
theorem cls_cases {P : Nat → Prop} (h0 : P 0) (h1 : P 1) (h2 : P 2) (h3 : P 3) (h4 : P 4) (h5 : P 5) : ∀ ci, ci < 6 → P ci := by
  intro ci h
  match ci, h with
  | 0, _ => exact h0
  | 1, _ => exact h1
  | 2, _ => exact h2
  | 3, _ => exact h3
  | 4, _ => exact h4
  | 5, _ => exact h5
theorem uws_ok : ∀ ci, ci < 6 → ∀ w ∈ u_ws (cR ci) (cT ci) (nF ci), w ∈ lw_tbl ∧ goodWord w = true := cls_cases (by decide +kernel) (by decide +kernel) (by decide +kernel) (by decide +kernel) (by decide +kernel) (by decide +kernel)
theorem tyc_ok : ∀ ci, ci < 6 → ∀ k, k < nF ci → parseFieldDescriptor (cT ci k).2.2.1 = some (fT ci k) := cls_cases tyX0_ok tyX1_ok tyX2_ok tyX3_ok tyX4_ok tyX5_ok
theorem nmc_ok : ∀ ci, ci < 6 → ∀ a, a < nF ci → ∀ b, b < nF ci → a ≠ b → (cT ci a).2.1 ≠ (cT ci b).2.1 := cls_cases nmX0 nmX1 nmX2 nmX3 nmX4 nmX5
theorem shK_len {a t n : Nat} (hs : shK a = some (.inr (t, n))) : t < 6 ∧ n ≤ 4096 := by
  have hm : (Sum.inr (t, n) : Nat ⊕ (Nat × Nat)) ∈ shL := List.mem_of_getElem? hs
  have h : ∀ x ∈ shL, ∀ t n, x = .inr (t, n) → t < 6 ∧ n ≤ 4096 := by
    have h1 : shL.all (fun x => match x with | .inl _ => true | .inr (t, n) => decide (t < 6) && decide (n ≤ 4096)) = true := by decide +kernel
    intro x hx t n e
    have h2 := List.all_eq_true.mp h1 x hx
    subst e
    simpa using h2
  exact h _ hm t n rfl
theorem shK_lt {a : Nat} {k : Nat ⊕ (Nat × Nat)} (hs : shK a = some k) : a < 90 := by
  have := (List.getElem?_eq_some_iff.mp hs).1
  simpa [shL] using this
/-- the link of a field that a method reads or writes: plain, or of a nest mate -/
def FL (mt : MT) (idx ci k : Nat) : Prop := (Cond.fieldLink (mN mt).cls idx (cT ci k).1 (cT ci k).2.1 (cT ci k).2.2.1 ∈ lw_tbl) ∨ ∃ host, Cond.fieldLinkNest (mN mt).cls idx (cT ci k).1 (cT ci k).2.1 (cT ci k).2.2.1 host ∈ tables_1
theorem fs_get {f : Nat → Value} {n k : Nat} (hk : k < n) : ((List.range n).map f)[k]? = some (f k) := by simp [hk]
theorem nI_i {j n : Nat} (hj : j < n) (hn : n ≤ 4096) : vp_in (nI j) n ∧ (nI j).toNatClampNeg = j := ⟨vp_in_nI hj (by omega), nI_clamp (by omega)⟩
section RW7
variable {X : XT} {mt : MT} {d kc ks pc : Nat} {ls ls' : List (Nat × Value)} {st : List Value} {h : AH} {Q : Res → AH → Prop}
theorem a_get {a ci k idx : Nat} {v : Value} (hd : decode (mB mt) pc = .ok (.getfield idx, 3)) (hf : FL mt idx ci k) (hk : k < nF ci) (hs : shK a = some (.inl ci)) (ha : a < hN h) (hv : ∀ ad, fv ad h a ci k = cv ad v) (kk : AW X mt d kc ks (pc + 3) ls (v :: st) h Q) : AW X mt d kc ks pc ls (.ref a :: st) h Q := by
  intro p l e R s m args below meth c A G cls Z H locs cells slots ad lsA C F D hc hs2 hA
  have hci := shK_ci hs
  have g := kk p l e R s m args below meth c A G cls Z H locs cells slots ad lsA C F D hc hs2 hA
  obtain ⟨hx, hb, hml, hown, hw, -, -, -, -, -, hK, hE, -, -⟩ := id C
  have hget : (wld cls ad h)[a]? = some (ad a, .inr (ci, (List.range (nF ci)).map (fv ad h a ci))) := by rw [wld_get ha, ce_obj hs]
  have hval : ((List.range (nF ci)).map (fv ad h a ci))[k]? = some (cv ad v) := by rw [fs_get hk, hv]
  rcases hf with hf | ⟨host, hf⟩
  · exact va_get (C := cR ci) (T := cT ci) (N := nF ci) (Ts := u_ws (cR ci) (cT ci) (nF ci)) hx hb (fun w q => hw w (uws_ok ci hci w q).1 (uws_ok ci hci w q).2) (fun _ q => q) hown hK D.1 a hget (vwCl_at hci) k hk (hw _ hf rfl) (fun _ q => q) hval hd g
  · exact va_getN (C := cR ci) (T := cT ci) (N := nF ci) (Ts := u_ws (cR ci) (cT ci) (nF ci)) hx hb (fun w q => hw w (uws_ok ci hci w q).1 (uws_ok ci hci w q).2) (fun _ q => q) hown hK D.1 a hget (vwCl_at hci) k hk (va_Nw.use rfl (hE.1 _ hf rfl)) (fun _ q => q) hval hd g
theorem a_getI {a ci k idx : Nat} (hd : decode (mB mt) pc = .ok (.getfield idx, 3)) (hf : FL mt idx ci k) (hk : k < nF ci) (ht : fK ci k = 0) (hs : shK a = some (.inl ci)) (ha : a < hN h) (kk : AW X mt d kc ks (pc + 3) ls (.int (hI h a k) :: st) h Q) : AW X mt d kc ks pc ls (.ref a :: st) h Q :=
  a_get hd hf hk hs ha (fun ad => by simp [fv, ht, cv]) kk
theorem a_getL {a ci k idx : Nat} (hd : decode (mB mt) pc = .ok (.getfield idx, 3)) (hf : FL mt idx ci k) (hk : k < nF ci) (ht : fK ci k = 1) (hs : shK a = some (.inl ci)) (ha : a < hN h) (kk : AW X mt d kc ks (pc + 3) ls (.long (hL h a k) :: st) h Q) : AW X mt d kc ks pc ls (.ref a :: st) h Q :=
  a_get hd hf hk hs ha (fun ad => by simp [fv, ht, cv]) kk
theorem a_getR {a ci k idx b : Nat} (hd : decode (mB mt) pc = .ok (.getfield idx, 3)) (hf : FL mt idx ci k) (hk : k < nF ci) (ht : fK ci k = 2) (hs : shK a = some (.inl ci)) (ha : a < hN h) (hr : hR h a k = some b) (kk : AW X mt d kc ks (pc + 3) ls (.ref b :: st) h Q) : AW X mt d kc ks pc ls (.ref a :: st) h Q :=
  a_get hd hf hk hs ha (fun ad => by simp [fv, ht, cv, hr, va_rf]) kk
theorem a_put {a ci k idx : Nat} {v : Value} {h' : AH} (hd : decode (mB mt) pc = .ok (.putfield idx, 3)) (hf : FL mt idx ci k) (hk : k < nF ci) (hs : shK a = some (.inl ci)) (ha : a < hN h) (hfin : (cT ci k).2.2.2 = false ∨ ((cT ci k).2.2.2 = true ∧ (mN mt).name = "<init>" ∧ (cT ci k).1 = (mN mt).cls ∧ Cond.fieldLink (mN mt).cls idx (cT ci k).1 (cT ci k).2.1 (cT ci k).2.2.1 ∈ lw_tbl))
    (hn : ∀ ad, narrow (fT ci k) (cv ad v) = cv ad v) (hfit : ∀ ad, fits (fT ci k) (cv ad v) = true) (eN : hN h' = hN h) (ho : ∀ b, b ≠ a → hI h' b = hI h b ∧ hL h' b = hL h b ∧ hR h' b = hR h b) (hv : ∀ ad, (fun j => if j = k then cv ad v else fv ad h a ci j) = fv ad h' a ci) (hw' : wfh h → wfh h')
    (kk : AW X mt d kc ks (pc + 3) ls st h' Q) : AW X mt d kc ks pc ls (v :: .ref a :: st) h Q := by
  intro p l e R s m args below meth c A G cls Z H locs cells slots ad lsA C F D hc hs2 hA
  have hci := shK_ci hs
  obtain ⟨hx, hb, hml, hown, hw, -, -, -, hnm, -, hK, hE, -, -⟩ := id C
  have hget : (wld cls ad h)[a]? = some (ad a, .inr (ci, (List.range (nF ci)).map (fv ad h a ci))) := by rw [wld_get ha, ce_obj hs]
  have hset : (wld cls ad h).set a (ad a, .inr (ci, ((List.range (nF ci)).map (fv ad h a ci)).set k (cv ad v))) = wld cls ad h' := by
    refine wld_set eN (fun b q => ce_congr (ho b q).1 (ho b q).2.1 (fun j => by rw [(ho b q).2.2])) ?_ ha
    rw [ce_obj hs, range_set hk, hv]
  have hl : k < ((List.range (nF ci)).map (fv ad h a ci)).length := by simp [hk]
  have go : ∀ (H1 : Heap) (locs1 : List Loc), va_P G vwCl ((wld cls ad h).set a (ad a, .inr (ci, ((List.range (nF ci)).map (fv ad h a ci)).set k (cv ad v)))) H1 → va_D A ((wld cls ad h).set a (ad a, .inr (ci, ((List.range (nF ci)).map (fv ad h a ci)).set k (cv ad v)))) → va_S A s.heap H1 locs1 →
      W p l e R s m args below meth c H1 locs1 cells slots Z (F0 m (pc + 3) lsA (st.map (cv ad))) := by
    intro H1 locs1 q1 q2 q3
    rw [hset] at q1 q2
    exact kk p l e R s m args below meth c A G cls Z H1 locs1 cells slots ad lsA C (eN ▸ F) ⟨q1, q2, q3, hw' D.2.2.2.1, D.2.2.2.2⟩ hc hs2 hA
  have ht := fun w q => hw w (uws_ok ci hci w q).1 (uws_ok ci hci w q).2
  rcases hfin with hfin | ⟨hfin, hi, ho2, hf⟩
  · rcases hf with hf | ⟨host, hf⟩
    · exact va_put (C := cR ci) (T := cT ci) (N := nF ci) (Ts := u_ws (cR ci) (cT ci) (nF ci)) hx hb ht (fun _ q => q) (fT ci) (tyc_ok ci hci) (nmc_ok ci hci) hown hK D.1 D.2.1 D.2.2.1 a hget (vwCl_at hci) k hk (hw _ hf rfl) (fun _ q => q) hfin (tyc_ok ci hci k hk) (hn ad) (hfit ad) hl hd go
    · exact va_putN (C := cR ci) (T := cT ci) (N := nF ci) (Ts := u_ws (cR ci) (cT ci) (nF ci)) hx hb ht (fun _ q => q) (fT ci) (tyc_ok ci hci) (nmc_ok ci hci) hown hK D.1 D.2.1 D.2.2.1 a hget (vwCl_at hci) k hk (va_Nw.use rfl (hE.1 _ hf rfl)) (fun _ q => q) hfin (tyc_ok ci hci k hk) (hn ad) (hfit ad) hl hd go
  · exact va_putF (C := cR ci) (T := cT ci) (N := nF ci) (Ts := u_ws (cR ci) (cT ci) (nF ci)) hx hb ht (fun _ q => q) (fT ci) (tyc_ok ci hci) (nmc_ok ci hci) hown hK D.1 D.2.1 D.2.2.1 a hget (vwCl_at hci) k hk (hw _ hf rfl) (fun _ q => q) hfin (hnm.trans hi) ho2 (tyc_ok ci hci k hk) (hn ad) (hfit ad) hl hd go
theorem wfh_sI {h : AH} {a j : Nat} {x : Int32} : wfh h → wfh (sI h a j x) := fun w => w
theorem wfh_sL {h : AH} {a j : Nat} {x : Int64} : wfh h → wfh (sL h a j x) := fun w => w
theorem wfh_rI {h : AH} {a : Nat} {g : Nat → Int32} : wfh h → wfh (rI h a g) := fun w => w
theorem wfh_sR {h : AH} {a j b : Nat} (hb : b < hN h) : wfh h → wfh (sR h a j (some b)) := fun w => ⟨w.1, fun a' j' k' h1 h2 => by
  rw [hR_sR] at h2
  by_cases e : a' = a ∧ j' = j
  · rw [if_pos e] at h2
    cases h2
    exact hb
  · rw [if_neg e] at h2
    exact w.2 a' j' k' h1 h2⟩
theorem a_putI {a ci k idx : Nat} {x : Int32} (hd : decode (mB mt) pc = .ok (.putfield idx, 3)) (hf : FL mt idx ci k) (hk : k < nF ci) (ht : fT ci k = .int ∨ (fT ci k = .boolean ∧ (x = 0 ∨ x = 1))) (hs : shK a = some (.inl ci)) (ha : a < hN h) (hfin : (cT ci k).2.2.2 = false) (kk : AW X mt d kc ks (pc + 3) ls st (sI h a k x) Q) : AW X mt d kc ks pc ls (.int x :: .ref a :: st) h Q := by
  have hk0 : fK ci k = 0 := by rcases ht with e | ⟨e, -⟩ <;> simp [fK, kT, e]
  refine a_put hd hf hk hs ha (Or.inl hfin) (fun ad => ?_) (fun ad => ?_) hN_sI (fun b q => ⟨up2_row q, rfl, rfl⟩) (fun ad => ?_) wfh_sI kk
  · rcases ht with e | ⟨e, e2⟩
    · rw [e]; rfl
    · rw [e]; rcases e2 with rfl | rfl <;> rfl
  · rcases ht with e | ⟨e, e2⟩
    · rw [e]; rfl
    · rw [e]; rcases e2 with rfl | rfl <;> rfl
  · funext j
    by_cases e : j = k
    · subst e
      simp [fv, hk0, hI_sI, cv]
    · simp [fv, hI_sI, e, hL_sI, hR_sI]
theorem a_putL {a ci k idx : Nat} {x : Int64} (hd : decode (mB mt) pc = .ok (.putfield idx, 3)) (hf : FL mt idx ci k) (hk : k < nF ci) (ht : fT ci k = .long) (hs : shK a = some (.inl ci)) (ha : a < hN h) (hfin : (cT ci k).2.2.2 = false) (kk : AW X mt d kc ks (pc + 3) ls st (sL h a k x) Q) : AW X mt d kc ks pc ls (.long x :: .ref a :: st) h Q := by
  have hk0 : fK ci k = 1 := by simp [fK, kT, ht]
  refine a_put hd hf hk hs ha (Or.inl hfin) (fun ad => by rw [ht]; rfl) (fun ad => by rw [ht]; rfl) hN_sL (fun b q => ⟨rfl, up2_row q, rfl⟩) (fun ad => ?_) wfh_sL kk
  funext j
  by_cases e : j = k
  · subst e
    simp [fv, hk0, hL_sL, cv]
  · simp [fv, hL_sL, e, hI_sL, hR_sL]
theorem a_putRF {a ci k idx b : Nat} (hd : decode (mB mt) pc = .ok (.putfield idx, 3)) (hf : Cond.fieldLink (mN mt).cls idx (cT ci k).1 (cT ci k).2.1 (cT ci k).2.2.1 ∈ lw_tbl) (hk : k < nF ci) (ht : fK ci k = 2) (hs : shK a = some (.inl ci)) (ha : a < hN h) (hb : b < hN h) (hfin : (cT ci k).2.2.2 = true) (hi : (mN mt).name = "<init>") (ho : (cT ci k).1 = (mN mt).cls) (kk : AW X mt d kc ks (pc + 3) ls st (sR h a k (some b)) Q) : AW X mt d kc ks pc ls (.ref b :: .ref a :: st) h Q := by
  have hty : (∃ s, fT ci k = .object s) ∨ ∃ s, fT ci k = .array s := by
    cases e : fT ci k <;> simp [fK, kT, e] at ht ⊢
  refine a_put hd (Or.inl hf) hk hs ha (Or.inr ⟨hfin, hi, ho, hf⟩) (fun ad => ?_) (fun ad => ?_) hN_sR (fun b q => ⟨rfl, rfl, up2_row q⟩) (fun ad => ?_) (wfh_sR hb) kk
  · rcases hty with ⟨s, e⟩ | ⟨s, e⟩ <;> rw [e] <;> rfl
  · rcases hty with ⟨s, e⟩ | ⟨s, e⟩ <;> rw [e] <;> rfl
  · funext j
    by_cases e : j = k
    · subst e
      simp [fv, ht, hR_sR, cv, va_rf]
    · simp [fv, hR_sR, e, hI_sR, hL_sR]
-- arrays
theorem a_iald {a n j : Nat} {i : Int32} (hd : decode (mB mt) pc = .ok (.iaload, 1)) (hs : shK a = some (.inr (0, n))) (ha : a < hN h) (hi : i = nI j) (hj : j < n) (kk : AW X mt d kc ks (pc + 1) ls (.int (hI h a j) :: st) h Q) : AW X mt d kc ks pc ls (.int i :: .ref a :: st) h Q := by
  subst hi
  intro p l e R s m args below meth c A G cls Z H locs cells slots ad lsA C F D hc hs2 hA
  have g := kk p l e R s m args below meth c A G cls Z H locs cells slots ad lsA C F D hc hs2 hA
  obtain ⟨q1, q2⟩ := nI_i hj (shK_len hs).2
  exact va_iald C.1 C.2.1 C.2.2.2.2.2.2.2.2.2.2.1 D.1 a 0 (f := hI h a) (by rw [wld_get ha, ce_arr hs]; rfl) rfl q1 hd (by rw [q2]; exact g)
theorem a_bald {a n j : Nat} {i : Int32} (hd : decode (mB mt) pc = .ok (.baload, 1)) (hs : shK a = some (.inr (1, n))) (ha : a < hN h) (hi : i = nI j) (hj : j < n) (kk : AW X mt d kc ks (pc + 1) ls (.int (hI h a j) :: st) h Q) : AW X mt d kc ks pc ls (.int i :: .ref a :: st) h Q := by
  subst hi
  intro p l e R s m args below meth c A G cls Z H locs cells slots ad lsA C F D hc hs2 hA
  have g := kk p l e R s m args below meth c A G cls Z H locs cells slots ad lsA C F D hc hs2 hA
  obtain ⟨q1, q2⟩ := nI_i hj (shK_len hs).2
  exact va_bald C.1 C.2.1 C.2.2.2.2.2.2.2.2.2.2.1 D.1 a 1 (f := hI h a) (by rw [wld_get ha, ce_arr hs]; rfl) rfl q1 hd (by rw [q2]; exact g)
theorem a_zald {a n j : Nat} {i : Int32} (hd : decode (mB mt) pc = .ok (.baload, 1)) (hs : shK a = some (.inr (2, n))) (ha : a < hN h) (hi : i = nI j) (hj : j < n) (kk : AW X mt d kc ks (pc + 1) ls (.int (hI h a j) :: st) h Q) : AW X mt d kc ks pc ls (.int i :: .ref a :: st) h Q := by
  subst hi
  intro p l e R s m args below meth c A G cls Z H locs cells slots ad lsA C F D hc hs2 hA
  have g := kk p l e R s m args below meth c A G cls Z H locs cells slots ad lsA C F D hc hs2 hA
  obtain ⟨q1, q2⟩ := nI_i hj (shK_len hs).2
  exact va_zald C.1 C.2.1 C.2.2.2.2.2.2.2.2.2.2.1 D.1 a 2 (f := hI h a) (by rw [wld_get ha, ce_arr hs]; rfl) rfl q1 hd (by rw [q2]; exact g)
theorem a_lald {a n j : Nat} {i : Int32} (hd : decode (mB mt) pc = .ok (.laload, 1)) (hs : shK a = some (.inr (3, n))) (ha : a < hN h) (hi : i = nI j) (hj : j < n) (kk : AW X mt d kc ks (pc + 1) ls (.long (hL h a j) :: st) h Q) : AW X mt d kc ks pc ls (.int i :: .ref a :: st) h Q := by
  subst hi
  intro p l e R s m args below meth c A G cls Z H locs cells slots ad lsA C F D hc hs2 hA
  have g := kk p l e R s m args below meth c A G cls Z H locs cells slots ad lsA C F D hc hs2 hA
  obtain ⟨q1, q2⟩ := nI_i hj (shK_len hs).2
  exact va_lald C.1 C.2.1 C.2.2.2.2.2.2.2.2.2.2.1 D.1 a 3 (f := hL h a) (by rw [wld_get ha, ce_arr hs]; rfl) rfl q1 hd (by rw [q2]; exact g)
theorem a_aald {a n j b : Nat} {i : Int32} (hd : decode (mB mt) pc = .ok (.aaload, 1)) (hs : shK a = some (.inr (4, n))) (ha : a < hN h) (hi : i = nI j) (hj : j < n) (hr : hR h a j = some b) (kk : AW X mt d kc ks (pc + 1) ls (.ref b :: st) h Q) : AW X mt d kc ks pc ls (.int i :: .ref a :: st) h Q := by
  subst hi
  intro p l e R s m args below meth c A G cls Z H locs cells slots ad lsA C F D hc hs2 hA
  have g := kk p l e R s m args below meth c A G cls Z H locs cells slots ad lsA C F D hc hs2 hA
  obtain ⟨q1, q2⟩ := nI_i hj (shK_len hs).2
  exact va_aldq C.1 C.2.1 C.2.2.2.2.2.2.2.2.2.2.1 D.1 a 4 (f := fun j => (hR h a j).map ad) (by rw [wld_get ha, ce_arr hs]; rfl) rfl q1 hd (by rw [q2, hr]; exact g)
theorem a_rald {a n j b : Nat} {i : Int32} (hd : decode (mB mt) pc = .ok (.aaload, 1)) (hs : shK a = some (.inr (5, n))) (ha : a < hN h) (hi : i = nI j) (hj : j < n) (hr : hR h a j = some b) (kk : AW X mt d kc ks (pc + 1) ls (.ref b :: st) h Q) : AW X mt d kc ks pc ls (.int i :: .ref a :: st) h Q := by
  subst hi
  intro p l e R s m args below meth c A G cls Z H locs cells slots ad lsA C F D hc hs2 hA
  have g := kk p l e R s m args below meth c A G cls Z H locs cells slots ad lsA C F D hc hs2 hA
  obtain ⟨q1, q2⟩ := nI_i hj (shK_len hs).2
  have hget : (wld cls ad h)[a]? = some (ad a, .inl (cls 5, n, .inr (.inr (.inr (.inr (fun j => (hR h a j).map ad)))))) := by rw [wld_get ha, ce_arr hs]; rfl
  have hcell : H[ad a]? = some (vp_cell (cls 5) (n, .inr (.inr (.inr (.inr (fun j => (hR h a j).map ad)))))) := D.1 a _ hget
  have hK := C.2.2.2.2.2.2.2.2.2.2.1
  have hAr : ArrOfT s (cls 5) (.array .int) := (hK.2 5 (cls 5, .array .int) rfl).1
  rw [vp_cell_q] at hcell
  have q2' : (nI j).toNatClampNeg = j := q2
  exact W.aald (ty := .array .int) (v := .ref (ad b)) C.1 C.2.1 hcell (hAr n (fun j => va_rf ((hR h a j).map ad))) rfl (fun q => by cases q) (by rw [arrV_size]; exact q1) (by rw [q2']; simp [arrV, hj, hr, va_rf]) rfl rfl hd g
theorem a_alen {a t n : Nat} (hd : decode (mB mt) pc = .ok (.arraylength, 1)) (hs : shK a = some (.inr (t, n))) (ha : a < hN h) (kk : AW X mt d kc ks (pc + 1) ls (.int (nI n) :: st) h Q) : AW X mt d kc ks pc ls (.ref a :: st) h Q := by
  intro p l e R s m args below meth c A G cls Z H locs cells slots ad lsA C F D hc hs2 hA
  have g := kk p l e R s m args below meth c A G cls Z H locs cells slots ad lsA C F D hc hs2 hA
  have hK := C.2.2.2.2.2.2.2.2.2.2.1
  have ht : ∃ ty, (tysOf cls)[t]? = some (cls t, ty) := by
    have := (shK_len hs).1
    match t, this with
    | 0, _ => exact ⟨_, rfl⟩
    | 1, _ => exact ⟨_, rfl⟩
    | 2, _ => exact ⟨_, rfl⟩
    | 3, _ => exact ⟨_, rfl⟩
    | 4, _ => exact ⟨_, rfl⟩
    | 5, _ => exact ⟨_, rfl⟩
  obtain ⟨ty, ht⟩ := ht
  exact va_alen C.1 C.2.1 hK D.1 a t (x := aC ad h a t n) (by rw [wld_get ha, ce_arr hs]) ht rfl hd g
theorem a_iast {a n j : Nat} {i x : Int32} (hd : decode (mB mt) pc = .ok (.iastore, 1)) (hs : shK a = some (.inr (0, n))) (ha : a < hN h) (hi : i = nI j) (hj : j < n) (kk : AW X mt d kc ks (pc + 1) ls st (sI h a j x) Q) : AW X mt d kc ks pc ls (.int x :: .int i :: .ref a :: st) h Q := by
  subst hi
  intro p l e R s m args below meth c A G cls Z H locs cells slots ad lsA C F D hc hs2 hA
  obtain ⟨q1, q2⟩ := nI_i hj (shK_len hs).2
  have hset : (wld cls ad h).set a (ad a, .inl (cls 0, n, .inl (upd (hI h a) j x))) = wld cls ad (sI h a j x) := by
    refine wld_set hN_sI (fun b q => ce_congr (up2_row q) rfl (fun _ => rfl)) ?_ ha
    rw [ce_arr hs]
    have e : hI (sI h a j x) a = upd (hI h a) j x := funext fun k => by rw [hI_sI]; simp [upd]
    simp [aC, e]
  refine va_iast C.1 C.2.1 C.2.2.2.2.2.2.2.2.2.2.1 D.1 D.2.1 D.2.2.1 a 0 (f := hI h a) (by rw [wld_get ha, ce_arr hs]; rfl) rfl q1 hd (fun H1 locs1 z1 z2 z3 => ?_)
  rw [q2, hset] at z1 z2
  exact kk p l e R s m args below meth c A G cls Z H1 locs1 cells slots ad lsA C F ⟨z1, z2, z3, wfh_sI D.2.2.2.1, D.2.2.2.2⟩ hc hs2 hA
theorem a_bast {a n j : Nat} {i x : Int32} (hd : decode (mB mt) pc = .ok (.bastore, 1)) (hs : shK a = some (.inr (1, n))) (ha : a < hN h) (hi : i = nI j) (hj : j < n) (kk : AW X mt d kc ks (pc + 1) ls st (sI h a j x.toInt8.toInt32) Q) : AW X mt d kc ks pc ls (.int x :: .int i :: .ref a :: st) h Q := by
  subst hi
  intro p l e R s m args below meth c A G cls Z H locs cells slots ad lsA C F D hc hs2 hA
  obtain ⟨q1, q2⟩ := nI_i hj (shK_len hs).2
  have hset : (wld cls ad h).set a (ad a, .inl (cls 1, n, .inl (upd (hI h a) j x.toInt8.toInt32))) = wld cls ad (sI h a j x.toInt8.toInt32) := by
    refine wld_set hN_sI (fun b q => ce_congr (up2_row q) rfl (fun _ => rfl)) ?_ ha
    rw [ce_arr hs]
    have e : hI (sI h a j x.toInt8.toInt32) a = upd (hI h a) j x.toInt8.toInt32 := funext fun k => by rw [hI_sI]; simp [upd]
    simp [aC, e]
  refine va_bast C.1 C.2.1 C.2.2.2.2.2.2.2.2.2.2.1 D.1 D.2.1 D.2.2.1 a 1 (f := hI h a) (by rw [wld_get ha, ce_arr hs]; rfl) rfl q1 hd (fun H1 locs1 z1 z2 z3 => ?_)
  rw [q2, show vp_nar .byte x = x.toInt8.toInt32 from rfl, hset] at z1 z2
  exact kk p l e R s m args below meth c A G cls Z H1 locs1 cells slots ad lsA C F ⟨z1, z2, z3, wfh_sI D.2.2.2.1, D.2.2.2.2⟩ hc hs2 hA
theorem a_zast {a n j : Nat} {i x : Int32} (hd : decode (mB mt) pc = .ok (.bastore, 1)) (hs : shK a = some (.inr (2, n))) (ha : a < hN h) (hi : i = nI j) (hj : j < n) (kk : AW X mt d kc ks (pc + 1) ls st (sI h a j (x &&& 1)) Q) : AW X mt d kc ks pc ls (.int x :: .int i :: .ref a :: st) h Q := by
  subst hi
  intro p l e R s m args below meth c A G cls Z H locs cells slots ad lsA C F D hc hs2 hA
  obtain ⟨q1, q2⟩ := nI_i hj (shK_len hs).2
  have hset : (wld cls ad h).set a (ad a, .inl (cls 2, n, .inl (upd (hI h a) j (x &&& 1)))) = wld cls ad (sI h a j (x &&& 1)) := by
    refine wld_set hN_sI (fun b q => ce_congr (up2_row q) rfl (fun _ => rfl)) ?_ ha
    rw [ce_arr hs]
    have e : hI (sI h a j (x &&& 1)) a = upd (hI h a) j (x &&& 1) := funext fun k => by rw [hI_sI]; simp [upd]
    simp [aC, e]
  refine va_zast C.1 C.2.1 C.2.2.2.2.2.2.2.2.2.2.1 D.1 D.2.1 D.2.2.1 a 2 (f := hI h a) (by rw [wld_get ha, ce_arr hs]; rfl) rfl q1 hd (fun H1 locs1 z1 z2 z3 => ?_)
  rw [q2, show vp_nar .boolean x = x &&& 1 from rfl, hset] at z1 z2
  exact kk p l e R s m args below meth c A G cls Z H1 locs1 cells slots ad lsA C F ⟨z1, z2, z3, wfh_sI D.2.2.2.1, D.2.2.2.2⟩ hc hs2 hA
theorem a_last {a n j : Nat} {i : Int32} {x : Int64} (hd : decode (mB mt) pc = .ok (.lastore, 1)) (hs : shK a = some (.inr (3, n))) (ha : a < hN h) (hi : i = nI j) (hj : j < n) (kk : AW X mt d kc ks (pc + 1) ls st (sL h a j x) Q) : AW X mt d kc ks pc ls (.long x :: .int i :: .ref a :: st) h Q := by
  subst hi
  intro p l e R s m args below meth c A G cls Z H locs cells slots ad lsA C F D hc hs2 hA
  obtain ⟨q1, q2⟩ := nI_i hj (shK_len hs).2
  have hset : (wld cls ad h).set a (ad a, .inl (cls 3, n, .inr (.inl (vp_updL (hL h a) j x)))) = wld cls ad (sL h a j x) := by
    refine wld_set hN_sL (fun b q => ce_congr rfl (up2_row q) (fun _ => rfl)) ?_ ha
    rw [ce_arr hs]
    have e : hL (sL h a j x) a = vp_updL (hL h a) j x := funext fun k => by rw [hL_sL]; simp [vp_updL]
    simp [aC, e]
  refine va_last C.1 C.2.1 C.2.2.2.2.2.2.2.2.2.2.1 D.1 D.2.1 D.2.2.1 a 3 (f := hL h a) (by rw [wld_get ha, ce_arr hs]; rfl) rfl q1 hd (fun H1 locs1 z1 z2 z3 => ?_)
  rw [q2, hset] at z1 z2
  exact kk p l e R s m args below meth c A G cls Z H1 locs1 cells slots ad lsA C F ⟨z1, z2, z3, wfh_sL D.2.2.2.1, D.2.2.2.2⟩ hc hs2 hA
theorem a_aast {a n j b : Nat} {i : Int32} (hd : decode (mB mt) pc = .ok (.aastore, 1)) (hs : shK a = some (.inr (4, n))) (ha : a < hN h) (hi : i = nI j) (hj : j < n) (hsb : shK b = some (.inl 3)) (hb : b < hN h) (kk : AW X mt d kc ks (pc + 1) ls st (sR h a j (some b)) Q) : AW X mt d kc ks pc ls (.ref b :: .int i :: .ref a :: st) h Q := by
  subst hi
  intro p l e R s m args below meth c A G cls Z H locs cells slots ad lsA C F D hc hs2 hA
  obtain ⟨q1, q2⟩ := nI_i hj (shK_len hs).2
  have hset : (wld cls ad h).set a (ad a, .inl (cls 4, n, .inr (.inr (.inr (.inr (va_up (fun j => (hR h a j).map ad) j (some (ad b)))))))) = wld cls ad (sR h a j (some b)) := by
    refine wld_set hN_sR (fun b q => ce_congr rfl rfl (fun _ => by rw [show hR (sR h a j _) _ = _ from up2_row q])) ?_ ha
    rw [ce_arr hs]
    have e : (fun k => (hR (sR h a j (some b)) a k).map ad) = va_up (fun j => (hR h a j).map ad) j (some (ad b)) := funext fun k => by
      rw [hR_sR]
      by_cases e : k = j <;> simp [va_up, e]
    simp [aC, e]
  refine va_astq C.1 C.2.1 C.2.2.2.2.2.2.2.2.2.2.1 D.1 D.2.1 D.2.2.1 a 4 b 3 (r := (RX3, TX3, 10)) (f := fun j => (hR h a j).map ad) (by rw [wld_get ha, ce_arr hs]; rfl) rfl (by rw [wld_get hb, ce_obj hsb]) rfl q1 hd (fun H1 locs1 z1 z2 z3 => ?_)
  rw [q2, hset] at z1 z2
  exact kk p l e R s m args below meth c A G cls Z H1 locs1 cells slots ad lsA C F ⟨z1, z2, z3, wfh_sR hb D.2.2.2.1, D.2.2.2.2⟩ hc hs2 hA
end RW7
