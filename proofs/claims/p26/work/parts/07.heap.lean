/-! rows of AW: fields and arrays. g_: of any cell of the world; a_: of the fixed ones -/
theorem cls_cases {P : Nat → Prop} (h0 : P 0) (h1 : P 1) (h2 : P 2) (h3 : P 3) (h4 : P 4) (h5 : P 5) (h6 : P 6) (h7 : P 7) (h8 : P 8) : ∀ ci, ci < 9 → P ci := by
  intro ci h
  match ci, h with
  | 0, _ => exact h0
  | 1, _ => exact h1
  | 2, _ => exact h2
  | 3, _ => exact h3
  | 4, _ => exact h4
  | 5, _ => exact h5
  | 6, _ => exact h6
  | 7, _ => exact h7
  | 8, _ => exact h8
theorem tys_at {cls : Nat → ClassId} : ∀ t, t < 8 → (tysOf cls)[t]? = some (cls t, tyF t) := by
  intro t h
  match t, h with
  | 0, _ => rfl
  | 1, _ => rfl
  | 2, _ => rfl
  | 3, _ => rfl
  | 4, _ => rfl
  | 5, _ => rfl
  | 6, _ => rfl
  | 7, _ => rfl
theorem uws_ok : ∀ ci, ci < 9 → ∀ w ∈ u_ws (cR ci) (cT ci) (nF ci), w ∈ lw_tb2 ∧ goodWord w = true := cls_cases (by decide +kernel) (by decide +kernel) (by decide +kernel) (by decide +kernel) (by decide +kernel) (by decide +kernel) (by decide +kernel) (by decide +kernel) (by decide +kernel)
theorem tyc_ok : ∀ ci, ci < 9 → ∀ k, k < nF ci → parseFieldDescriptor (cT ci k).2.2.1 = some (fT ci k) := cls_cases tyX0_ok tyX1_ok tyX2_ok tyX3_ok tyX4_ok tyX5_ok tyX6_ok tyJ0_ok tyJ4_ok
theorem nmc_ok : ∀ ci, ci < 9 → ∀ a, a < nF ci → ∀ b, b < nF ci → a ≠ b → (cT ci a).2.1 ≠ (cT ci b).2.1 := cls_cases nmX0 nmX1 nmX2 nmX3 nmX4 nmX5 nmX6 nmJ0 nmJ4
/-- the link of a field that a method reads or writes: plain, or of a nest mate -/
def FL (mt : MT) (idx ci k : Nat) : Prop := (Cond.fieldLink (mN mt).cls idx (cT ci k).1 (cT ci k).2.1 (cT ci k).2.2.1 ∈ lw_tb2) ∨ ∃ host, Cond.fieldLinkNest (mN mt).cls idx (cT ci k).1 (cT ci k).2.1 (cT ci k).2.2.1 host ∈ tables_1
theorem fs_get {f : Nat → Value} {n k : Nat} (hk : k < n) : ((List.range n).map f)[k]? = some (f k) := by simp [hk]
theorem nI_i {j n : Nat} (hj : j < n) (hn : n ≤ 4096) : vp_in (nI j) n ∧ (nI j).toNatClampNeg = j := ⟨vp_in_nI hj (by omega), nI_clamp (by omega)⟩
section RW7
variable {X : XT} {mt : MT} {d kc ks pc : Nat} {ls ls' : List (Nat × Value)} {st : List Value} {h : AH} {Q : Res → AH → Prop}
theorem g_get {a ci k idx : Nat} {v : Value} (hd : decode (mB mt) pc = .ok (.getfield idx, 3)) (hf : FL mt idx ci k) (hk : k < nF ci) (hs : kdA a = some (.inl ci)) (ha : prN (hN h) a) (hv : ∀ ad, fv ad h a ci k = cv ad v) (kk : AW X mt d kc ks (pc + 3) ls (v :: st) h Q) : AW X mt d kc ks pc ls (.ref a :: st) h Q := by
  intro p l e R s m args below meth c A G cls Z H locs cells slots ad lsA C F D hc hs2 hA
  obtain ⟨ia, hia, hga⟩ := wld_at (cls := cls) (ad := ad) ha
  have hci := kdA_ci hs
  have g := kk p l e R s m args below meth c A G cls Z H locs cells slots ad lsA C F D hc hs2 hA
  obtain ⟨hx, hb, hml, hown, hw, -, -, -, -, -, hK, hE, -, -⟩ := id C
  have hget : (wld cls ad h)[ia]? = some (ad a, .inr (ci, (List.range (nF ci)).map (fv ad h a ci))) := by rw [hga, ce_obj hs]
  have hval : ((List.range (nF ci)).map (fv ad h a ci))[k]? = some (cv ad v) := by rw [fs_get hk, hv]
  rcases hf with hf | ⟨host, hf⟩
  · exact va_get (C := cR ci) (T := cT ci) (N := nF ci) (Ts := u_ws (cR ci) (cT ci) (nF ci)) hx hb (fun w q => hw w (uws_ok ci hci w q).1 (uws_ok ci hci w q).2) (fun _ q => q) hown hK D.1 ia hget (vwCl_at hci) k hk (hw _ hf rfl) (fun _ q => q) hval hd g
  · exact va_getN (C := cR ci) (T := cT ci) (N := nF ci) (Ts := u_ws (cR ci) (cT ci) (nF ci)) hx hb (fun w q => hw w (uws_ok ci hci w q).1 (uws_ok ci hci w q).2) (fun _ q => q) hown hK D.1 ia hget (vwCl_at hci) k hk (va_Nw.use rfl (hE.1 _ hf rfl)) (fun _ q => q) hval hd g
theorem g_getI {a ci k idx : Nat} (hd : decode (mB mt) pc = .ok (.getfield idx, 3)) (hf : FL mt idx ci k) (hk : k < nF ci) (ht : fK ci k = 0) (hs : kdA a = some (.inl ci)) (ha : prN (hN h) a) (kk : AW X mt d kc ks (pc + 3) ls (.int (hI h a k) :: st) h Q) : AW X mt d kc ks pc ls (.ref a :: st) h Q :=
  g_get hd hf hk hs ha (fun ad => by simp [fv, ht, cv]) kk
theorem g_getL {a ci k idx : Nat} (hd : decode (mB mt) pc = .ok (.getfield idx, 3)) (hf : FL mt idx ci k) (hk : k < nF ci) (ht : fK ci k = 1) (hs : kdA a = some (.inl ci)) (ha : prN (hN h) a) (kk : AW X mt d kc ks (pc + 3) ls (.long (hL h a k) :: st) h Q) : AW X mt d kc ks pc ls (.ref a :: st) h Q :=
  g_get hd hf hk hs ha (fun ad => by simp [fv, ht, cv]) kk
theorem g_getR {a ci k idx b : Nat} (hd : decode (mB mt) pc = .ok (.getfield idx, 3)) (hf : FL mt idx ci k) (hk : k < nF ci) (ht : fK ci k = 2) (hs : kdA a = some (.inl ci)) (ha : prN (hN h) a) (hr : hR h a k = some b) (kk : AW X mt d kc ks (pc + 3) ls (.ref b :: st) h Q) : AW X mt d kc ks pc ls (.ref a :: st) h Q :=
  g_get hd hf hk hs ha (fun ad => by simp [fv, ht, cv, hr, va_rf]) kk
theorem g_put {a ci k idx : Nat} {v : Value} {h' : AH} (hd : decode (mB mt) pc = .ok (.putfield idx, 3)) (hf : FL mt idx ci k) (hk : k < nF ci) (hs : kdA a = some (.inl ci)) (ha : prN (hN h) a) (hfin : (cT ci k).2.2.2 = false ∨ ((cT ci k).2.2.2 = true ∧ (mN mt).name = "<init>" ∧ (cT ci k).1 = (mN mt).cls ∧ Cond.fieldLink (mN mt).cls idx (cT ci k).1 (cT ci k).2.1 (cT ci k).2.2.1 ∈ lw_tb2))
    (hn : ∀ ad, narrow (fT ci k) (cv ad v) = cv ad v) (hfit : ∀ ad, fits (fT ci k) (cv ad v) = true) (eN : hN h' = hN h) (ho : ∀ b, b ≠ a → hI h' b = hI h b ∧ hL h' b = hL h b ∧ hR h' b = hR h b) (hv : ∀ ad, (fun j => if j = k then cv ad v else fv ad h a ci j) = fv ad h' a ci) (hw' : wfh h → wfh h')
    (kk : AW X mt d kc ks (pc + 3) ls st h' Q) : AW X mt d kc ks pc ls (v :: .ref a :: st) h Q := by
  intro p l e R s m args below meth c A G cls Z H locs cells slots ad lsA C F D hc hs2 hA
  obtain ⟨ia, hia, hga⟩ := wld_at (cls := cls) (ad := ad) ha
  have hci := kdA_ci hs
  obtain ⟨hx, hb, hml, hown, hw, -, -, -, hnm, -, hK, hE, -, -⟩ := id C
  have hget : (wld cls ad h)[ia]? = some (ad a, .inr (ci, (List.range (nF ci)).map (fv ad h a ci))) := by rw [hga, ce_obj hs]
  have hset : (wld cls ad h).set ia (ad a, .inr (ci, ((List.range (nF ci)).map (fv ad h a ci)).set k (cv ad v))) = wld cls ad h' := by
    refine wld_set hia D.2.2.2.1 eN (fun b q => ce_congr (ho b q).1 (ho b q).2.1 (fun j => by rw [(ho b q).2.2])) ?_
    rw [ce_obj hs, range_set hk, hv]
  have hl : k < ((List.range (nF ci)).map (fv ad h a ci)).length := by simp [hk]
  have go : ∀ (H1 : Heap) (locs1 : List Loc), va_P G vwCl ((wld cls ad h).set ia (ad a, .inr (ci, ((List.range (nF ci)).map (fv ad h a ci)).set k (cv ad v)))) H1 → va_D A ((wld cls ad h).set ia (ad a, .inr (ci, ((List.range (nF ci)).map (fv ad h a ci)).set k (cv ad v)))) → va_S A s.heap H1 locs1 →
      W p l e R s m args below meth c H1 locs1 cells slots Z (F0 m (pc + 3) lsA (st.map (cv ad))) := by
    intro H1 locs1 q1 q2 q3
    rw [hset] at q1 q2
    exact kk p l e R s m args below meth c A G cls Z H1 locs1 cells slots ad lsA C (eN ▸ F) ⟨q1, q2, q3, hw' D.2.2.2.1, D.2.2.2.2⟩ hc hs2 hA
  have ht := fun w q => hw w (uws_ok ci hci w q).1 (uws_ok ci hci w q).2
  rcases hfin with hfin | ⟨hfin, hi, ho2, hf⟩
  · rcases hf with hf | ⟨host, hf⟩
    · exact va_put (C := cR ci) (T := cT ci) (N := nF ci) (Ts := u_ws (cR ci) (cT ci) (nF ci)) hx hb ht (fun _ q => q) (fT ci) (tyc_ok ci hci) (nmc_ok ci hci) hown hK D.1 D.2.1 D.2.2.1 ia hget (vwCl_at hci) k hk (hw _ hf rfl) (fun _ q => q) hfin (tyc_ok ci hci k hk) (hn ad) (hfit ad) hl hd go
    · exact va_putN (C := cR ci) (T := cT ci) (N := nF ci) (Ts := u_ws (cR ci) (cT ci) (nF ci)) hx hb ht (fun _ q => q) (fT ci) (tyc_ok ci hci) (nmc_ok ci hci) hown hK D.1 D.2.1 D.2.2.1 ia hget (vwCl_at hci) k hk (va_Nw.use rfl (hE.1 _ hf rfl)) (fun _ q => q) hfin (tyc_ok ci hci k hk) (hn ad) (hfit ad) hl hd go
  · exact va_putF (C := cR ci) (T := cT ci) (N := nF ci) (Ts := u_ws (cR ci) (cT ci) (nF ci)) hx hb ht (fun _ q => q) (fT ci) (tyc_ok ci hci) (nmc_ok ci hci) hown hK D.1 D.2.1 D.2.2.1 ia hget (vwCl_at hci) k hk (hw _ hf rfl) (fun _ q => q) hfin (hnm.trans hi) ho2 (tyc_ok ci hci k hk) (hn ad) (hfit ad) hl hd go
theorem wfh_sI {h : AH} {a j : Nat} {x : Int32} : wfh h → wfh (sI h a j x) := fun w => w
theorem wfh_sL {h : AH} {a j : Nat} {x : Int64} : wfh h → wfh (sL h a j x) := fun w => w
theorem wfh_rI {h : AH} {a : Nat} {g : Nat → Int32} : wfh h → wfh (rI h a g) := fun w => w
theorem wfh_sR {h : AH} {a j b : Nat} (hb : prN (hN h) b) : wfh h → wfh (sR h a j (some b)) := fun w => ⟨w.1, fun a' j' k' h1 h2 => by
  rw [hR_sR] at h2
  by_cases e : a' = a ∧ j' = j
  · rw [if_pos e] at h2
    cases h2
    exact Or.inl hb
  · rw [if_neg e] at h2
    exact w.2 a' j' k' h1 h2⟩
theorem g_putI {a ci k idx : Nat} {x : Int32} (hd : decode (mB mt) pc = .ok (.putfield idx, 3)) (hf : FL mt idx ci k) (hk : k < nF ci) (ht : fT ci k = .int ∨ (fT ci k = .boolean ∧ (x = 0 ∨ x = 1))) (hs : kdA a = some (.inl ci)) (ha : prN (hN h) a) (hfin : (cT ci k).2.2.2 = false) (kk : AW X mt d kc ks (pc + 3) ls st (sI h a k x) Q) : AW X mt d kc ks pc ls (.int x :: .ref a :: st) h Q := by
  have hk0 : fK ci k = 0 := by rcases ht with e | ⟨e, -⟩ <;> simp [fK, kT, e]
  refine g_put hd hf hk hs ha (Or.inl hfin) (fun ad => ?_) (fun ad => ?_) hN_sI (fun b q => ⟨up2_row q, rfl, rfl⟩) (fun ad => ?_) wfh_sI kk
  · rcases ht with e | ⟨e, e2⟩
    · rw [e]; rfl
    · rw [e]; rcases e2 with rfl | rfl <;> rfl
  · rcases ht with e | ⟨e, e2⟩
    · rw [e]; rfl
    · rw [e]; rcases e2 with rfl | rfl <;> rfl
  · funext j
    by_cases e : j = k
    · subst e
      simp [fv, hk0, hI_sI, cv]
    · simp [fv, hI_sI, e, hL_sI, hR_sI]
theorem g_putL {a ci k idx : Nat} {x : Int64} (hd : decode (mB mt) pc = .ok (.putfield idx, 3)) (hf : FL mt idx ci k) (hk : k < nF ci) (ht : fT ci k = .long) (hs : kdA a = some (.inl ci)) (ha : prN (hN h) a) (hfin : (cT ci k).2.2.2 = false) (kk : AW X mt d kc ks (pc + 3) ls st (sL h a k x) Q) : AW X mt d kc ks pc ls (.long x :: .ref a :: st) h Q := by
  have hk0 : fK ci k = 1 := by simp [fK, kT, ht]
  refine g_put hd hf hk hs ha (Or.inl hfin) (fun ad => by rw [ht]; rfl) (fun ad => by rw [ht]; rfl) hN_sL (fun b q => ⟨rfl, up2_row q, rfl⟩) (fun ad => ?_) wfh_sL kk
  funext j
  by_cases e : j = k
  · subst e
    simp [fv, hk0, hL_sL, cv]
  · simp [fv, hL_sL, e, hI_sL, hR_sL]
theorem g_putRF {a ci k idx b : Nat} (hd : decode (mB mt) pc = .ok (.putfield idx, 3)) (hf : Cond.fieldLink (mN mt).cls idx (cT ci k).1 (cT ci k).2.1 (cT ci k).2.2.1 ∈ lw_tb2) (hk : k < nF ci) (ht : fK ci k = 2) (hs : kdA a = some (.inl ci)) (ha : prN (hN h) a) (hb : prN (hN h) b) (hfin : (cT ci k).2.2.2 = true) (hi : (mN mt).name = "<init>") (ho : (cT ci k).1 = (mN mt).cls) (kk : AW X mt d kc ks (pc + 3) ls st (sR h a k (some b)) Q) : AW X mt d kc ks pc ls (.ref b :: .ref a :: st) h Q := by
  have hty : (∃ s, fT ci k = .object s) ∨ ∃ s, fT ci k = .array s := by
    cases e : fT ci k <;> simp [fK, kT, e] at ht ⊢
  refine g_put hd (Or.inl hf) hk hs ha (Or.inr ⟨hfin, hi, ho, hf⟩) (fun ad => ?_) (fun ad => ?_) hN_sR (fun b q => ⟨rfl, rfl, up2_row q⟩) (fun ad => ?_) (wfh_sR hb) kk
  · rcases hty with ⟨s, e⟩ | ⟨s, e⟩ <;> rw [e] <;> rfl
  · rcases hty with ⟨s, e⟩ | ⟨s, e⟩ <;> rw [e] <;> rfl
  · funext j
    by_cases e : j = k
    · subst e
      simp [fv, ht, hR_sR, cv, va_rf]
    · simp [fv, hR_sR, e, hI_sR, hL_sR]
-- arrays
theorem g_iald {a n j : Nat} {i : Int32} (hd : decode (mB mt) pc = .ok (.iaload, 1)) (hs : kdA a = some (.inr (0, n))) (ha : prN (hN h) a) (hi : i = nI j) (hj : j < n) (kk : AW X mt d kc ks (pc + 1) ls (.int (hI h a j) :: st) h Q) : AW X mt d kc ks pc ls (.int i :: .ref a :: st) h Q := by
  subst hi
  intro p l e R s m args below meth c A G cls Z H locs cells slots ad lsA C F D hc hs2 hA
  obtain ⟨ia, hia, hga⟩ := wld_at (cls := cls) (ad := ad) ha
  have g := kk p l e R s m args below meth c A G cls Z H locs cells slots ad lsA C F D hc hs2 hA
  obtain ⟨q1, q2⟩ := nI_i hj (kdA_len hs).2
  exact va_iald C.1 C.2.1 C.2.2.2.2.2.2.2.2.2.2.1 D.1 ia 0 (f := hI h a) (by rw [hga, ce_arr hs]; rfl) rfl q1 hd (by rw [q2]; exact g)
theorem g_bald {a n j : Nat} {i : Int32} (hd : decode (mB mt) pc = .ok (.baload, 1)) (hs : kdA a = some (.inr (1, n))) (ha : prN (hN h) a) (hi : i = nI j) (hj : j < n) (kk : AW X mt d kc ks (pc + 1) ls (.int (hI h a j) :: st) h Q) : AW X mt d kc ks pc ls (.int i :: .ref a :: st) h Q := by
  subst hi
  intro p l e R s m args below meth c A G cls Z H locs cells slots ad lsA C F D hc hs2 hA
  obtain ⟨ia, hia, hga⟩ := wld_at (cls := cls) (ad := ad) ha
  have g := kk p l e R s m args below meth c A G cls Z H locs cells slots ad lsA C F D hc hs2 hA
  obtain ⟨q1, q2⟩ := nI_i hj (kdA_len hs).2
  exact va_bald C.1 C.2.1 C.2.2.2.2.2.2.2.2.2.2.1 D.1 ia 1 (f := hI h a) (by rw [hga, ce_arr hs]; rfl) rfl q1 hd (by rw [q2]; exact g)
theorem g_zald {a n j : Nat} {i : Int32} (hd : decode (mB mt) pc = .ok (.baload, 1)) (hs : kdA a = some (.inr (2, n))) (ha : prN (hN h) a) (hi : i = nI j) (hj : j < n) (kk : AW X mt d kc ks (pc + 1) ls (.int (hI h a j) :: st) h Q) : AW X mt d kc ks pc ls (.int i :: .ref a :: st) h Q := by
  subst hi
  intro p l e R s m args below meth c A G cls Z H locs cells slots ad lsA C F D hc hs2 hA
  obtain ⟨ia, hia, hga⟩ := wld_at (cls := cls) (ad := ad) ha
  have g := kk p l e R s m args below meth c A G cls Z H locs cells slots ad lsA C F D hc hs2 hA
  obtain ⟨q1, q2⟩ := nI_i hj (kdA_len hs).2
  exact va_zald C.1 C.2.1 C.2.2.2.2.2.2.2.2.2.2.1 D.1 ia 2 (f := hI h a) (by rw [hga, ce_arr hs]; rfl) rfl q1 hd (by rw [q2]; exact g)
theorem g_lald {a n j : Nat} {i : Int32} (hd : decode (mB mt) pc = .ok (.laload, 1)) (hs : kdA a = some (.inr (3, n))) (ha : prN (hN h) a) (hi : i = nI j) (hj : j < n) (kk : AW X mt d kc ks (pc + 1) ls (.long (hL h a j) :: st) h Q) : AW X mt d kc ks pc ls (.int i :: .ref a :: st) h Q := by
  subst hi
  intro p l e R s m args below meth c A G cls Z H locs cells slots ad lsA C F D hc hs2 hA
  obtain ⟨ia, hia, hga⟩ := wld_at (cls := cls) (ad := ad) ha
  have g := kk p l e R s m args below meth c A G cls Z H locs cells slots ad lsA C F D hc hs2 hA
  obtain ⟨q1, q2⟩ := nI_i hj (kdA_len hs).2
  exact va_lald C.1 C.2.1 C.2.2.2.2.2.2.2.2.2.2.1 D.1 ia 3 (f := hL h a) (by rw [hga, ce_arr hs]; rfl) rfl q1 hd (by rw [q2]; exact g)
theorem g_aald {a n j b : Nat} {i : Int32} (hd : decode (mB mt) pc = .ok (.aaload, 1)) (hs : kdA a = some (.inr (4, n))) (ha : prN (hN h) a) (hi : i = nI j) (hj : j < n) (hr : hR h a j = some b) (kk : AW X mt d kc ks (pc + 1) ls (.ref b :: st) h Q) : AW X mt d kc ks pc ls (.int i :: .ref a :: st) h Q := by
  subst hi
  intro p l e R s m args below meth c A G cls Z H locs cells slots ad lsA C F D hc hs2 hA
  obtain ⟨ia, hia, hga⟩ := wld_at (cls := cls) (ad := ad) ha
  have g := kk p l e R s m args below meth c A G cls Z H locs cells slots ad lsA C F D hc hs2 hA
  obtain ⟨q1, q2⟩ := nI_i hj (kdA_len hs).2
  exact va_aldq C.1 C.2.1 C.2.2.2.2.2.2.2.2.2.2.1 D.1 ia 4 (f := fun j => (hR h a j).map ad) (by rw [hga, ce_arr hs]; rfl) rfl q1 hd (by rw [q2, hr]; exact g)
theorem g_rald {a n j b : Nat} {i : Int32} (hd : decode (mB mt) pc = .ok (.aaload, 1)) (hs : kdA a = some (.inr (5, n))) (ha : prN (hN h) a) (hi : i = nI j) (hj : j < n) (hr : hR h a j = some b) (kk : AW X mt d kc ks (pc + 1) ls (.ref b :: st) h Q) : AW X mt d kc ks pc ls (.int i :: .ref a :: st) h Q := by
  subst hi
  intro p l e R s m args below meth c A G cls Z H locs cells slots ad lsA C F D hc hs2 hA
  obtain ⟨ia, hia, hga⟩ := wld_at (cls := cls) (ad := ad) ha
  have g := kk p l e R s m args below meth c A G cls Z H locs cells slots ad lsA C F D hc hs2 hA
  obtain ⟨q1, q2⟩ := nI_i hj (kdA_len hs).2
  have hget : (wld cls ad h)[ia]? = some (ad a, .inl (cls 5, n, .inr (.inr (.inr (.inr (fun j => (hR h a j).map ad)))))) := by rw [hga, ce_arr hs]; rfl
  have hcell : H[ad a]? = some (vp_cell (cls 5) (n, .inr (.inr (.inr (.inr (fun j => (hR h a j).map ad)))))) := D.1 ia _ hget
  have hK := C.2.2.2.2.2.2.2.2.2.2.1
  have hAr : ArrOfT s (cls 5) (.array .int) := (hK.2 5 (cls 5, .array .int) rfl).1
  rw [vp_cell_q] at hcell
  have q2' : (nI j).toNatClampNeg = j := q2
  exact W.aald (ty := .array .int) (v := .ref (ad b)) C.1 C.2.1 hcell (hAr n (fun j => va_rf ((hR h a j).map ad))) rfl (fun q => by cases q) (by rw [arrV_size]; exact q1) (by rw [q2']; simp [arrV, hj, hr, va_rf]) rfl rfl hd g
theorem g_alen {a t n : Nat} (hd : decode (mB mt) pc = .ok (.arraylength, 1)) (hs : kdA a = some (.inr (t, n))) (ha : prN (hN h) a) (kk : AW X mt d kc ks (pc + 1) ls (.int (nI n) :: st) h Q) : AW X mt d kc ks pc ls (.ref a :: st) h Q := by
  intro p l e R s m args below meth c A G cls Z H locs cells slots ad lsA C F D hc hs2 hA
  obtain ⟨ia, hia, hga⟩ := wld_at (cls := cls) (ad := ad) ha
  have g := kk p l e R s m args below meth c A G cls Z H locs cells slots ad lsA C F D hc hs2 hA
  have hK := C.2.2.2.2.2.2.2.2.2.2.1
  have ht : ∃ ty, (tysOf cls)[t]? = some (cls t, ty) := ⟨_, tys_at t (kdA_len hs).1⟩
  obtain ⟨ty, ht⟩ := ht
  exact va_alen C.1 C.2.1 hK D.1 ia t (x := aC ad h a t n) (by rw [hga, ce_arr hs]) ht rfl hd g
theorem g_iast {a n j : Nat} {i x : Int32} (hd : decode (mB mt) pc = .ok (.iastore, 1)) (hs : kdA a = some (.inr (0, n))) (ha : prN (hN h) a) (hi : i = nI j) (hj : j < n) (kk : AW X mt d kc ks (pc + 1) ls st (sI h a j x) Q) : AW X mt d kc ks pc ls (.int x :: .int i :: .ref a :: st) h Q := by
  subst hi
  intro p l e R s m args below meth c A G cls Z H locs cells slots ad lsA C F D hc hs2 hA
  obtain ⟨ia, hia, hga⟩ := wld_at (cls := cls) (ad := ad) ha
  obtain ⟨q1, q2⟩ := nI_i hj (kdA_len hs).2
  have hset : (wld cls ad h).set ia (ad a, .inl (cls 0, n, .inl (upd (hI h a) j x))) = wld cls ad (sI h a j x) := by
    refine wld_set hia D.2.2.2.1 hN_sI (fun b q => ce_congr (up2_row q) rfl (fun _ => rfl)) ?_
    rw [ce_arr hs]
    have e : hI (sI h a j x) a = upd (hI h a) j x := funext fun k => by rw [hI_sI]; simp [upd]
    simp [aC, e]
  refine va_iast C.1 C.2.1 C.2.2.2.2.2.2.2.2.2.2.1 D.1 D.2.1 D.2.2.1 ia 0 (f := hI h a) (by rw [hga, ce_arr hs]; rfl) rfl q1 hd (fun H1 locs1 z1 z2 z3 => ?_)
  rw [q2, hset] at z1 z2
  exact kk p l e R s m args below meth c A G cls Z H1 locs1 cells slots ad lsA C F ⟨z1, z2, z3, wfh_sI D.2.2.2.1, D.2.2.2.2⟩ hc hs2 hA
theorem g_bast {a n j : Nat} {i x : Int32} (hd : decode (mB mt) pc = .ok (.bastore, 1)) (hs : kdA a = some (.inr (1, n))) (ha : prN (hN h) a) (hi : i = nI j) (hj : j < n) (kk : AW X mt d kc ks (pc + 1) ls st (sI h a j x.toInt8.toInt32) Q) : AW X mt d kc ks pc ls (.int x :: .int i :: .ref a :: st) h Q := by
  subst hi
  intro p l e R s m args below meth c A G cls Z H locs cells slots ad lsA C F D hc hs2 hA
  obtain ⟨ia, hia, hga⟩ := wld_at (cls := cls) (ad := ad) ha
  obtain ⟨q1, q2⟩ := nI_i hj (kdA_len hs).2
  have hset : (wld cls ad h).set ia (ad a, .inl (cls 1, n, .inl (upd (hI h a) j x.toInt8.toInt32))) = wld cls ad (sI h a j x.toInt8.toInt32) := by
    refine wld_set hia D.2.2.2.1 hN_sI (fun b q => ce_congr (up2_row q) rfl (fun _ => rfl)) ?_
    rw [ce_arr hs]
    have e : hI (sI h a j x.toInt8.toInt32) a = upd (hI h a) j x.toInt8.toInt32 := funext fun k => by rw [hI_sI]; simp [upd]
    simp [aC, e]
  refine va_bast C.1 C.2.1 C.2.2.2.2.2.2.2.2.2.2.1 D.1 D.2.1 D.2.2.1 ia 1 (f := hI h a) (by rw [hga, ce_arr hs]; rfl) rfl q1 hd (fun H1 locs1 z1 z2 z3 => ?_)
  rw [q2, show vp_nar .byte x = x.toInt8.toInt32 from rfl, hset] at z1 z2
  exact kk p l e R s m args below meth c A G cls Z H1 locs1 cells slots ad lsA C F ⟨z1, z2, z3, wfh_sI D.2.2.2.1, D.2.2.2.2⟩ hc hs2 hA
theorem g_zast {a n j : Nat} {i x : Int32} (hd : decode (mB mt) pc = .ok (.bastore, 1)) (hs : kdA a = some (.inr (2, n))) (ha : prN (hN h) a) (hi : i = nI j) (hj : j < n) (kk : AW X mt d kc ks (pc + 1) ls st (sI h a j (x &&& 1)) Q) : AW X mt d kc ks pc ls (.int x :: .int i :: .ref a :: st) h Q := by
  subst hi
  intro p l e R s m args below meth c A G cls Z H locs cells slots ad lsA C F D hc hs2 hA
  obtain ⟨ia, hia, hga⟩ := wld_at (cls := cls) (ad := ad) ha
  obtain ⟨q1, q2⟩ := nI_i hj (kdA_len hs).2
  have hset : (wld cls ad h).set ia (ad a, .inl (cls 2, n, .inl (upd (hI h a) j (x &&& 1)))) = wld cls ad (sI h a j (x &&& 1)) := by
    refine wld_set hia D.2.2.2.1 hN_sI (fun b q => ce_congr (up2_row q) rfl (fun _ => rfl)) ?_
    rw [ce_arr hs]
    have e : hI (sI h a j (x &&& 1)) a = upd (hI h a) j (x &&& 1) := funext fun k => by rw [hI_sI]; simp [upd]
    simp [aC, e]
  refine va_zast C.1 C.2.1 C.2.2.2.2.2.2.2.2.2.2.1 D.1 D.2.1 D.2.2.1 ia 2 (f := hI h a) (by rw [hga, ce_arr hs]; rfl) rfl q1 hd (fun H1 locs1 z1 z2 z3 => ?_)
  rw [q2, show vp_nar .boolean x = x &&& 1 from rfl, hset] at z1 z2
  exact kk p l e R s m args below meth c A G cls Z H1 locs1 cells slots ad lsA C F ⟨z1, z2, z3, wfh_sI D.2.2.2.1, D.2.2.2.2⟩ hc hs2 hA
theorem g_last {a n j : Nat} {i : Int32} {x : Int64} (hd : decode (mB mt) pc = .ok (.lastore, 1)) (hs : kdA a = some (.inr (3, n))) (ha : prN (hN h) a) (hi : i = nI j) (hj : j < n) (kk : AW X mt d kc ks (pc + 1) ls st (sL h a j x) Q) : AW X mt d kc ks pc ls (.long x :: .int i :: .ref a :: st) h Q := by
  subst hi
  intro p l e R s m args below meth c A G cls Z H locs cells slots ad lsA C F D hc hs2 hA
  obtain ⟨ia, hia, hga⟩ := wld_at (cls := cls) (ad := ad) ha
  obtain ⟨q1, q2⟩ := nI_i hj (kdA_len hs).2
  have hset : (wld cls ad h).set ia (ad a, .inl (cls 3, n, .inr (.inl (vp_updL (hL h a) j x)))) = wld cls ad (sL h a j x) := by
    refine wld_set hia D.2.2.2.1 hN_sL (fun b q => ce_congr rfl (up2_row q) (fun _ => rfl)) ?_
    rw [ce_arr hs]
    have e : hL (sL h a j x) a = vp_updL (hL h a) j x := funext fun k => by rw [hL_sL]; simp [vp_updL]
    simp [aC, e]
  refine va_last C.1 C.2.1 C.2.2.2.2.2.2.2.2.2.2.1 D.1 D.2.1 D.2.2.1 ia 3 (f := hL h a) (by rw [hga, ce_arr hs]; rfl) rfl q1 hd (fun H1 locs1 z1 z2 z3 => ?_)
  rw [q2, hset] at z1 z2
  exact kk p l e R s m args below meth c A G cls Z H1 locs1 cells slots ad lsA C F ⟨z1, z2, z3, wfh_sL D.2.2.2.1, D.2.2.2.2⟩ hc hs2 hA
theorem g_aast {a n j b : Nat} {i : Int32} (hd : decode (mB mt) pc = .ok (.aastore, 1)) (hs : kdA a = some (.inr (4, n))) (ha : prN (hN h) a) (hi : i = nI j) (hj : j < n) (hsb : kdA b = some (.inl 3)) (hb : prN (hN h) b) (kk : AW X mt d kc ks (pc + 1) ls st (sR h a j (some b)) Q) : AW X mt d kc ks pc ls (.ref b :: .int i :: .ref a :: st) h Q := by
  subst hi
  intro p l e R s m args below meth c A G cls Z H locs cells slots ad lsA C F D hc hs2 hA
  obtain ⟨ia, hia, hga⟩ := wld_at (cls := cls) (ad := ad) ha
  obtain ⟨ib, hib, hgb⟩ := wld_at (cls := cls) (ad := ad) hb
  obtain ⟨q1, q2⟩ := nI_i hj (kdA_len hs).2
  have hset : (wld cls ad h).set ia (ad a, .inl (cls 4, n, .inr (.inr (.inr (.inr (va_up (fun j => (hR h a j).map ad) j (some (ad b)))))))) = wld cls ad (sR h a j (some b)) := by
    refine wld_set hia D.2.2.2.1 hN_sR (fun b q => ce_congr rfl rfl (fun _ => by rw [show hR (sR h a j _) _ = _ from up2_row q])) ?_
    rw [ce_arr hs]
    have e : (fun k => (hR (sR h a j (some b)) a k).map ad) = va_up (fun j => (hR h a j).map ad) j (some (ad b)) := funext fun k => by
      rw [hR_sR]
      by_cases e : k = j <;> simp [va_up, e]
    simp [aC, e]
  refine va_astq C.1 C.2.1 C.2.2.2.2.2.2.2.2.2.2.1 D.1 D.2.1 D.2.2.1 ia 4 ib 3 (r := (RX3, TX3, 10)) (f := fun j => (hR h a j).map ad) (by rw [hga, ce_arr hs]; rfl) rfl (by rw [hgb, ce_obj hsb]) rfl q1 hd (fun H1 locs1 z1 z2 z3 => ?_)
  rw [q2, hset] at z1 z2
  exact kk p l e R s m args below meth c A G cls Z H1 locs1 cells slots ad lsA C F ⟨z1, z2, z3, wfh_sR hb D.2.2.2.1, D.2.2.2.2⟩ hc hs2 hA
theorem g_putV {a ci k idx : Nat} {x : Int32} (hd : decode (mB mt) pc = .ok (.putfield idx, 3)) (hf : FL mt idx ci k) (hk : k < nF ci) (hk0 : fK ci k = 0) (hnar : narrow (fT ci k) (.int x) = .int x) (hfit : fits (fT ci k) (.int x) = true) (hs : kdA a = some (.inl ci)) (ha : prN (hN h) a) (hfin : (cT ci k).2.2.2 = false ∨ ((cT ci k).2.2.2 = true ∧ (mN mt).name = "<init>" ∧ (cT ci k).1 = (mN mt).cls ∧ Cond.fieldLink (mN mt).cls idx (cT ci k).1 (cT ci k).2.1 (cT ci k).2.2.1 ∈ lw_tb2)) (kk : AW X mt d kc ks (pc + 3) ls st (sI h a k x) Q) : AW X mt d kc ks pc ls (.int x :: .ref a :: st) h Q := by
  refine g_put hd hf hk hs ha hfin (fun ad => hnar) (fun ad => hfit) hN_sI (fun b q => ⟨up2_row q, rfl, rfl⟩) (fun ad => ?_) wfh_sI kk
  funext j
  by_cases e : j = k
  · subst e
    simp [fv, hk0, hI_sI, cv]
  · simp [fv, hI_sI, e, hL_sI, hR_sI]
theorem wfh_sRx {h : AH} {a j b : Nat} (hb : prN (hN h) b ∨ ext b) : wfh h → wfh (sR h a j (some b)) := fun w => ⟨w.1, fun a' j' k' h1 h2 => by
  rw [hR_sR] at h2
  by_cases e : a' = a ∧ j' = j
  · rw [if_pos e] at h2
    cases h2
    exact hb
  · rw [if_neg e] at h2
    exact w.2 a' j' k' h1 h2⟩
theorem wfh_sR0 {h : AH} {a j : Nat} : wfh h → wfh (sR h a j none) := fun w => ⟨w.1, fun a' j' k' h1 h2 => by
  rw [hR_sR] at h2
  by_cases e : a' = a ∧ j' = j
  · rw [if_pos e] at h2
    cases h2
  · rw [if_neg e] at h2
    exact w.2 a' j' k' h1 h2⟩
theorem g_putR {a ci k idx b : Nat} (hd : decode (mB mt) pc = .ok (.putfield idx, 3)) (hf : FL mt idx ci k) (hk : k < nF ci) (ht : fK ci k = 2) (hs : kdA a = some (.inl ci)) (ha : prN (hN h) a) (hb : prN (hN h) b ∨ ext b) (hfin : (cT ci k).2.2.2 = false ∨ ((cT ci k).2.2.2 = true ∧ (mN mt).name = "<init>" ∧ (cT ci k).1 = (mN mt).cls ∧ Cond.fieldLink (mN mt).cls idx (cT ci k).1 (cT ci k).2.1 (cT ci k).2.2.1 ∈ lw_tb2)) (kk : AW X mt d kc ks (pc + 3) ls st (sR h a k (some b)) Q) : AW X mt d kc ks pc ls (.ref b :: .ref a :: st) h Q := by
  have hty : (∃ s, fT ci k = .object s) ∨ ∃ s, fT ci k = .array s := by
    cases e : fT ci k <;> simp [fK, kT, e] at ht ⊢
  refine g_put hd hf hk hs ha hfin (fun ad => ?_) (fun ad => ?_) hN_sR (fun b q => ⟨rfl, rfl, up2_row q⟩) (fun ad => ?_) (wfh_sRx hb) kk
  · rcases hty with ⟨s, e⟩ | ⟨s, e⟩ <;> rw [e] <;> rfl
  · rcases hty with ⟨s, e⟩ | ⟨s, e⟩ <;> rw [e] <;> rfl
  · funext j
    by_cases e : j = k
    · subst e
      simp [fv, ht, hR_sR, cv, va_rf]
    · simp [fv, hR_sR, e, hI_sR, hL_sR]
theorem aC_ref {ad : Nat → Nat} {h : AH} {a t n : Nat} (ht : 4 ≤ t) : aC ad h a t n = (n, .inr (.inr (.inr (.inr (fun j => (hR h a j).map ad))))) := by
  unfold aC
  rw [if_neg (by omega), if_neg (by omega)]
theorem tyF_o {t : Nat} (ht : t = 4 ∨ t = 6 ∨ t = 7) : ∃ C, tyF t = .object C := by rcases ht with rfl | rfl | rfl <;> exact ⟨_, rfl⟩
/-- an element of a row of objects -/
theorem g_aaldo {a t n j b : Nat} {i : Int32} (hd : decode (mB mt) pc = .ok (.aaload, 1)) (hs : kdA a = some (.inr (t, n))) (ht : t = 4 ∨ t = 6 ∨ t = 7) (ha : prN (hN h) a) (hi : i = nI j) (hj : j < n) (hr : hR h a j = some b) (kk : AW X mt d kc ks (pc + 1) ls (.ref b :: st) h Q) : AW X mt d kc ks pc ls (.int i :: .ref a :: st) h Q := by
  subst hi
  intro p l e R s m args below meth c A G cls Z H locs cells slots ad lsA C F D hc hs2 hA
  obtain ⟨ia, hia, hga⟩ := wld_at (cls := cls) (ad := ad) ha
  have g := kk p l e R s m args below meth c A G cls Z H locs cells slots ad lsA C F D hc hs2 hA
  obtain ⟨q1, q2⟩ := nI_i hj (kdA_len hs).2
  obtain ⟨C9, hC9⟩ := tyF_o ht
  exact va_aldq C.1 C.2.1 C.2.2.2.2.2.2.2.2.2.2.1 D.1 ia t (f := fun j => (hR h a j).map ad) (by rw [hga, ce_arr hs, aC_ref (by omega)]) (by rw [tys_at t (by omega), hC9]) q1 hd (by rw [q2, hr]; exact g)
theorem g_aald0 {a t n j : Nat} {i : Int32} (hd : decode (mB mt) pc = .ok (.aaload, 1)) (hs : kdA a = some (.inr (t, n))) (ht : t = 4 ∨ t = 6 ∨ t = 7) (ha : prN (hN h) a) (hi : i = nI j) (hj : j < n) (hr : hR h a j = none) (kk : AW X mt d kc ks (pc + 1) ls (.null :: st) h Q) : AW X mt d kc ks pc ls (.int i :: .ref a :: st) h Q := by
  subst hi
  intro p l e R s m args below meth c A G cls Z H locs cells slots ad lsA C F D hc hs2 hA
  obtain ⟨ia, hia, hga⟩ := wld_at (cls := cls) (ad := ad) ha
  have g := kk p l e R s m args below meth c A G cls Z H locs cells slots ad lsA C F D hc hs2 hA
  obtain ⟨q1, q2⟩ := nI_i hj (kdA_len hs).2
  obtain ⟨C9, hC9⟩ := tyF_o ht
  exact va_aldq C.1 C.2.1 C.2.2.2.2.2.2.2.2.2.2.1 D.1 ia t (f := fun j => (hR h a j).map ad) (by rw [hga, ce_arr hs, aC_ref (by omega)]) (by rw [tys_at t (by omega), hC9]) q1 hd (by rw [q2, hr]; exact g)
theorem set_R {cls : Nat → ClassId} {ad : Nat → Nat} {a t n j ia : Nat} {v : Option Nat} (hs : kdA a = some (.inr (t, n))) (ht : 4 ≤ t) (hia : (hC (hN h))[ia]? = some a) (hw : wfh h) : (wld cls ad h).set ia (ad a, .inl (cls t, n, .inr (.inr (.inr (.inr (va_up (fun j => (hR h a j).map ad) j (v.map ad))))))) = wld cls ad (sR h a j v) := by
  refine wld_set hia hw hN_sR (fun b q => ce_congr rfl rfl (fun _ => by rw [show hR (sR h a j _) _ = _ from up2_row q])) ?_
  rw [ce_arr hs, aC_ref ht]
  have e : (fun k => (hR (sR h a j v) a k).map ad) = va_up (fun j => (hR h a j).map ad) j (v.map ad) := funext fun k => by
    rw [hR_sR]
    by_cases e : k = j <;> simp [va_up, e]
  rw [e]
/-- an object of the world into a row of its class -/
theorem g_aasto {a t n j b ci : Nat} {i : Int32} (hd : decode (mB mt) pc = .ok (.aastore, 1)) (hs : kdA a = some (.inr (t, n))) (ht : (t = 4 ∧ ci = 3) ∨ (t = 6 ∧ ci = 7) ∨ (t = 7 ∧ ci = 6)) (ha : prN (hN h) a) (hi : i = nI j) (hj : j < n) (hsb : kdA b = some (.inl ci)) (hb : prN (hN h) b) (kk : AW X mt d kc ks (pc + 1) ls st (sR h a j (some b)) Q) : AW X mt d kc ks pc ls (.ref b :: .int i :: .ref a :: st) h Q := by
  subst hi
  intro p l e R s m args below meth c A G cls Z H locs cells slots ad lsA C F D hc hs2 hA
  obtain ⟨ia, hia, hga⟩ := wld_at (cls := cls) (ad := ad) ha
  obtain ⟨ib, hib, hgb⟩ := wld_at (cls := cls) (ad := ad) hb
  obtain ⟨q1, q2⟩ := nI_i hj (kdA_len hs).2
  have hset := set_R (cls := cls) (ad := ad) (j := j) (v := some b) hs (by omega) hia D.2.2.2.1
  refine va_astq C.1 C.2.1 C.2.2.2.2.2.2.2.2.2.2.1 D.1 D.2.1 D.2.2.1 ia t ib ci (r := (cR ci, cT ci, nF ci)) (f := fun j => (hR h a j).map ad) (by rw [hga, ce_arr hs, aC_ref (by omega)]) (by rcases ht with ⟨rfl, rfl⟩ | ⟨rfl, rfl⟩ | ⟨rfl, rfl⟩ <;> rfl) (by rw [hgb, ce_obj hsb]) (vwCl_at (kdA_ci hsb)) q1 hd (fun H1 locs1 z1 z2 z3 => ?_)
  rw [q2] at z1 z2
  rw [show some (ad b) = (some b).map ad from rfl, hset] at z1 z2
  exact kk p l e R s m args below meth c A G cls Z H1 locs1 cells slots ad lsA C F ⟨z1, z2, z3, wfh_sRx (Or.inl hb) D.2.2.2.1, D.2.2.2.2⟩ hc hs2 hA
theorem g_aast0 {a t n j : Nat} {i : Int32} (hd : decode (mB mt) pc = .ok (.aastore, 1)) (hs : kdA a = some (.inr (t, n))) (ht : t = 4 ∨ t = 6 ∨ t = 7) (ha : prN (hN h) a) (hi : i = nI j) (hj : j < n) (kk : AW X mt d kc ks (pc + 1) ls st (sR h a j none) Q) : AW X mt d kc ks pc ls (.null :: .int i :: .ref a :: st) h Q := by
  subst hi
  intro p l e R s m args below meth c A G cls Z H locs cells slots ad lsA C F D hc hs2 hA
  obtain ⟨ia, hia, hga⟩ := wld_at (cls := cls) (ad := ad) ha
  obtain ⟨q1, q2⟩ := nI_i hj (kdA_len hs).2
  obtain ⟨C9, hC9⟩ := tyF_o ht
  have hset := set_R (cls := cls) (ad := ad) (j := j) (v := none) hs (by omega) hia D.2.2.2.1
  refine va_astqN C.1 C.2.1 C.2.2.2.2.2.2.2.2.2.2.1 D.1 D.2.1 D.2.2.1 ia t (f := fun j => (hR h a j).map ad) (by rw [hga, ce_arr hs, aC_ref (by omega)]) (by rw [tys_at t (by omega), hC9]) q1 hd (fun H1 locs1 z1 z2 z3 => ?_)
  rw [q2] at z1 z2
  rw [show (none : Option Nat) = (none : Option Nat).map ad from rfl, hset] at z1 z2
  exact kk p l e R s m args below meth c A G cls Z H1 locs1 cells slots ad lsA C F ⟨z1, z2, z3, wfh_sR0 D.2.2.2.1, D.2.2.2.2⟩ hc hs2 hA
-- the fixed cells
theorem a_get {a ci k idx : Nat} {v : Value} (hd : decode (mB mt) pc = .ok (.getfield idx, 3)) (hf : FL mt idx ci k) (hk : k < nF ci) (hs : shK a = some (.inl ci)) (ha : a < hN h) (hv : ∀ ad, fv ad h a ci k = cv ad v) (kk : AW X mt d kc ks (pc + 3) ls (v :: st) h Q) : AW X mt d kc ks pc ls (.ref a :: st) h Q := g_get hd hf hk (kdA_sh hs) (pr_sh hs ha) hv kk
theorem a_getI {a ci k idx : Nat} (hd : decode (mB mt) pc = .ok (.getfield idx, 3)) (hf : FL mt idx ci k) (hk : k < nF ci) (ht : fK ci k = 0) (hs : shK a = some (.inl ci)) (ha : a < hN h) (kk : AW X mt d kc ks (pc + 3) ls (.int (hI h a k) :: st) h Q) : AW X mt d kc ks pc ls (.ref a :: st) h Q := g_getI hd hf hk ht (kdA_sh hs) (pr_sh hs ha) kk
theorem a_getL {a ci k idx : Nat} (hd : decode (mB mt) pc = .ok (.getfield idx, 3)) (hf : FL mt idx ci k) (hk : k < nF ci) (ht : fK ci k = 1) (hs : shK a = some (.inl ci)) (ha : a < hN h) (kk : AW X mt d kc ks (pc + 3) ls (.long (hL h a k) :: st) h Q) : AW X mt d kc ks pc ls (.ref a :: st) h Q := g_getL hd hf hk ht (kdA_sh hs) (pr_sh hs ha) kk
theorem a_getR {a ci k idx b : Nat} (hd : decode (mB mt) pc = .ok (.getfield idx, 3)) (hf : FL mt idx ci k) (hk : k < nF ci) (ht : fK ci k = 2) (hs : shK a = some (.inl ci)) (ha : a < hN h) (hr : hR h a k = some b) (kk : AW X mt d kc ks (pc + 3) ls (.ref b :: st) h Q) : AW X mt d kc ks pc ls (.ref a :: st) h Q := g_getR hd hf hk ht (kdA_sh hs) (pr_sh hs ha) hr kk
theorem a_put {a ci k idx : Nat} {v : Value} {h' : AH} (hd : decode (mB mt) pc = .ok (.putfield idx, 3)) (hf : FL mt idx ci k) (hk : k < nF ci) (hs : shK a = some (.inl ci)) (ha : a < hN h) (hfin : (cT ci k).2.2.2 = false ∨ ((cT ci k).2.2.2 = true ∧ (mN mt).name = "<init>" ∧ (cT ci k).1 = (mN mt).cls ∧ Cond.fieldLink (mN mt).cls idx (cT ci k).1 (cT ci k).2.1 (cT ci k).2.2.1 ∈ lw_tb2))
    (hn : ∀ ad, narrow (fT ci k) (cv ad v) = cv ad v) (hfit : ∀ ad, fits (fT ci k) (cv ad v) = true) (eN : hN h' = hN h) (ho : ∀ b, b ≠ a → hI h' b = hI h b ∧ hL h' b = hL h b ∧ hR h' b = hR h b) (hv : ∀ ad, (fun j => if j = k then cv ad v else fv ad h a ci j) = fv ad h' a ci) (hw' : wfh h → wfh h')
    (kk : AW X mt d kc ks (pc + 3) ls st h' Q) : AW X mt d kc ks pc ls (v :: .ref a :: st) h Q := g_put hd hf hk (kdA_sh hs) (pr_sh hs ha) hfin hn hfit eN ho hv hw' kk
theorem a_putI {a ci k idx : Nat} {x : Int32} (hd : decode (mB mt) pc = .ok (.putfield idx, 3)) (hf : FL mt idx ci k) (hk : k < nF ci) (ht : fT ci k = .int ∨ (fT ci k = .boolean ∧ (x = 0 ∨ x = 1))) (hs : shK a = some (.inl ci)) (ha : a < hN h) (hfin : (cT ci k).2.2.2 = false) (kk : AW X mt d kc ks (pc + 3) ls st (sI h a k x) Q) : AW X mt d kc ks pc ls (.int x :: .ref a :: st) h Q := g_putI hd hf hk ht (kdA_sh hs) (pr_sh hs ha) hfin kk
theorem a_putL {a ci k idx : Nat} {x : Int64} (hd : decode (mB mt) pc = .ok (.putfield idx, 3)) (hf : FL mt idx ci k) (hk : k < nF ci) (ht : fT ci k = .long) (hs : shK a = some (.inl ci)) (ha : a < hN h) (hfin : (cT ci k).2.2.2 = false) (kk : AW X mt d kc ks (pc + 3) ls st (sL h a k x) Q) : AW X mt d kc ks pc ls (.long x :: .ref a :: st) h Q := g_putL hd hf hk ht (kdA_sh hs) (pr_sh hs ha) hfin kk
theorem a_putRF {a ci k idx b : Nat} (hd : decode (mB mt) pc = .ok (.putfield idx, 3)) (hf : Cond.fieldLink (mN mt).cls idx (cT ci k).1 (cT ci k).2.1 (cT ci k).2.2.1 ∈ lw_tb2) (hk : k < nF ci) (ht : fK ci k = 2) (hs : shK a = some (.inl ci)) (ha : a < hN h) (hb : b < hN h) {xb : Nat ⊕ (Nat × Nat)} (hsb : shK b = some xb) (hfin : (cT ci k).2.2.2 = true) (hi : (mN mt).name = "<init>") (ho : (cT ci k).1 = (mN mt).cls) (kk : AW X mt d kc ks (pc + 3) ls st (sR h a k (some b)) Q) : AW X mt d kc ks pc ls (.ref b :: .ref a :: st) h Q := g_putRF hd hf hk ht (kdA_sh hs) (pr_sh hs ha) (pr_sh hsb hb) hfin hi ho kk
theorem a_iald {a n j : Nat} {i : Int32} (hd : decode (mB mt) pc = .ok (.iaload, 1)) (hs : shK a = some (.inr (0, n))) (ha : a < hN h) (hi : i = nI j) (hj : j < n) (kk : AW X mt d kc ks (pc + 1) ls (.int (hI h a j) :: st) h Q) : AW X mt d kc ks pc ls (.int i :: .ref a :: st) h Q := g_iald hd (kdA_sh hs) (pr_sh hs ha) hi hj kk
theorem a_bald {a n j : Nat} {i : Int32} (hd : decode (mB mt) pc = .ok (.baload, 1)) (hs : shK a = some (.inr (1, n))) (ha : a < hN h) (hi : i = nI j) (hj : j < n) (kk : AW X mt d kc ks (pc + 1) ls (.int (hI h a j) :: st) h Q) : AW X mt d kc ks pc ls (.int i :: .ref a :: st) h Q := g_bald hd (kdA_sh hs) (pr_sh hs ha) hi hj kk
theorem a_zald {a n j : Nat} {i : Int32} (hd : decode (mB mt) pc = .ok (.baload, 1)) (hs : shK a = some (.inr (2, n))) (ha : a < hN h) (hi : i = nI j) (hj : j < n) (kk : AW X mt d kc ks (pc + 1) ls (.int (hI h a j) :: st) h Q) : AW X mt d kc ks pc ls (.int i :: .ref a :: st) h Q := g_zald hd (kdA_sh hs) (pr_sh hs ha) hi hj kk
theorem a_lald {a n j : Nat} {i : Int32} (hd : decode (mB mt) pc = .ok (.laload, 1)) (hs : shK a = some (.inr (3, n))) (ha : a < hN h) (hi : i = nI j) (hj : j < n) (kk : AW X mt d kc ks (pc + 1) ls (.long (hL h a j) :: st) h Q) : AW X mt d kc ks pc ls (.int i :: .ref a :: st) h Q := g_lald hd (kdA_sh hs) (pr_sh hs ha) hi hj kk
theorem a_aald {a n j b : Nat} {i : Int32} (hd : decode (mB mt) pc = .ok (.aaload, 1)) (hs : shK a = some (.inr (4, n))) (ha : a < hN h) (hi : i = nI j) (hj : j < n) (hr : hR h a j = some b) (kk : AW X mt d kc ks (pc + 1) ls (.ref b :: st) h Q) : AW X mt d kc ks pc ls (.int i :: .ref a :: st) h Q := g_aald hd (kdA_sh hs) (pr_sh hs ha) hi hj hr kk
theorem a_rald {a n j b : Nat} {i : Int32} (hd : decode (mB mt) pc = .ok (.aaload, 1)) (hs : shK a = some (.inr (5, n))) (ha : a < hN h) (hi : i = nI j) (hj : j < n) (hr : hR h a j = some b) (kk : AW X mt d kc ks (pc + 1) ls (.ref b :: st) h Q) : AW X mt d kc ks pc ls (.int i :: .ref a :: st) h Q := g_rald hd (kdA_sh hs) (pr_sh hs ha) hi hj hr kk
theorem a_alen {a t n : Nat} (hd : decode (mB mt) pc = .ok (.arraylength, 1)) (hs : shK a = some (.inr (t, n))) (ha : a < hN h) (kk : AW X mt d kc ks (pc + 1) ls (.int (nI n) :: st) h Q) : AW X mt d kc ks pc ls (.ref a :: st) h Q := g_alen hd (kdA_sh hs) (pr_sh hs ha) kk
theorem a_iast {a n j : Nat} {i x : Int32} (hd : decode (mB mt) pc = .ok (.iastore, 1)) (hs : shK a = some (.inr (0, n))) (ha : a < hN h) (hi : i = nI j) (hj : j < n) (kk : AW X mt d kc ks (pc + 1) ls st (sI h a j x) Q) : AW X mt d kc ks pc ls (.int x :: .int i :: .ref a :: st) h Q := g_iast hd (kdA_sh hs) (pr_sh hs ha) hi hj kk
theorem a_bast {a n j : Nat} {i x : Int32} (hd : decode (mB mt) pc = .ok (.bastore, 1)) (hs : shK a = some (.inr (1, n))) (ha : a < hN h) (hi : i = nI j) (hj : j < n) (kk : AW X mt d kc ks (pc + 1) ls st (sI h a j x.toInt8.toInt32) Q) : AW X mt d kc ks pc ls (.int x :: .int i :: .ref a :: st) h Q := g_bast hd (kdA_sh hs) (pr_sh hs ha) hi hj kk
theorem a_zast {a n j : Nat} {i x : Int32} (hd : decode (mB mt) pc = .ok (.bastore, 1)) (hs : shK a = some (.inr (2, n))) (ha : a < hN h) (hi : i = nI j) (hj : j < n) (kk : AW X mt d kc ks (pc + 1) ls st (sI h a j (x &&& 1)) Q) : AW X mt d kc ks pc ls (.int x :: .int i :: .ref a :: st) h Q := g_zast hd (kdA_sh hs) (pr_sh hs ha) hi hj kk
theorem a_last {a n j : Nat} {i : Int32} {x : Int64} (hd : decode (mB mt) pc = .ok (.lastore, 1)) (hs : shK a = some (.inr (3, n))) (ha : a < hN h) (hi : i = nI j) (hj : j < n) (kk : AW X mt d kc ks (pc + 1) ls st (sL h a j x) Q) : AW X mt d kc ks pc ls (.long x :: .int i :: .ref a :: st) h Q := g_last hd (kdA_sh hs) (pr_sh hs ha) hi hj kk
theorem a_aast {a n j b : Nat} {i : Int32} (hd : decode (mB mt) pc = .ok (.aastore, 1)) (hs : shK a = some (.inr (4, n))) (ha : a < hN h) (hi : i = nI j) (hj : j < n) (hsb : shK b = some (.inl 3)) (hb : b < hN h) (kk : AW X mt d kc ks (pc + 1) ls st (sR h a j (some b)) Q) : AW X mt d kc ks pc ls (.ref b :: .int i :: .ref a :: st) h Q := g_aast hd (kdA_sh hs) (pr_sh hs ha) hi hj (kdA_sh hsb) (pr_sh hsb hb) kk
end RW7
