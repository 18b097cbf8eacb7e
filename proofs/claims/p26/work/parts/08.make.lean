/-! rows of AW: cells that are made; the ends of a method -/
def okv (n : Nat) : Value → Bool
  | .ref a => decide (a < n) || (decide (1000 ≤ a) && decide (a < 1030))
  | _ => true
theorem cv_okv {n : Nat} {ad ad' : Nat → Nat} (he : ∀ a, (a < n ∨ 90 ≤ a) → ad' a = ad a) {v : Value} (hv : okv n v = true) : cv ad' v = cv ad v := by
  cases v <;> first | rfl | skip
  rename_i a
  simp only [okv, Bool.or_eq_true, Bool.and_eq_true, decide_eq_true_eq] at hv
  simp only [cv, he a (hv.imp id (fun z => Nat.le_trans (by decide) z.1))]
theorem map_okv {n : Nat} {ad ad' : Nat → Nat} (he : ∀ a, (a < n ∨ 90 ≤ a) → ad' a = ad a) {st : List Value} (hv : st.all (okv n) = true) : st.map (cv ad') = st.map (cv ad) :=
  List.map_congr_left fun v q => cv_okv he (List.all_eq_true.mp hv v q)
theorem map_okl {n : Nat} {ad ad' : Nat → Nat} (he : ∀ a, (a < n ∨ 90 ≤ a) → ad' a = ad a) {ls : List (Nat × Value)} (hv : ls.all (fun q => okv n q.2) = true) : ls.map (cl1 ad') = ls.map (cl1 ad) :=
  List.map_congr_left fun v q => by simp only [cl1, cv_okv he (List.all_eq_true.mp hv v q)]
theorem adOK_upx {X : XT} {ad ad' : Nat → Nat} (he : ∀ a, ext a → ad' a = ad a) (h : adOK X ad) : adOK X ad' :=
  ⟨(he _ (by unfold ext; omega)).trans h.1, fun i hi => (he _ (by unfold ext; omega)).trans (h.2.1 i hi), fun i hi => (he _ (by unfold ext; omega)).trans (h.2.2.1 i hi), (he _ (by unfold ext; omega)).trans h.2.2.2⟩
theorem adOK_up {X : XT} {ad ad' : Nat → Nat} {n : Nat} (he : ∀ a, (a < n ∨ 90 ≤ a) → ad' a = ad a) (h : adOK X ad) : adOK X ad' := adOK_upx (fun a ha => he a (Or.inr (by unfold ext at ha; omega))) h
/-- a value that a new cell leaves as it is -/
def okd (N : Nat) (v : Value) : Prop := ∀ a, v = .ref a → prN N a ∨ ext a
theorem okd_i {N : Nat} {x : Int32} : okd N (.int x) := fun a e => by cases e
theorem okd_l {N : Nat} {x : Int64} : okd N (.long x) := fun a e => by cases e
theorem okd_n {N : Nat} : okd N .null := fun a e => by cases e
theorem okd_r {N b : Nat} (h : prN N b) : okd N (.ref b) := fun a e => by cases e; exact Or.inl h
theorem okd_x {N b : Nat} (h : ext b) : okd N (.ref b) := fun a e => by cases e; exact Or.inr h
theorem cv_okd {N : Nat} {ad ad' : Nat → Nat} (he : ∀ a, (prN N a ∨ ext a) → ad' a = ad a) {v : Value} (hv : okd N v) : cv ad' v = cv ad v := by
  cases v <;> first | rfl | skip
  rename_i a
  simp only [cv, he a (hv a rfl)]
theorem map_okd {N : Nat} {ad ad' : Nat → Nat} (he : ∀ a, (prN N a ∨ ext a) → ad' a = ad a) {st : List Value} (hv : ∀ v ∈ st, okd N v) : st.map (cv ad') = st.map (cv ad) :=
  List.map_congr_left fun v q => cv_okd he (hv v q)
theorem map_okdl {N : Nat} {ad ad' : Nat → Nat} (he : ∀ a, (prN N a ∨ ext a) → ad' a = ad a) {ls : List (Nat × Value)} (hv : ∀ q ∈ ls, okd N q.2) : ls.map (cl1 ad') = ls.map (cl1 ad) :=
  List.map_congr_left fun v q => by simp only [cl1, cv_okd he (hv v q)]
theorem okd_okv {N : Nat} (h68 : N ≤ 68) {v : Value} (h : okv N v = true) : okd N v := fun a e => by
  subst e
  simp only [okv, Bool.or_eq_true, Bool.and_eq_true, decide_eq_true_eq] at h
  rcases h with z | z
  · exact Or.inl (prN_st z (Nat.lt_of_lt_of_le z h68))
  · exact Or.inr ⟨z.1, Nat.lt_trans z.2 (by decide), Nat.ne_of_lt z.2⟩
theorem okz {α : Type} {P : α → Prop} : ∀ q ∈ ([] : List α), P q := fun _ h => by cases h
theorem okc {α : Type} {P : α → Prop} {x : α} {l : List α} (h : P x) (hl : ∀ q ∈ l, P q) : ∀ q ∈ x :: l, P q := fun q hq => by
  rcases List.mem_cons.mp hq with rfl | hq
  · exact h
  · exact hl q hq
theorem hC_succ {N : Nat} (h : N < 68) : hC (N + 1) = hC N ++ [N] := by
  unfold hC
  rw [dyn_low (by omega), dyn_low (by omega), List.append_nil, List.append_nil, Nat.min_eq_left (by omega), Nat.min_eq_left (by omega), List.range_succ]
theorem hC_adn {N c : Nat} (h : 68 ≤ N) : hC (adn N c) = hC N ++ [c] := by
  unfold hC
  rw [dyn_adn, Nat.min_eq_right adn_ge, Nat.min_eq_right h, List.append_assoc]
theorem wld_ext {cls : Nat → ClassId} {ad ad' : Nat → Nat} {h h' : AH} {nl : List Nat} (hn : hC (hN h') = hC (hN h) ++ nl) (ho : ∀ a, prN (hN h) a → ad' a = ad a ∧ ce cls ad' h' a = ce cls ad h a) : wld cls ad' h' = wld cls ad h ++ nl.map (fun a => (ad' a, ce cls ad' h' a)) := by
  unfold wld
  rw [hn, List.map_append]
  congr 1
  exact List.map_congr_left fun a ha => by rw [(ho a ha).1, (ho a ha).2]
theorem up_ne {α : Type} {f : Nat → α} {k j : Nat} {v : α} (h : j ≠ k) : va_up f k v j = f j := if_neg h
theorem up_eq {α : Type} {f : Nat → α} {k : Nat} {v : α} : va_up f k v k = v := if_pos rfl
theorem hN_nw {h : AH} : hN (nw h) = hN h + 1 := rfl
theorem nw_old {cls : Nat → ClassId} {ad : Nat → Nat} {h : AH} {q : Nat} (hl : hN h < 68) (hw : wfh h) : ∀ a, prN (hN h) a → va_up ad (hN h) q a = ad a ∧ ce cls (va_up ad (hN h) q) (nw h) a = ce cls ad h a := by
  intro a ha
  have hp := fun b => prN_low (N := hN h) (a := b) (Nat.le_of_lt hl)
  have hne : a ≠ hN h := by have := (hp a).mp ha; omega
  refine ⟨up_ne hne, ce_congr (upr_row hne) (upr_row hne) (fun j => ?_)⟩
  rw [show hR (nw h) a = hR h a from upr_row hne]
  cases e : hR h a j with
  | none => rfl
  | some k =>
    simp only [Option.map_some]
    rw [up_ne ?_]
    rcases hw.2 a j k ha e with z | z
    · have := (hp k).mp z; omega
    · unfold ext at z; omega
theorem wfh_nw {h : AH} (hn : hN h < 68) (hw : wfh h) : wfh (nw h) := by
  have hp := fun b => prN_low (N := hN h) (a := b) (Nat.le_of_lt hn)
  have hp2 := fun b => prN_low (N := hN (nw h)) (a := b) (show hN h + 1 ≤ 68 from hn)
  refine ⟨by rw [hN_nw, dyn_low (by omega), ← dyn_low (N := hN h) (by omega)]; exact hw.1, fun a j k ha e => ?_⟩
  rw [hp2, hN_nw] at ha
  rw [hp2, hN_nw]
  by_cases q : a = hN h
  · rw [show hR (nw h) a = (fun _ => none) from by subst q; exact if_pos rfl] at e
    cases e
  · rw [show hR (nw h) a = hR h a from upr_row q] at e
    rcases hw.2 a j k ((hp a).mpr (by omega)) e with z | z
    · have := (hp k).mp z
      exact Or.inl (by omega)
    · exact Or.inr z
theorem nw_row {h : AH} : hI (nw h) (hN h) = (fun _ => 0) ∧ hL (nw h) (hN h) = (fun _ => 0) ∧ hR (nw h) (hN h) = (fun _ => none) := ⟨if_pos rfl, if_pos rfl, if_pos rfl⟩
theorem hN_nwD {h : AH} {c : Nat} : hN (nwD h c) = adn (hN h) c := rfl
theorem nwD_row {h : AH} {c : Nat} : hI (nwD h c) c = (fun _ => 0) ∧ hL (nwD h c) c = (fun _ => 0) ∧ hR (nwD h c) c = (fun _ => none) := ⟨if_pos rfl, if_pos rfl, if_pos rfl⟩
theorem nwD_old {h : AH} {c a : Nat} (hne : a ≠ c) : hI (nwD h c) a = hI h a ∧ hL (nwD h c) a = hL h a ∧ hR (nwD h c) a = hR h a := ⟨upr_row hne, upr_row hne, upr_row hne⟩
/-- what a new cell of the name c wants: the fixed cells are all made, the name is new -/
def newC (N c k q : Nat) : Prop := 68 ≤ N ∧ c = nm k q ∧ k = dl N ∧ q < 1024
theorem newC.no {N c k q : Nat} (w : dOK (dyn N)) (n : newC N c k q) : ¬ prN N c ∧ ¬ ext c := by
  obtain ⟨h1, rfl, h3, h4⟩ := n
  exact ⟨nm_new w h3 h4, by unfold ext nm; omega⟩
theorem ce_old {cls : Nat → ClassId} {ad ad' : Nat → Nat} {h h' : AH} {c a : Nat} (hw : wfh h) (hc : ¬ prN (hN h) c ∧ ¬ ext c) (ho : ∀ b, b ≠ c → hI h' b = hI h b ∧ hL h' b = hL h b ∧ hR h' b = hR h b) (he : ∀ b, b ≠ c → ad' b = ad b) (ha : prN (hN h) a) : ad' a = ad a ∧ ce cls ad' h' a = ce cls ad h a := by
  have hne : a ≠ c := fun e => hc.1 (e ▸ ha)
  obtain ⟨e1, e2, e3⟩ := ho a hne
  refine ⟨he a hne, ce_congr e1 e2 (fun j => ?_)⟩
  rw [e3]
  cases e : hR h a j with
  | none => rfl
  | some k =>
    simp only [Option.map_some]
    rw [he k (fun z => ?_)]
    subst z
    rcases hw.2 a j k ha e with z | z
    · exact hc.1 z
    · exact hc.2 z
theorem wfh_D {h h' : AH} {c k q : Nat} (hw : wfh h) (n : newC (hN h) c k q) (hn : hN h' = adn (hN h) c) (ho : ∀ b, b ≠ c → hR h' b = hR h b) (hcr : ∀ j b, hR h' c j = some b → prN (hN h) b ∨ ext b) : wfh h' := by
  have hp := fun b => prN_adn (N := hN h) (c := c) (a := b) n.1
  refine ⟨?_, fun a j b ha e => ?_⟩
  · rw [hn]
    obtain ⟨h1, rfl, h3, h4⟩ := n
    exact dOK_add hw.1 h3 h4
  · rw [hn] at ha ⊢
    rw [hp] at ha ⊢
    by_cases z : a = c
    · subst z
      exact (hcr j b e).imp Or.inl id
    · rw [ho a z] at e
      exact (hw.2 a j b (ha.resolve_right z) e).imp Or.inl id
theorem dflt_ok : ∀ ci, ci < 9 → ∀ k, k < nF ci → defaultValue (fT ci k) = if fK ci k = 0 then .int 0 else if fK ci k = 1 then .long 0 else .null := cls_cases (by decide +kernel) (by decide +kernel) (by decide +kernel) (by decide +kernel) (by decide +kernel) (by decide +kernel) (by decide +kernel) (by decide +kernel) (by decide +kernel)
section RW8
variable {X : XT} {mt : MT} {d kc ks pc : Nat} {ls ls' : List (Nat × Value)} {st : List Value} {h : AH} {Q : Res → AH → Prop}
/-- FIN, seen behind a making -/
theorem FIN.up {p : Program} {l : Launch} {e : Env} {R : Room} {s : State} {m : MethodId} {args : Array Value} {below : List Frame} {meth : Method} {c : Code} {A : Nat → Prop} {G : va_G} {cls : Nat → ClassId} {Z : State → Prop} {n n1 : Nat} {ad ad1 : Nat → Nat} (F : FIN X mt p l e R s m args below meth c A G cls Z n ad Q) (hn : xF X = false → ∀ a, prN n a → prN n1 a) (he : xF X = false → ∀ a, (prN n a ∨ ¬ prN n1 a) → ad1 a = ad a) : FIN X mt p l e R s m args below meth c A G cls Z n1 ad1 Q := by
  have key : ∀ (N' : Nat) (ad' : Nat → Nat), (xF X = false → ∀ a, (prN n1 a ∨ ¬ prN N' a) → ad' a = ad1 a) → (xF X = false → ∀ a, prN n1 a → prN N' a) → (xF X = false → ∀ a, (prN n a ∨ ¬ prN N' a) → ad' a = ad a) ∧ (xF X = false → ∀ a, prN n a → prN N' a) := fun N' ad' q1 q2 => by
    refine ⟨fun x a ha => ?_, fun x a ha => q2 x a (hn x a ha)⟩
    rcases ha with z | z
    · exact (q1 x a (Or.inl (hn x a z))).trans (he x a (Or.inl z))
    · exact (q1 x a (Or.inr z)).trans (he x a (Or.inr (fun y => z (q2 x a y))))
  exact ⟨fun v h' q ad' H' locs' cells' slots' lsA pc ins q1 q2 q3 q4 q5 q6 q7 => F.1 v h' q ad' H' locs' cells' slots' lsA pc ins (key _ _ q1 q2).1 (key _ _ q1 q2).2 q3 q4 q5 q6 q7,
    fun E h' q ad' H' locs' cells' slots' lsA pc st q1 q2 q3 q4 q5 => F.2 E h' q ad' H' locs' cells' slots' lsA pc st (key _ _ q1 q2).1 (key _ _ q1 q2).2 q3 q4 q5⟩
theorem FIN.lo {p : Program} {l : Launch} {e : Env} {R : Room} {s : State} {m : MethodId} {args : Array Value} {below : List Frame} {meth : Method} {c : Code} {A : Nat → Prop} {G : va_G} {cls : Nat → ClassId} {Z : State → Prop} {n n1 : Nat} {ad ad1 : Nat → Nat} (F : FIN X mt p l e R s m args below meth c A G cls Z n ad Q) (h68 : n1 ≤ 68) (hn : n ≤ n1) (he : ∀ a, (a < n ∨ n1 ≤ a) → ad1 a = ad a) : FIN X mt p l e R s m args below meth c A G cls Z n1 ad1 Q :=
  F.up (fun _ a ha => (prN_low h68).mpr (by have := (prN_low (Nat.le_trans hn h68)).mp ha; omega)) (fun _ a ha => he a (by
    rw [prN_low h68, prN_low (Nat.le_trans hn h68)] at ha
    omega))
theorem FIN.dy {p : Program} {l : Launch} {e : Env} {R : Room} {s : State} {m : MethodId} {args : Array Value} {below : List Frame} {meth : Method} {c : Code} {A : Nat → Prop} {G : va_G} {cls : Nat → ClassId} {Z : State → Prop} {n b : Nat} {ad ad1 : Nat → Nat} (F : FIN X mt p l e R s m args below meth c A G cls Z n ad Q) (h68 : 68 ≤ n) (hb : ¬ prN n b) (he : ∀ a, a ≠ b → ad1 a = ad a) : FIN X mt p l e R s m args below meth c A G cls Z (adn n b) ad1 Q :=
  F.up (fun _ a ha => (prN_adn h68).mpr (Or.inl ha)) (fun _ a ha => he a (fun z => by
    subst z
    rw [prN_adn h68] at ha
    rcases ha with ha | ha
    · exact hb ha
    · exact ha (Or.inr rfl)))
theorem a_new {ci idx : Nat} (hd : decode (mB mt) pc = .ok (.new idx, 3)) (hs : shK (hN h) = some (.inl ci)) (hl1 : Cond.classLink (mN mt).cls idx (cR ci) ∈ lw_tb2) (hl2 : Cond.instantiable (cR ci) (nF ci) ∈ lw_tb2) (hl3 : Cond.initialized (cR ci) ∈ lw_tb2) (hok1 : ls.all (fun q => okv (hN h) q.2) = true) (hok2 : st.all (okv (hN h)) = true)
    (kk : AW X mt d kc ks (pc + 3) ls (.ref (hN h) :: st) (nw h) Q) : AW X mt d (kc + 1) (ks + nF ci) pc ls st h Q := by
  intro p l e R s m args below meth c A G cls Z H locs cells slots ad lsA C F D hc hs2 hA
  have hci := kdA_ci (kdA_sh hs)
  obtain ⟨hx, hb, hml, hown, hw, -, -, -, -, hAs, hK, hE, -, -⟩ := id C
  refine va_new (ci := ci) (C := cR ci) (T := cT ci) (N := nF ci) (Ts := u_ws (cR ci) (cT ci) (nF ci)) (fs := (List.range (nF ci)).map (fv ad (nw h) (hN h) ci)) hx hb (fun w q => hw w (uws_ok ci hci w q).1 (uws_ok ci hci w q).2) (fun _ q => q) (fT ci) (tyc_ok ci hci) hown (hw _ hl1 rfl) (hw _ hl2 rfl) (hw _ hl3 rfl) hK D.1 D.2.1 D.2.2.1 hAs (vwCl_at hci) (fun j hj => ?_) (by omega) (by omega) hd (fun q H1 z1 z2 z3 => ?_)
  · rw [dflt_ok ci hci j hj]
    simp only [vp_V, List.getD_eq_getElem?_getD, fs_get hj, Option.getD_some, fv, nw_row]
    rfl
  · have hn90 := shK_lt hs
    have hext : ∀ a, (a < hN h ∨ hN h + 1 ≤ a) → va_up ad (hN h) q a = ad a := fun a ha => up_ne (by omega)
    have hext9 : ∀ a, (a < hN h ∨ 90 ≤ a) → va_up ad (hN h) q a = ad a := fun a ha => up_ne (by omega)
    have hwld : wld cls (va_up ad (hN h) q) (nw h) = wld cls ad h ++ [(q, .inr (ci, (List.range (nF ci)).map (fv ad (nw h) (hN h) ci)))] := by
      rw [wld_ext (h := h) (h' := nw h) (hC_succ hn90) (nw_old hn90 D.2.2.2.1), List.map_cons, List.map_nil]
      congr 2
      rw [up_eq, ce_obj (kdA_sh hs)]
      have e : fv (va_up ad (hN h) q) (nw h) (hN h) ci = fv ad (nw h) (hN h) ci := funext fun k => by simp only [fv, nw_row]; rfl
      rw [e]
    have g := kk p l e R s m args below meth c A G cls Z H1 locs (cells + 1) (slots + nF ci) (va_up ad (hN h) q) lsA C (F.lo hn90 (Nat.le_succ _) hext) ⟨by rw [hwld]; exact z1, by rw [hwld]; exact z2, z3, wfh_nw hn90 D.2.2.2.1, adOK_up hext9 D.2.2.2.2⟩ (by omega) (by omega) (by rw [map_okl hext9 hok1]; exact hA)
    rw [List.map_cons, map_okv hext9 hok2] at g
    have e : cv (va_up ad (hN h) q) (.ref (hN h)) = .ref q := by simp only [cv, up_eq]
    rw [e] at g
    exact g
theorem cls_same {s : State} {G : va_G} {cls : Nat → ClassId} {tys : List (ClassId × FieldType)} {t : Nat} {ty : FieldType} {cA : ClassId} (hK : va_K G vwCl (tysOf cls) s) (hK2 : va_K G vwCl (tysOf cls ++ [(cA, ty)]) s) (ht : (tysOf cls)[t]? = some (cls t, ty)) : cA = cls t := by
  have h1 := (hK.2 t _ ht).2
  have h2 := (hK2.2 8 (cA, ty) rfl).2
  cases ty <;> first | exact Option.some.inj (h2.symm.trans h1) | skip
  obtain ⟨_, _, _, _, _, e1⟩ := h1
  obtain ⟨_, _, _, _, _, e2⟩ := h2
  exact Option.some.inj (e2.symm.trans e1)
theorem a_newarr {t n : Nat} {at' : ArrayType} {i : Int32} (hd : decode (mB mt) pc = .ok (.newarray at', 2)) (hs : shK (hN h) = some (.inr (t, n))) (hat : newarray.typeOf at' = tyF t) (ht : t < 4) (hl1 : Cond.arrayClass (tyF t) ∈ lw_tb2) (hi : i = nI n) (hok1 : ls.all (fun q => okv (hN h) q.2) = true) (hok2 : st.all (okv (hN h)) = true)
    (kk : AW X mt d kc ks (pc + 2) ls (.ref (hN h) :: st) (nw h) Q) : AW X mt d (kc + 1) (ks + n) pc ls (.int i :: st) h Q := by
  subst hi
  intro p l e R s m args below meth c A G cls Z H locs cells slots ad lsA C F D hc hs2 hA
  have hn := (shK_len hs).2
  obtain ⟨hx, hb, hml, hown, hw, -, -, -, -, hAs, hK, hE, -, -⟩ := id C
  have hcell : ∀ cA : ClassId, vp_cell cA (aC ad (nw h) (hN h) t n) = arrV cA n (fun _ => defaultValue (tyF t)) := by
    intro cA
    match t, ht with
    | 0, _ => simp only [aC, nw_row]; rfl
    | 1, _ => simp only [aC, nw_row]; rfl
    | 2, _ => simp only [aC, nw_row]; rfl
    | 3, _ => simp only [aC, nw_row]; rfl
  have hcb : componentBytes (tyF t) ≤ 8 := by
    match t, ht with
    | 0, _ => decide
    | 1, _ => decide
    | 2, _ => decide
    | 3, _ => decide
  refine va_newa (N' := n) (a0 := aC ad (nw h) (hN h) t n) hx hb (by rw [hat]; exact hw _ hl1 rfl) hat hK D.1 D.2.1 D.2.2.1 hAs hcell (nI_pos (by omega)) (nI_clamp (by omega)) (Nat.le_trans (Nat.mul_le_mul hn hcb) (by decide)) (by omega) (by omega) hd (fun q cA H1 zK z1 z2 z3 => ?_)
  have hn90 := shK_lt hs
  have hcA : cA = cls t := cls_same (tys := tysOf cls) hK zK (tys_at t (by omega))
  subst hcA
  have hext : ∀ a, (a < hN h ∨ hN h + 1 ≤ a) → va_up ad (hN h) q a = ad a := fun a ha => up_ne (by omega)
  have hext9 : ∀ a, (a < hN h ∨ 90 ≤ a) → va_up ad (hN h) q a = ad a := fun a ha => up_ne (by omega)
  have hwld : wld cls (va_up ad (hN h) q) (nw h) = wld cls ad h ++ [(q, .inl (cls t, aC ad (nw h) (hN h) t n))] := by
    rw [wld_ext (h := h) (h' := nw h) (hC_succ hn90) (nw_old hn90 D.2.2.2.1), List.map_cons, List.map_nil]
    congr 2
    rw [up_eq, ce_arr (kdA_sh hs)]
    have e : aC (va_up ad (hN h) q) (nw h) (hN h) t n = aC ad (nw h) (hN h) t n := by simp only [aC, nw_row]; rfl
    rw [e]
  have g := kk p l e R s m args below meth c A G cls Z H1 locs (cells + 1) (slots + n) (va_up ad (hN h) q) lsA C (F.lo hn90 (Nat.le_succ _) hext) ⟨by rw [hwld]; exact z1, by rw [hwld]; exact z2, z3, wfh_nw hn90 D.2.2.2.1, adOK_up hext9 D.2.2.2.2⟩ (by omega) (by omega) (by rw [map_okl hext9 hok1]; exact hA)
  rw [List.map_cons, map_okv hext9 hok2] at g
  have e : cv (va_up ad (hN h) q) (.ref (hN h)) = .ref q := by simp only [cv, up_eq]
  rw [e] at g
  exact g
theorem a_newref {n idx : Nat} {i : Int32} (hd : decode (mB mt) pc = .ok (.anewarray idx, 3)) (hs : shK (hN h) = some (.inr (4, n))) (hl1 : Cond.classLink (mN mt).cls idx "LetterCuts$Sheet" ∈ lw_tb2) (hi : i = nI n) (hok1 : ls.all (fun q => okv (hN h) q.2) = true) (hok2 : st.all (okv (hN h)) = true)
    (kk : AW X mt d kc ks (pc + 3) ls (.ref (hN h) :: st) (nw h) Q) : AW X mt d (kc + 1) (ks + n) pc ls (.int i :: st) h Q := by
  subst hi
  intro p l e R s m args below meth c A G cls Z H locs cells slots ad lsA C F D hc hs2 hA
  have hn := (shK_len hs).2
  obtain ⟨hx, hb, hml, hown, hw, -, -, -, -, hAs, hK, hE, -, -⟩ := id C
  refine va_newq (N' := n) hx hb hown (hw _ hl1 rfl) hE.2.2.1.1 hK D.1 D.2.1 D.2.2.1 hAs (nI_pos (by omega)) (nI_clamp (by omega)) (Nat.le_trans (Nat.mul_le_mul_right 4 hn) (by decide)) (by omega) (by omega) hd (fun q cA H1 zK z1 z2 z3 => ?_)
  have hn90 := shK_lt hs
  have hcA : cA = cls 4 := cls_same (t := 4) (tys := tysOf cls) hK zK (tys_at 4 (by omega))
  subst hcA
  have hext : ∀ a, (a < hN h ∨ hN h + 1 ≤ a) → va_up ad (hN h) q a = ad a := fun a ha => up_ne (by omega)
  have hext9 : ∀ a, (a < hN h ∨ 90 ≤ a) → va_up ad (hN h) q a = ad a := fun a ha => up_ne (by omega)
  have hwld : wld cls (va_up ad (hN h) q) (nw h) = wld cls ad h ++ [(q, .inl (cls 4, n, .inr (.inr (.inr (.inr (fun _ => none))))))] := by
    rw [wld_ext (h := h) (h' := nw h) (hC_succ hn90) (nw_old hn90 D.2.2.2.1), List.map_cons, List.map_nil]
    congr 2
    rw [up_eq, ce_arr (kdA_sh hs)]
    simp only [aC, nw_row]
    rfl
  have g := kk p l e R s m args below meth c A G cls Z H1 locs (cells + 1) (slots + n) (va_up ad (hN h) q) lsA C (F.lo hn90 (Nat.le_succ _) hext) ⟨by rw [hwld]; exact z1, by rw [hwld]; exact z2, z3, wfh_nw hn90 D.2.2.2.1, adOK_up hext9 D.2.2.2.2⟩ (by omega) (by omega) (by rw [map_okl hext9 hok1]; exact hA)
  rw [List.map_cons, map_okv hext9 hok2] at g
  have e : cv (va_up ad (hN h) q) (.ref (hN h)) = .ref q := by simp only [cv, up_eq]
  rw [e] at g
  exact g
theorem d_new {ci idx b k : Nat} (hd : decode (mB mt) pc = .ok (.new idx, 3)) (hci : ci < 9) (hn : newC (hN h) b k ci) (hl1 : Cond.classLink (mN mt).cls idx (cR ci) ∈ lw_tb2) (hl2 : Cond.instantiable (cR ci) (nF ci) ∈ lw_tb2) (hl3 : Cond.initialized (cR ci) ∈ lw_tb2) (hok1 : ∀ q ∈ ls, okd (hN h) q.2) (hok2 : ∀ v ∈ st, okd (hN h) v)
    (kk : AW X mt d kc ks (pc + 3) ls (.ref b :: st) (nwD h b) Q) : AW X mt d (kc + 1) (ks + nF ci) pc ls st h Q := by
  intro p l e R s m args below meth c A G cls Z H locs cells slots ad lsA C F D hc hs2 hA
  obtain ⟨hx, hb, hml, hown, hw, -, -, -, -, hAs, hK, hE, -, -⟩ := id C
  have hno := hn.no D.2.2.2.1.1
  have hs : kdA b = some (.inl ci) := by rw [hn.2.1]; exact kdA_c hci
  refine va_new (ci := ci) (C := cR ci) (T := cT ci) (N := nF ci) (Ts := u_ws (cR ci) (cT ci) (nF ci)) (fs := (List.range (nF ci)).map (fv ad (nwD h b) b ci)) hx hb (fun w q => hw w (uws_ok ci hci w q).1 (uws_ok ci hci w q).2) (fun _ q => q) (fT ci) (tyc_ok ci hci) hown (hw _ hl1 rfl) (hw _ hl2 rfl) (hw _ hl3 rfl) hK D.1 D.2.1 D.2.2.1 hAs (vwCl_at hci) (fun j hj => ?_) (by omega) (by omega) hd (fun q H1 z1 z2 z3 => ?_)
  · rw [dflt_ok ci hci j hj]
    simp only [vp_V, List.getD_eq_getElem?_getD, fs_get hj, Option.getD_some, fv, nwD_row]
    rfl
  · have hext : ∀ a, a ≠ b → va_up ad b q a = ad a := fun a ha => up_ne ha
    have hext9 : ∀ a, (prN (hN h) a ∨ ext a) → va_up ad b q a = ad a := fun a ha => up_ne (fun z => by subst z; exact ha.elim hno.1 hno.2)
    have hwld : wld cls (va_up ad b q) (nwD h b) = wld cls ad h ++ [(q, .inr (ci, (List.range (nF ci)).map (fv ad (nwD h b) b ci)))] := by
      rw [wld_ext (h := h) (h' := nwD h b) (hC_adn hn.1) (fun a ha => ce_old (h' := nwD h b) D.2.2.2.1 hno (fun b hb => nwD_old hb) hext ha), List.map_cons, List.map_nil]
      congr 2
      rw [up_eq, ce_obj hs]
      have e : fv (va_up ad b q) (nwD h b) b ci = fv ad (nwD h b) b ci := funext fun k => by simp only [fv, nwD_row]; rfl
      rw [e]
    have g := kk p l e R s m args below meth c A G cls Z H1 locs (cells + 1) (slots + nF ci) (va_up ad b q) lsA C (F.dy hn.1 hno.1 hext) ⟨by rw [hwld]; exact z1, by rw [hwld]; exact z2, z3, wfh_D D.2.2.2.1 hn rfl (fun b hb => (nwD_old hb).2.2) (fun j b e => by rw [nwD_row.2.2] at e; cases e), adOK_upx (fun a ha => hext9 a (Or.inr ha)) D.2.2.2.2⟩ (by omega) (by omega) (by rw [map_okdl hext9 hok1]; exact hA)
    rw [List.map_cons, map_okd hext9 hok2] at g
    have e : cv (va_up ad b q) (.ref b) = .ref q := by simp only [cv, up_eq]
    rw [e] at g
    exact g
theorem d_newarr {t n b k : Nat} {at' : ArrayType} {i : Int32} (hd : decode (mB mt) pc = .ok (.newarray at', 2)) (hn9 : n < 64) (hn : newC (hN h) b k (qA t n)) (hat : newarray.typeOf at' = tyF t) (ht : t < 4) (hl1 : Cond.arrayClass (tyF t) ∈ lw_tb2) (hi : i = nI n) (hok1 : ∀ q ∈ ls, okd (hN h) q.2) (hok2 : ∀ v ∈ st, okd (hN h) v)
    (kk : AW X mt d kc ks (pc + 2) ls (.ref b :: st) (nwD h b) Q) : AW X mt d (kc + 1) (ks + n) pc ls (.int i :: st) h Q := by
  subst hi
  intro p l e R s m args below meth c A G cls Z H locs cells slots ad lsA C F D hc hs2 hA
  obtain ⟨hx, hb, hml, hown, hw, -, -, -, -, hAs, hK, hE, -, -⟩ := id C
  have hno := hn.no D.2.2.2.1.1
  have hs : kdA b = some (.inr (t, n)) := by rw [hn.2.1]; exact kdA_a (by omega) hn9
  have hcell : ∀ cA : ClassId, vp_cell cA (aC ad (nwD h b) b t n) = arrV cA n (fun _ => defaultValue (tyF t)) := by
    intro cA
    match t, ht with
    | 0, _ => simp only [aC, nwD_row]; rfl
    | 1, _ => simp only [aC, nwD_row]; rfl
    | 2, _ => simp only [aC, nwD_row]; rfl
    | 3, _ => simp only [aC, nwD_row]; rfl
  have hcb : componentBytes (tyF t) ≤ 8 := by
    match t, ht with
    | 0, _ => decide
    | 1, _ => decide
    | 2, _ => decide
    | 3, _ => decide
  refine va_newa (N' := n) (a0 := aC ad (nwD h b) b t n) hx hb (by rw [hat]; exact hw _ hl1 rfl) hat hK D.1 D.2.1 D.2.2.1 hAs hcell (nI_pos (by omega)) (nI_clamp (by omega)) (Nat.le_trans (Nat.mul_le_mul (show n ≤ 4096 by omega) hcb) (by decide)) (by omega) (by omega) hd (fun q cA H1 zK z1 z2 z3 => ?_)
  have hcA : cA = cls t := cls_same (tys := tysOf cls) hK zK (tys_at t (by omega))
  subst hcA
  have hext : ∀ a, a ≠ b → va_up ad b q a = ad a := fun a ha => up_ne ha
  have hext9 : ∀ a, (prN (hN h) a ∨ ext a) → va_up ad b q a = ad a := fun a ha => up_ne (fun z => by subst z; exact ha.elim hno.1 hno.2)
  have hwld : wld cls (va_up ad b q) (nwD h b) = wld cls ad h ++ [(q, .inl (cls t, aC ad (nwD h b) b t n))] := by
    rw [wld_ext (h := h) (h' := nwD h b) (hC_adn hn.1) (fun a ha => ce_old (h' := nwD h b) D.2.2.2.1 hno (fun b hb => nwD_old hb) hext ha), List.map_cons, List.map_nil]
    congr 2
    rw [up_eq, ce_arr hs]
    have e : aC (va_up ad b q) (nwD h b) b t n = aC ad (nwD h b) b t n := by simp only [aC, nwD_row]; rfl
    rw [e]
  have g := kk p l e R s m args below meth c A G cls Z H1 locs (cells + 1) (slots + n) (va_up ad b q) lsA C (F.dy hn.1 hno.1 hext) ⟨by rw [hwld]; exact z1, by rw [hwld]; exact z2, z3, wfh_D D.2.2.2.1 hn rfl (fun b hb => (nwD_old hb).2.2) (fun j b e => by rw [nwD_row.2.2] at e; cases e), adOK_upx (fun a ha => hext9 a (Or.inr ha)) D.2.2.2.2⟩ (by omega) (by omega) (by rw [map_okdl hext9 hok1]; exact hA)
  rw [List.map_cons, map_okd hext9 hok2] at g
  have e : cv (va_up ad b q) (.ref b) = .ref q := by simp only [cv, up_eq]
  rw [e] at g
  exact g
theorem d_newref {t n b k idx : Nat} {i : Int32} {E : String} (hd : decode (mB mt) pc = .ok (.anewarray idx, 3)) (hn9 : n < 64) (hn : newC (hN h) b k (qA t n)) (ht : (t = 6 ∧ E = "java/lang/String") ∨ (t = 7 ∧ E = "LetterCutsLaw$Sheet")) (hl1 : Cond.classLink (mN mt).cls idx E ∈ lw_tb2) (hi : i = nI n) (hok1 : ∀ q ∈ ls, okd (hN h) q.2) (hok2 : ∀ v ∈ st, okd (hN h) v)
    (kk : AW X mt d kc ks (pc + 3) ls (.ref b :: st) (nwD h b) Q) : AW X mt d (kc + 1) (ks + n) pc ls (.int i :: st) h Q := by
  subst hi
  intro p l e R s m args below meth c A G cls Z H locs cells slots ad lsA C F D hc hs2 hA
  obtain ⟨hx, hb, hml, hown, hw, -, -, -, -, hAs, hK, hE, -, -⟩ := id C
  have hno := hn.no D.2.2.2.1.1
  have hs : kdA b = some (.inr (t, n)) := by rw [hn.2.1]; exact kdA_a (by omega) hn9
  have hAO : va_AO E s := by
    rcases ht with ⟨-, rfl⟩ | ⟨-, rfl⟩
    · exact hE.2.2.1.2.1
    · exact hE.2.2.1.2.2
  refine va_newq (N' := n) hx hb hown (hw _ hl1 rfl) hAO hK D.1 D.2.1 D.2.2.1 hAs (nI_pos (by omega)) (nI_clamp (by omega)) (Nat.le_trans (Nat.mul_le_mul_right 4 (show n ≤ 4096 by omega)) (by decide)) (by omega) (by omega) hd (fun q cA H1 zK z1 z2 z3 => ?_)
  have hcA : cA = cls t := cls_same (t := t) (tys := tysOf cls) hK zK (by rcases ht with ⟨rfl, rfl⟩ | ⟨rfl, rfl⟩ <;> rfl)
  subst hcA
  have hext : ∀ a, a ≠ b → va_up ad b q a = ad a := fun a ha => up_ne ha
  have hext9 : ∀ a, (prN (hN h) a ∨ ext a) → va_up ad b q a = ad a := fun a ha => up_ne (fun z => by subst z; exact ha.elim hno.1 hno.2)
  have hwld : wld cls (va_up ad b q) (nwD h b) = wld cls ad h ++ [(q, .inl (cls t, n, .inr (.inr (.inr (.inr (fun _ => none))))))] := by
    rw [wld_ext (h := h) (h' := nwD h b) (hC_adn hn.1) (fun a ha => ce_old (h' := nwD h b) D.2.2.2.1 hno (fun b hb => nwD_old hb) hext ha), List.map_cons, List.map_nil]
    congr 2
    rw [up_eq, ce_arr hs, aC_ref (by omega)]
    simp only [nwD_row]
    rfl
  have g := kk p l e R s m args below meth c A G cls Z H1 locs (cells + 1) (slots + n) (va_up ad b q) lsA C (F.dy hn.1 hno.1 hext) ⟨by rw [hwld]; exact z1, by rw [hwld]; exact z2, z3, wfh_D D.2.2.2.1 hn rfl (fun b hb => (nwD_old hb).2.2) (fun j b e => by rw [nwD_row.2.2] at e; cases e), adOK_upx (fun a ha => hext9 a (Or.inr ha)) D.2.2.2.2⟩ (by omega) (by omega) (by rw [map_okdl hext9 hok1]; exact hA)
  rw [List.map_cons, map_okd hext9 hok2] at g
  have e : cv (va_up ad b q) (.ref b) = .ref q := by simp only [cv, up_eq]
  rw [e] at g
  exact g
end RW8
