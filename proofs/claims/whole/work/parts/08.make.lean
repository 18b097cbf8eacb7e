/-! rows of AW: cells that are made; the ends of a method -/
def okv (n : Nat) : Value → Bool
  | .ref a => decide (a < n) || decide (90 ≤ a)
  | _ => true
theorem cv_okv {n : Nat} {ad ad' : Nat → Nat} (he : ∀ a, (a < n ∨ 90 ≤ a) → ad' a = ad a) {v : Value} (hv : okv n v = true) : cv ad' v = cv ad v := by
  cases v <;> first | rfl | skip
  rename_i a
  simp only [okv, Bool.or_eq_true, decide_eq_true_eq] at hv
  simp only [cv, he a hv]
theorem map_okv {n : Nat} {ad ad' : Nat → Nat} (he : ∀ a, (a < n ∨ 90 ≤ a) → ad' a = ad a) {st : List Value} (hv : st.all (okv n) = true) : st.map (cv ad') = st.map (cv ad) :=
  List.map_congr_left fun v q => cv_okv he (List.all_eq_true.mp hv v q)
theorem map_okl {n : Nat} {ad ad' : Nat → Nat} (he : ∀ a, (a < n ∨ 90 ≤ a) → ad' a = ad a) {ls : List (Nat × Value)} (hv : ls.all (fun q => okv n q.2) = true) : ls.map (cl1 ad') = ls.map (cl1 ad) :=
  List.map_congr_left fun v q => by simp only [cl1, cv_okv he (List.all_eq_true.mp hv v q)]
theorem adOK_up {X : XT} {ad ad' : Nat → Nat} {n : Nat} (he : ∀ a, (a < n ∨ 90 ≤ a) → ad' a = ad a) (h : adOK X ad) : adOK X ad' :=
  ⟨(he _ (Or.inr (by omega))).trans h.1, fun i hi => (he _ (Or.inr (by omega))).trans (h.2.1 i hi), fun i hi => (he _ (Or.inr (by omega))).trans (h.2.2.1 i hi), (he _ (Or.inr (by omega))).trans h.2.2.2⟩
theorem wld_ext {cls : Nat → ClassId} {ad ad' : Nat → Nat} {h h' : AH} {new : va_W} (hn : hN h' = hN h + new.length) (ho : ∀ a, a < hN h → ad' a = ad a ∧ ce cls ad' h' a = ce cls ad h a) (hnew : ∀ i, i < new.length → new[i]? = some (ad' (hN h + i), ce cls ad' h' (hN h + i))) : wld cls ad' h' = wld cls ad h ++ new := by
  apply List.ext_getElem?
  intro i
  by_cases hi : i < hN h
  · rw [wld_get (by omega), List.getElem?_append_left (by rw [wld_len]; exact hi), wld_get hi, (ho i hi).1, (ho i hi).2]
  · rw [List.getElem?_append_right (by rw [wld_len]; omega), wld_len]
    by_cases hj : i < hN h'
    · rw [wld_get hj, hnew (i - hN h) (by omega), show hN h + (i - hN h) = i by omega]
    · rw [List.getElem?_eq_none (by rw [wld_len]; omega), List.getElem?_eq_none (by omega)]
theorem up_ne {α : Type} {f : Nat → α} {k j : Nat} {v : α} (h : j ≠ k) : va_up f k v j = f j := if_neg h
theorem up_eq {α : Type} {f : Nat → α} {k : Nat} {v : α} : va_up f k v k = v := if_pos rfl
theorem hN_nw {h : AH} : hN (nw h) = hN h + 1 := rfl
theorem nw_old {cls : Nat → ClassId} {ad : Nat → Nat} {h : AH} {q : Nat} (hw : wfh h) : ∀ a, a < hN h → va_up ad (hN h) q a = ad a ∧ ce cls (va_up ad (hN h) q) (nw h) a = ce cls ad h a := by
  intro a ha
  have hne : a ≠ hN h := by omega
  refine ⟨up_ne hne, ce_congr (upr_row hne) (upr_row hne) (fun j => ?_)⟩
  rw [show hR (nw h) a = hR h a from upr_row hne]
  cases e : hR h a j with
  | none => rfl
  | some k => simp only [Option.map_some]; rw [up_ne (by have := hw.2 a j k ha e; omega)]
theorem wfh_nw {h : AH} (hn : hN h < 90) (hw : wfh h) : wfh (nw h) := by
  refine ⟨by rw [hN_nw]; omega, fun a j k ha e => ?_⟩
  rw [hN_nw] at ha ⊢
  by_cases q : a = hN h
  · rw [show hR (nw h) a = (fun _ => none) from by subst q; exact if_pos rfl] at e
    cases e
  · rw [show hR (nw h) a = hR h a from upr_row q] at e
    have := hw.2 a j k (by omega) e
    omega
theorem nw_row {h : AH} : hI (nw h) (hN h) = (fun _ => 0) ∧ hL (nw h) (hN h) = (fun _ => 0) ∧ hR (nw h) (hN h) = (fun _ => none) := ⟨if_pos rfl, if_pos rfl, if_pos rfl⟩
theorem dflt_ok : ∀ ci, ci < 6 → ∀ k, k < nF ci → defaultValue (fT ci k) = if fK ci k = 0 then .int 0 else if fK ci k = 1 then .long 0 else .null := cls_cases (by decide +kernel) (by decide +kernel) (by decide +kernel) (by decide +kernel) (by decide +kernel) (by decide +kernel)
section RW8
variable {X : XT} {mt : MT} {d kc ks pc : Nat} {ls ls' : List (Nat × Value)} {st : List Value} {h : AH} {Q : Res → AH → Prop}
/-- FIN, seen behind a making -/
theorem FIN.up {p : Program} {l : Launch} {e : Env} {R : Room} {s : State} {m : MethodId} {args : Array Value} {below : List Frame} {meth : Method} {c : Code} {A : Nat → Prop} {G : va_G} {cls : Nat → ClassId} {Z : State → Prop} {n n1 : Nat} {ad ad1 : Nat → Nat} (F : FIN X mt p l e R s m args below meth c A G cls Z n ad Q) (hn : n ≤ n1) (he : ∀ a, (a < n ∨ n1 ≤ a) → ad1 a = ad a) : FIN X mt p l e R s m args below meth c A G cls Z n1 ad1 Q :=
  ⟨fun v h' q ad' H' locs' cells' slots' lsA pc ins q1 q2 q3 q4 q5 q6 q7 => F.1 v h' q ad' H' locs' cells' slots' lsA pc ins (fun a ha => (q1 a (by rcases ha with z | z <;> omega)).trans (he a (by rcases ha with z | z <;> omega))) (by omega) q3 q4 q5 q6 q7,
   fun E h' q ad' H' locs' cells' slots' lsA pc st q1 q2 q3 q4 q5 => F.2 E h' q ad' H' locs' cells' slots' lsA pc st (fun a ha => (q1 a (by rcases ha with z | z <;> omega)).trans (he a (by rcases ha with z | z <;> omega))) (by omega) q3 q4 q5⟩
theorem a_new {ci idx : Nat} (hd : decode (mB mt) pc = .ok (.new idx, 3)) (hs : shK (hN h) = some (.inl ci)) (hl1 : Cond.classLink (mN mt).cls idx (cR ci) ∈ lw_tbl) (hl2 : Cond.instantiable (cR ci) (nF ci) ∈ lw_tbl) (hl3 : Cond.initialized (cR ci) ∈ lw_tbl) (hok1 : ls.all (fun q => okv (hN h) q.2) = true) (hok2 : st.all (okv (hN h)) = true)
    (kk : AW X mt d kc ks (pc + 3) ls (.ref (hN h) :: st) (nw h) Q) : AW X mt d (kc + 1) (ks + nF ci) pc ls st h Q := by
  intro p l e R s m args below meth c A G cls Z H locs cells slots ad lsA C F D hc hs2 hA
  have hci := shK_ci hs
  obtain ⟨hx, hb, hml, hown, hw, -, -, -, -, hAs, hK, hE, -, -⟩ := id C
  refine va_new (ci := ci) (C := cR ci) (T := cT ci) (N := nF ci) (Ts := u_ws (cR ci) (cT ci) (nF ci)) (fs := (List.range (nF ci)).map (fv ad (nw h) (hN h) ci)) hx hb (fun w q => hw w (uws_ok ci hci w q).1 (uws_ok ci hci w q).2) (fun _ q => q) (fT ci) (tyc_ok ci hci) hown (hw _ hl1 rfl) (hw _ hl2 rfl) (hw _ hl3 rfl) hK D.1 D.2.1 D.2.2.1 hAs (vwCl_at hci) (fun j hj => ?_) (by omega) (by omega) hd (fun q H1 z1 z2 z3 => ?_)
  · rw [dflt_ok ci hci j hj]
    simp only [vp_V, List.getD_eq_getElem?_getD, fs_get hj, Option.getD_some, fv, nw_row]
    rfl
  · have hn90 := shK_lt hs
    have hext : ∀ a, (a < hN h ∨ hN h + 1 ≤ a) → va_up ad (hN h) q a = ad a := fun a ha => up_ne (by omega)
    have hext9 : ∀ a, (a < hN h ∨ 90 ≤ a) → va_up ad (hN h) q a = ad a := fun a ha => up_ne (by omega)
    have hwld : wld cls (va_up ad (hN h) q) (nw h) = wld cls ad h ++ [(q, .inr (ci, (List.range (nF ci)).map (fv ad (nw h) (hN h) ci)))] := by
      refine wld_ext rfl (nw_old D.2.2.2.1) (fun i hi => ?_)
      have h0 : i = 0 := by simp at hi; omega
      subst h0
      rw [Nat.add_zero, up_eq, ce_obj hs]
      have e : fv (va_up ad (hN h) q) (nw h) (hN h) ci = fv ad (nw h) (hN h) ci := funext fun k => by simp only [fv, nw_row]; rfl
      rw [e]; rfl
    have g := kk p l e R s m args below meth c A G cls Z H1 locs (cells + 1) (slots + nF ci) (va_up ad (hN h) q) lsA C (F.up (Nat.le_succ _) hext) ⟨by rw [hwld]; exact z1, by rw [hwld]; exact z2, z3, wfh_nw hn90 D.2.2.2.1, adOK_up hext9 D.2.2.2.2⟩ (by omega) (by omega) (by rw [map_okl hext9 hok1]; exact hA)
    rw [List.map_cons, map_okv hext9 hok2] at g
    have e : cv (va_up ad (hN h) q) (.ref (hN h)) = .ref q := by simp only [cv, up_eq]
    rw [e] at g
    exact g
theorem cls_same {s : State} {G : va_G} {cls : Nat → ClassId} {tys : List (ClassId × FieldType)} {t : Nat} {ty : FieldType} {cA : ClassId} (hK : va_K G vwCl (tysOf cls) s) (hK2 : va_K G vwCl (tysOf cls ++ [(cA, ty)]) s) (ht : (tysOf cls)[t]? = some (cls t, ty)) : cA = cls t := by
  have h1 := (hK.2 t _ ht).2
  have h2 := (hK2.2 6 (cA, ty) rfl).2
  cases ty <;> first | exact Option.some.inj (h2.symm.trans h1) | skip
  obtain ⟨_, _, _, _, _, e1⟩ := h1
  obtain ⟨_, _, _, _, _, e2⟩ := h2
  exact Option.some.inj (e2.symm.trans e1)
theorem tys_at {cls : Nat → ClassId} : ∀ t, t < 6 → (tysOf cls)[t]? = some (cls t, tyF t) := cls_cases rfl rfl rfl rfl rfl rfl
theorem a_newarr {t n : Nat} {at' : ArrayType} {i : Int32} (hd : decode (mB mt) pc = .ok (.newarray at', 2)) (hs : shK (hN h) = some (.inr (t, n))) (hat : newarray.typeOf at' = tyF t) (ht : t < 4) (hl1 : Cond.arrayClass (tyF t) ∈ lw_tbl) (hi : i = nI n) (hok1 : ls.all (fun q => okv (hN h) q.2) = true) (hok2 : st.all (okv (hN h)) = true)
    (kk : AW X mt d kc ks (pc + 2) ls (.ref (hN h) :: st) (nw h) Q) : AW X mt d (kc + 1) (ks + n) pc ls (.int i :: st) h Q := by
  subst hi
  intro p l e R s m args below meth c A G cls Z H locs cells slots ad lsA C F D hc hs2 hA
  have hn := (shK_len hs).2
  obtain ⟨hx, hb, hml, hown, hw, -, -, -, -, hAs, hK, hE, -, -⟩ := id C
  have hcell : ∀ cA : ClassId, vp_cell cA (aC ad (nw h) (hN h) t n) = arrV cA n (fun _ => defaultValue (tyF t)) := by
    intro cA
    match t, ht with
    | 0, _ => simp only [aC, nw_row]; rfl
    | 1, _ => simp only [aC, nw_row]; rfl
    | 2, _ => simp only [aC, nw_row]; rfl
    | 3, _ => simp only [aC, nw_row]; rfl
  have hcb : componentBytes (tyF t) ≤ 8 := by
    match t, ht with
    | 0, _ => decide
    | 1, _ => decide
    | 2, _ => decide
    | 3, _ => decide
  refine va_newa (N' := n) (a0 := aC ad (nw h) (hN h) t n) hx hb (by rw [hat]; exact hw _ hl1 rfl) hat hK D.1 D.2.1 D.2.2.1 hAs hcell (nI_pos (by omega)) (nI_clamp (by omega)) (Nat.le_trans (Nat.mul_le_mul hn hcb) (by decide)) (by omega) (by omega) hd (fun q cA H1 zK z1 z2 z3 => ?_)
  have hn90 := shK_lt hs
  have hcA : cA = cls t := cls_same (tys := tysOf cls) hK zK (tys_at t (by omega))
  subst hcA
  have hext : ∀ a, (a < hN h ∨ hN h + 1 ≤ a) → va_up ad (hN h) q a = ad a := fun a ha => up_ne (by omega)
  have hext9 : ∀ a, (a < hN h ∨ 90 ≤ a) → va_up ad (hN h) q a = ad a := fun a ha => up_ne (by omega)
  have hwld : wld cls (va_up ad (hN h) q) (nw h) = wld cls ad h ++ [(q, .inl (cls t, aC ad (nw h) (hN h) t n))] := by
    refine wld_ext rfl (nw_old D.2.2.2.1) (fun i hi => ?_)
    have h0 : i = 0 := by simp at hi; omega
    subst h0
    rw [Nat.add_zero, up_eq, ce_arr hs]
    have e : aC (va_up ad (hN h) q) (nw h) (hN h) t n = aC ad (nw h) (hN h) t n := by simp only [aC, nw_row]; rfl
    rw [e]; rfl
  have g := kk p l e R s m args below meth c A G cls Z H1 locs (cells + 1) (slots + n) (va_up ad (hN h) q) lsA C (F.up (Nat.le_succ _) hext) ⟨by rw [hwld]; exact z1, by rw [hwld]; exact z2, z3, wfh_nw hn90 D.2.2.2.1, adOK_up hext9 D.2.2.2.2⟩ (by omega) (by omega) (by rw [map_okl hext9 hok1]; exact hA)
  rw [List.map_cons, map_okv hext9 hok2] at g
  have e : cv (va_up ad (hN h) q) (.ref (hN h)) = .ref q := by simp only [cv, up_eq]
  rw [e] at g
  exact g
theorem a_newref {n idx : Nat} {i : Int32} (hd : decode (mB mt) pc = .ok (.anewarray idx, 3)) (hs : shK (hN h) = some (.inr (4, n))) (hl1 : Cond.classLink (mN mt).cls idx "LetterCuts$Sheet" ∈ lw_tbl) (hi : i = nI n) (hok1 : ls.all (fun q => okv (hN h) q.2) = true) (hok2 : st.all (okv (hN h)) = true)
    (kk : AW X mt d kc ks (pc + 3) ls (.ref (hN h) :: st) (nw h) Q) : AW X mt d (kc + 1) (ks + n) pc ls (.int i :: st) h Q := by
  subst hi
  intro p l e R s m args below meth c A G cls Z H locs cells slots ad lsA C F D hc hs2 hA
  have hn := (shK_len hs).2
  obtain ⟨hx, hb, hml, hown, hw, -, -, -, -, hAs, hK, hE, -, -⟩ := id C
  refine va_newq (N' := n) hx hb hown (hw _ hl1 rfl) hE.2.2.1 hK D.1 D.2.1 D.2.2.1 hAs (nI_pos (by omega)) (nI_clamp (by omega)) (Nat.le_trans (Nat.mul_le_mul_right 4 hn) (by decide)) (by omega) (by omega) hd (fun q cA H1 zK z1 z2 z3 => ?_)
  have hn90 := shK_lt hs
  have hcA : cA = cls 4 := cls_same (t := 4) (tys := tysOf cls) hK zK (tys_at 4 (by omega))
  subst hcA
  have hext : ∀ a, (a < hN h ∨ hN h + 1 ≤ a) → va_up ad (hN h) q a = ad a := fun a ha => up_ne (by omega)
  have hext9 : ∀ a, (a < hN h ∨ 90 ≤ a) → va_up ad (hN h) q a = ad a := fun a ha => up_ne (by omega)
  have hwld : wld cls (va_up ad (hN h) q) (nw h) = wld cls ad h ++ [(q, .inl (cls 4, n, .inr (.inr (.inr (.inr (fun _ => none))))))] := by
    refine wld_ext rfl (nw_old D.2.2.2.1) (fun i hi => ?_)
    have h0 : i = 0 := by simp at hi; omega
    subst h0
    rw [Nat.add_zero, up_eq, ce_arr hs]
    simp only [aC, nw_row]
    rfl
  have g := kk p l e R s m args below meth c A G cls Z H1 locs (cells + 1) (slots + n) (va_up ad (hN h) q) lsA C (F.up (Nat.le_succ _) hext) ⟨by rw [hwld]; exact z1, by rw [hwld]; exact z2, z3, wfh_nw hn90 D.2.2.2.1, adOK_up hext9 D.2.2.2.2⟩ (by omega) (by omega) (by rw [map_okl hext9 hok1]; exact hA)
  rw [List.map_cons, map_okv hext9 hok2] at g
  have e : cv (va_up ad (hN h) q) (.ref (hN h)) = .ref q := by simp only [cv, up_eq]
  rw [e] at g
  exact g
end RW8
