/-! the class Sheet: loops; Math, Arrays -/
section MA
variable {X : XT} {mt : MT} {d kc ks pc : Nat} {ls ls' : List (Nat × Value)} {st : List Value} {h : AH} {Q : Res → AH → Prop}
theorem maw : (Cond.static Lib.Math.max.name ∈ lw_tb2 ∧ Cond.static Lib.Math.min.name ∈ lw_tb2 ∧ True) ∧ Cond.initialized "java/lang/Math" ∈ lw_tb2 ∧ Cond.code Lib.Math.max.name Lib.Math.max.code 2 (some .int) ∈ lw_tb2 ∧ Cond.code Lib.Math.min.name Lib.Math.min.code 2 (some .int) ∈ lw_tb2 ∧ True := by decide +kernel
theorem a_mmax {idx : Nat} {x y : Int32} (hd : decode (mB mt) pc = .ok (.invokestatic idx, 3)) (hl : Cond.methodLink (mN mt).cls idx Lib.Math.max.name ∈ lw_tb2) (hst : (st.map fun v => v.category).sum ≤ 8) (kk : AW X mt (d + 1) kc ks (pc + 3) ls (.int (cif (x < y) y x) :: st) h Q) : AW X mt (d + 1) kc ks pc ls (.int y :: .int x :: st) h Q := by
  intro p l e R s m args below meth c A G cls Z H locs cells slots ad lsA C F D hc hs2 hA
  obtain ⟨hx, hb, hml, hown, hw, -, hls, -, -, -, hK, -, hd1, hd2⟩ := id C
  have g := kk p l e R s m args below meth c A G cls Z H locs cells slots ad lsA C F D hc hs2 hA
  have h1 := cat_rest (ad := ad) hst
  refine va_mmax hx hb (hml.trans hA.1.symm) hown (hw _ hl rfl) (hw _ maw.1.1 rfl) (hw _ maw.2.1 rfl) (hw _ maw.2.2.1 rfl) (by omega) (by omega) (by omega) (by omega) hd ?_
  rw [show (if x < y then y else x) = cif (x < y) y x by rcases Classical.em (x < y) with q | q <;> simp [q, cif_t, cif_f]]
  exact g
theorem a_mmin {idx : Nat} {x y : Int32} (hd : decode (mB mt) pc = .ok (.invokestatic idx, 3)) (hl : Cond.methodLink (mN mt).cls idx Lib.Math.min.name ∈ lw_tb2) (hst : (st.map fun v => v.category).sum ≤ 8) (kk : AW X mt (d + 1) kc ks (pc + 3) ls (.int (cif (y < x) y x) :: st) h Q) : AW X mt (d + 1) kc ks pc ls (.int y :: .int x :: st) h Q := by
  intro p l e R s m args below meth c A G cls Z H locs cells slots ad lsA C F D hc hs2 hA
  obtain ⟨hx, hb, hml, hown, hw, -, hls, -, -, -, hK, -, hd1, hd2⟩ := id C
  have g := kk p l e R s m args below meth c A G cls Z H locs cells slots ad lsA C F D hc hs2 hA
  have h1 := cat_rest (ad := ad) hst
  refine va_mmin hx hb (hml.trans hA.1.symm) hown (hw _ hl rfl) (hw _ maw.1.2.1 rfl) (hw _ maw.2.1 rfl) (hw _ maw.2.2.2.1 rfl) (by omega) (by omega) (by omega) (by omega) hd ?_
  rw [show (if y < x then y else x) = cif (y < x) y x by rcases Classical.em (y < x) with q | q <;> simp [q, cif_t, cif_f]]
  exact g
theorem mx_n {a b : Nat} (ha : a < 2 ^ 31) (hb : b < 2 ^ 31) : cif (nI a < nI b) (nI b) (nI a) = nI (max a b) := by
  rcases Nat.lt_or_ge a b with q | q
  · rw [cif_t ((nI_ltI ha hb).mpr q), Nat.max_eq_right (by omega)]
  · rw [cif_f (fun z => by have := (nI_ltI ha hb).mp z; omega), Nat.max_eq_left q]
theorem mn_n {a b : Nat} (ha : a < 2 ^ 31) (hb : b < 2 ^ 31) : cif (nI b < nI a) (nI b) (nI a) = nI (min a b) := by
  rcases Nat.lt_or_ge b a with q | q
  · rw [cif_t ((nI_ltI hb ha).mpr q), Nat.min_eq_right (by omega)]
  · rw [cif_f (fun z => by have := (nI_ltI hb ha).mp z; omega), Nat.min_eq_left q]
theorem n_mmax {idx a b : Nat} (hd : decode (mB mt) pc = .ok (.invokestatic idx, 3)) (hl : Cond.methodLink (mN mt).cls idx Lib.Math.max.name ∈ lw_tb2) (hst : (st.map fun v => v.category).sum ≤ 8) (ha : a < 2 ^ 31) (hb : b < 2 ^ 31) (kk : AW X mt (d + 1) kc ks (pc + 3) ls (.int (nI (max a b)) :: st) h Q) : AW X mt (d + 1) kc ks pc ls (.int (nI b) :: .int (nI a) :: st) h Q := a_mmax hd hl hst (by rw [mx_n ha hb]; exact kk)
theorem n_mmin {idx a b : Nat} (hd : decode (mB mt) pc = .ok (.invokestatic idx, 3)) (hl : Cond.methodLink (mN mt).cls idx Lib.Math.min.name ∈ lw_tb2) (hst : (st.map fun v => v.category).sum ≤ 8) (ha : a < 2 ^ 31) (hb : b < 2 ^ 31) (kk : AW X mt (d + 1) kc ks (pc + 3) ls (.int (nI (min a b)) :: st) h Q) : AW X mt (d + 1) kc ks pc ls (.int (nI b) :: .int (nI a) :: st) h Q := a_mmin hd hl hst (by rw [mn_n ha hb]; exact kk)
end MA
theorem lm_RX4_210 {mt : MT} (h : (mN mt).cls = RX4) : Cond.methodLink (mN mt).cls 210 Lib.Math.max.name ∈ lw_tb2 := by rw [h]; exact tbi 839 (by decide +kernel)
theorem lm_RX1_49 {mt : MT} (h : (mN mt).cls = RX1) : Cond.methodLink (mN mt).cls 49 Lib.Math.min.name ∈ lw_tb2 := by rw [h]; exact tbi 740 (by decide +kernel)
theorem lm_RX1_55 {mt : MT} (h : (mN mt).cls = RX1) : Cond.methodLink (mN mt).cls 55 Lib.Math.max.name ∈ lw_tb2 := by rw [h]; exact tbi 741 (by decide +kernel)
theorem lm_RX2_26 {mt : MT} (h : (mN mt).cls = RX2) : Cond.methodLink (mN mt).cls 26 Lib.Math.min.name ∈ lw_tb2 := by rw [h]; exact tbi 535 (by decide +kernel)
theorem lm_RX2_32 {mt : MT} (h : (mN mt).cls = RX2) : Cond.methodLink (mN mt).cls 32 Lib.Math.max.name ∈ lw_tb2 := by rw [h]; exact tbi 538 (by decide +kernel)
theorem lm_RX6_95 {mt : MT} (h : (mN mt).cls = RX6) : Cond.methodLink (mN mt).cls 95 Lib.Math.max.name ∈ lw_tb2 := by rw [h]; exact tbi 416 (by decide +kernel)
theorem lm_RJ7_304 {mt : MT} (h : (mN mt).cls = RJ7) : Cond.methodLink (mN mt).cls 304 Lib.Math.min.name ∈ lw_tb2 := by rw [h]; exact tbi 1015 (by decide +kernel)
theorem lm_RJ8_194 {mt : MT} (h : (mN mt).cls = RJ8) : Cond.methodLink (mN mt).cls 194 Lib.Math.max.name ∈ lw_tb2 := by rw [h]; exact tbi 1001 (by decide +kernel)
theorem fill_step {h : AH} {a i : Nat} {v : Int32} : sI (rI h a (fun j => if j < i then v else hI h a j)) a i v = rI h a (fun j => if j < i + 1 then v else hI h a j) := by
  unfold sI rI
  refine Prod.ext rfl (Prod.ext ?_ rfl)
  show up2 (upr (hI h) a (fun j => if j < i then v else hI h a j)) a i v = upr (hI h) a (fun j => if j < i + 1 then v else hI h a j)
  funext b k
  by_cases e : b = a
  · subst e
    by_cases e2 : k = i
    · subst e2; simp [up2, upr, hI]
    · simp only [up2, upr, hI, e2, and_false, if_false, if_true]
      by_cases e3 : k < i
      · rw [if_pos e3, if_pos (by omega)]
      · rw [if_neg e3, if_neg (by omega)]
  · simp [up2, upr, hI, e]
theorem fill_zero {h : AH} {a : Nat} {v : Int32} : h = rI h a (fun j => if j < 0 then v else hI h a j) := by
  unfold rI
  have e : upr (hI h) a (fun j => if j < 0 then v else hI h a j) = hI h := by
    funext b
    by_cases e : b = a
    · subst e; simp [upr]
    · simp [upr, e]
  rw [e]; rfl
set_option maxHeartbeats 4000000 in
set_option maxRecDepth 100000 in
theorem sp_fill {d a n : Nat} {h : AH} {v : Int32} (hn : 68 ≤ hN h) (hs : shK a = some (.inr (0, n))) : AC mJ7_fill_53178 d 0 0 [.ref a, .int v] h (Qe none (rI h a (fun j => if j < n then v else hI h a j))) := by
  refine AC.of (by decide) rfl (Nat.le_of_ble_eq_true rfl) (fun X => ?_)
  show AW X mJ7_fill_53178 d 0 0 0 [(0, .ref a), (1, .int v)] [] h (Qe none (rI h a (fun j => if j < n then v else hI h a j)))
  have hl := (shK_len hs).2
  have LP : ∀ (fu : Nat) (i : Nat), i ≤ n → n - i < fu → AW X mJ7_fill_53178 d 0 0 5 [(0, .ref a), (1, .int v), (2, .int (nI i)), (3, .int (nI n))] [] (rI h a (fun j => if j < i then v else hI h a j)) (Qe none (rI h a (fun j => if j < n then v else hI h a j))) := by
    intro fu
    induction fu with
    | zero => intro i hi hz; exact absurd hz (Nat.not_lt_zero _)
    | succ fu ih =>
      intro i hi hz
      refine a_iload_n (pc := 5) (i := 2) dJ7_fill_53178_5 rfl rfl ?_
      refine a_iload_n (pc := 6) (i := 3) dJ7_fill_53178_6 rfl rfl ?_
      refine n_icmp_ge (pc := 7) (tgt := 20) dJ7_fill_53178_7 (by decide) (by omega) (by omega) (fun c7 => ?_) (fun c7 => ?_)
      · have e : i = n := by omega
        subst e
        exact a_return (pc := 20) dJ7_fill_53178_20 rfl (⟨rfl, rfl⟩)
      · skip
        refine a_aload_n (pc := 10) (i := 0) dJ7_fill_53178_10 rfl rfl ?_
        refine a_iload_n (pc := 11) (i := 2) dJ7_fill_53178_11 rfl rfl ?_
        refine a_iload_n (pc := 12) (i := 1) dJ7_fill_53178_12 rfl rfl ?_
        refine a_iast (pc := 13) (j := i) dJ7_fill_53178_13 hs (lt90 hn (shK_lt hs)) rfl (by omega) ?_
        refine n_iinc (pc := 14) (k := 1) (ls' := [(0, .ref a), (1, .int v), (2, .int (nI (i + 1))), (3, .int (nI n))]) dJ7_fill_53178_14 rfl (by decide) (by decide) rfl ?_
        refine a_goto (pc := 17) (tgt := 5) dJ7_fill_53178_17 (by decide) ?_
        refine a_heap (h' := rI h a (fun j => if j < i + 1 then v else hI h a j)) fill_step ?_
        exact ih (i + 1) (by omega) (by omega)
  refine a_iconst (pc := 0) (v := nI 0) dJ7_fill_53178_0 (by decide) ?_
  refine a_istore_n (pc := 1) (i := 2) (ls' := [(0, .ref a), (1, .int v), (2, .int (nI 0))]) dJ7_fill_53178_1 rfl (by decide) rfl ?_
  refine a_aload_n (pc := 2) (i := 0) dJ7_fill_53178_2 rfl rfl ?_
  refine a_alen (pc := 3) (n := n) dJ7_fill_53178_3 hs (lt90 hn (shK_lt hs)) ?_
  refine a_istore_n (pc := 4) (i := 3) (ls' := [(0, .ref a), (1, .int v), (2, .int (nI 0)), (3, .int (nI n))]) dJ7_fill_53178_4 rfl (by decide) rfl ?_
  refine a_heap (h' := rI h a (fun j => if j < 0 then v else hI h a j)) fill_zero ?_
  exact LP (n + 1) 0 (by omega) (by omega)
set_option maxHeartbeats 4000000 in
set_option maxRecDepth 100000 in
theorem sp_hasMsg {d : Nat} {h : AH} {s : SH} (c : CB h) (g : GS s) (r : CR h 2 s) {k : Nat} (hk : k < 2 ^ 31) : AC mX3_hasMessageLetter (d + 1) 0 0 [.ref 2, .int (nI k)] h (Qe (some (.int (bi (k < sLen s)))) h) := by
  have hn := c.1
  have gw := g.1
  have gh := g.2.1
  have gs := g.2.2.1
  have gl := g.2.2.2.2.2.1
  refine AC.of (by decide) rfl (Nat.le_of_ble_eq_true rfl) (fun X => ?_)
  show AW X mX3_hasMessageLetter (d + 1) 0 0 0 [(0, .ref 2), (1, .int (nI k))] [] h (Qe (some (.int (bi (k < sLen s)))) h)
  refine a_iload_n (pc := 0) (i := 1) dX3_hasMessageLetter_0 rfl rfl ?_
  refine n_if_lt (pc := 1) (tgt := 22) dX3_hasMessageLetter_1 (by decide) (by omega) ?_
  refine a_iload_n (pc := 4) (i := 1) dX3_hasMessageLetter_4 rfl rfl ?_
  refine a_aload_n (pc := 5) (i := 0) dX3_hasMessageLetter_5 rfl rfl ?_
  refine a_getI (pc := 6) (ci := 3) (k := 7) dX3_hasMessageLetter_6 (lf_RX3_45 rfl) (by decide) rfl rfl (lt90 hn (shK_lt (show shK 2 = _ from rfl))) ?_
  refine a_top (show (.int (hI h 2 7) : Value) = .int (nI (sLen s)) from congrArg Value.int r.1.2.2.2.2.1) ?_
  refine n_icmp_ge (pc := 9) (tgt := 22) dX3_hasMessageLetter_9 (by decide) (by omega) (by omega) (fun c9 => ?_) (fun c9 => ?_)
  · skip
    refine a_iconst (pc := 22) (v := nI 0) dX3_hasMessageLetter_22 (by decide) ?_
    exact a_ireturn (pc := 23) dX3_hasMessageLetter_23 rfl rfl (⟨by rw [bi_f (by omega)]; rfl, rfl⟩)
  · skip
    refine a_iload_n (pc := 12) (i := 1) dX3_hasMessageLetter_12 rfl rfl ?_
    refine a_bipush (pc := 13) (v := nI 24) dX3_hasMessageLetter_13 (by decide) ?_
    refine n_icmp_ge (pc := 15) (tgt := 22) dX3_hasMessageLetter_15 (by decide) (by omega) (by omega) (fun c15 => ?_) (fun c15 => ?_)
    · exact absurd c15 (by omega)
    · skip
      refine a_iconst (pc := 18) (v := nI 1) dX3_hasMessageLetter_18 (by decide) ?_
      refine a_goto (pc := 19) (tgt := 23) dX3_hasMessageLetter_19 (by decide) ?_
      exact a_ireturn (pc := 23) dX3_hasMessageLetter_23 rfl rfl (⟨by rw [bi_t c9]; rfl, rfl⟩)
set_option maxHeartbeats 4000000 in
set_option maxRecDepth 100000 in
theorem sp_hasMsgI {d : Nat} {h : AH} {s : SH} (c : CB h) (g : GS s) (r : CR h 2 s) {x : Int32} : AC mX3_hasMessageLetter (d + 1) 0 0 [.ref 2, .int x] h (Qe (some (.int (bi (∃ n, n < sLen s ∧ x = nI n)))) h) := by
  have hn := c.1
  have gw := g.1
  have gh := g.2.1
  have gs := g.2.2.1
  have gl := g.2.2.2.2.2.1
  refine AC.of (by decide) rfl (Nat.le_of_ble_eq_true rfl) (fun X => ?_)
  show AW X mX3_hasMessageLetter (d + 1) 0 0 0 [(0, .ref 2), (1, .int x)] [] h (Qe (some (.int (bi (∃ n, n < sLen s ∧ x = nI n)))) h)
  refine a_iload_n (pc := 0) (i := 1) dX3_hasMessageLetter_0 rfl rfl ?_
  refine a_if_lt (pc := 1) (tgt := 22) dX3_hasMessageLetter_1 (by decide) (fun c1 => ?_) (fun c1 => ?_)
  · skip
    refine a_iconst (pc := 22) (v := nI 0) dX3_hasMessageLetter_22 (by decide) ?_
    exact a_ireturn (pc := 23) dX3_hasMessageLetter_23 rfl rfl (⟨by rw [bi_f (fun z => by obtain ⟨n, q1, rfl⟩ := z; exact nI_pos (by omega) c1)]; rfl, rfl⟩)
  · obtain ⟨k, hk, rfl⟩ := nI_of c1
    refine a_iload_n (pc := 4) (i := 1) dX3_hasMessageLetter_4 rfl rfl ?_
    refine a_aload_n (pc := 5) (i := 0) dX3_hasMessageLetter_5 rfl rfl ?_
    refine a_getI (pc := 6) (ci := 3) (k := 7) dX3_hasMessageLetter_6 (lf_RX3_45 rfl) (by decide) rfl rfl (lt90 hn (shK_lt (show shK 2 = _ from rfl))) ?_
    refine a_top (show (.int (hI h 2 7) : Value) = .int (nI (sLen s)) from congrArg Value.int r.1.2.2.2.2.1) ?_
    refine n_icmp_ge (pc := 9) (tgt := 22) dX3_hasMessageLetter_9 (by decide) (by omega) (by omega) (fun c9 => ?_) (fun c9 => ?_)
    · skip
      refine a_iconst (pc := 22) (v := nI 0) dX3_hasMessageLetter_22 (by decide) ?_
      exact a_ireturn (pc := 23) dX3_hasMessageLetter_23 rfl rfl (⟨by rw [bi_f (fun z => by obtain ⟨n, q1, q2⟩ := z; have := (nI_eq (by omega) (by omega)).mp q2; omega)]; rfl, rfl⟩)
    · skip
      refine a_iload_n (pc := 12) (i := 1) dX3_hasMessageLetter_12 rfl rfl ?_
      refine a_bipush (pc := 13) (v := nI 24) dX3_hasMessageLetter_13 (by decide) ?_
      refine n_icmp_ge (pc := 15) (tgt := 22) dX3_hasMessageLetter_15 (by decide) (by omega) (by omega) (fun c15 => ?_) (fun c15 => ?_)
      · exact absurd c15 (by omega)
      · skip
        refine a_iconst (pc := 18) (v := nI 1) dX3_hasMessageLetter_18 (by decide) ?_
        refine a_goto (pc := 19) (tgt := 23) dX3_hasMessageLetter_19 (by decide) ?_
        exact a_ireturn (pc := 23) dX3_hasMessageLetter_23 rfl rfl (⟨by rw [bi_t ⟨k, c9, rfl⟩]; rfl, rfl⟩)
set_option maxHeartbeats 4000000 in
set_option maxRecDepth 100000 in
theorem sp_messageAt {d : Nat} {h : AH} {s : SH} (c : CB h) (g : GS s) (r : CR h 2 s) {k : Nat} (hk : k < 2 ^ 31) : AC mX3_messageAt (d + 2) 0 0 [.ref 2, .int (nI k)] h (Qe (some (.int (msA s k))) h) := by
  have hn := c.1
  have gw := g.1
  have gh := g.2.1
  have gs := g.2.2.1
  have gl := g.2.2.2.2.2.1
  refine AC.of (by decide) rfl (Nat.le_of_ble_eq_true rfl) (fun X => ?_)
  show AW X mX3_messageAt (d + 2) 0 0 0 [(0, .ref 2), (1, .int (nI k))] [] h (Qe (some (.int (msA s k))) h)
  refine a_aload_n (pc := 0) (i := 0) dX3_messageAt_0 rfl rfl ?_
  refine a_iload_n (pc := 1) (i := 1) dX3_messageAt_1 rfl rfl ?_
  refine a_vV1 (pc := 2) (as := [.int (nI k)]) (b := 2) (ci := 3) (v := .int (bi (k < sLen s))) (h' := h) dX3_messageAt_2 (lc_RX3_102 rfl) ceX3_hasMessageLetter rfl (lt90 hn (shK_lt (show shK 2 = _ from rfl))) (sp_hasMsg c g r hk) rfl rfl (Nat.le_of_ble_eq_true rfl) rfl ?_
  refine b_if_eq (pc := 5) (tgt := 17) dX3_messageAt_5 (by decide) (fun c5 => ?_) (fun c5 => ?_)
  · skip
    refine a_iconst (pc := 17) (v := (-1)) dX3_messageAt_17 (by decide) ?_
    exact a_ireturn (pc := 18) dX3_messageAt_18 rfl rfl (⟨by rw [show msA s k = -1 from cif_f c5], rfl⟩)
  · skip
    refine a_aload_n (pc := 8) (i := 0) dX3_messageAt_8 rfl rfl ?_
    refine a_getR (pc := 9) (ci := 3) (k := 6) (b := 5) dX3_messageAt_9 (lf_RX3_18 rfl) (by decide) rfl rfl (lt90 hn (shK_lt (show shK 2 = _ from rfl))) (c.2.2.1 2 (Or.inl rfl)).2.2 ?_
    refine a_iload_n (pc := 12) (i := 1) dX3_messageAt_12 rfl rfl ?_
    refine a_iald (pc := 13) (j := k) dX3_messageAt_13 rfl (lt90 hn (shK_lt (show shK 5 = _ from rfl))) rfl (by omega) ?_
    refine a_goto (pc := 14) (tgt := 18) dX3_messageAt_14 (by decide) ?_
    exact a_ireturn (pc := 18) dX3_messageAt_18 rfl rfl (⟨by rw [r.2.2.2 k c5, show msA s k = _ from cif_t c5], rfl⟩)
set_option maxHeartbeats 4000000 in
set_option maxRecDepth 100000 in
theorem sp_countUsable {d : Nat} {h : AH} {s : SH} (c : CB h) (g : GS s) (r : CR h 2 s) : AC mX3_countUsable (d + 5) 0 0 [.ref 2] h (Qe (some (.int (nI (cnt (qcu s) 96)))) h) := by
  have hn := c.1
  have gw := g.1
  have gh := g.2.1
  have gs := g.2.2.1
  have gl := g.2.2.2.2.2.1
  refine AC.of (by decide) rfl (Nat.le_of_ble_eq_true rfl) (fun X => ?_)
  show AW X mX3_countUsable (d + 5) 0 0 0 [(0, .ref 2)] [] h (Qe (some (.int (nI (cnt (qcu s) 96)))) h)
  have LP : ∀ (fu : Nat) (i : Nat), i ≤ 96 → 96 - i < fu → AW X mX3_countUsable (d + 5) 0 0 4 [(0, .ref 2), (1, .int (nI (cnt (qcu s) i))), (2, .int (nI i))] [] h (Qe (some (.int (nI (cnt (qcu s) 96)))) h) := by
    intro fu
    induction fu with
    | zero => intro i hi hz; exact absurd hz (Nat.not_lt_zero _)
    | succ fu ih =>
      intro i hi hz
      have hcl := cnt_le (qcu s) i
      refine a_iload_n (pc := 4) (i := 2) dX3_countUsable_4 rfl rfl ?_
      refine a_bipush (pc := 5) (v := nI 96) dX3_countUsable_5 (by decide) ?_
      refine n_icmp_ge (pc := 7) (tgt := 27) dX3_countUsable_7 (by decide) (by omega) (by omega) (fun c7 => ?_) (fun c7 => ?_)
      · have e : i = 96 := by omega
        subst e
        refine a_iload_n (pc := 27) (i := 1) dX3_countUsable_27 rfl rfl ?_
        exact a_ireturn (pc := 28) dX3_countUsable_28 rfl rfl (⟨rfl, rfl⟩)
      · skip
        refine a_aload_n (pc := 10) (i := 0) dX3_countUsable_10 rfl rfl ?_
        refine a_iload_n (pc := 11) (i := 2) dX3_countUsable_11 rfl rfl ?_
        refine a_vV1 (pc := 12) (as := [.int (nI i)]) (b := 2) (ci := 3) (v := .int (bi (qcu s i))) (h' := h) dX3_countUsable_12 (lc_RX3_99 rfl) ceX3_canUse rfl (lt90 hn (shK_lt (show shK 2 = _ from rfl))) (sp_canUse c g r c7) rfl rfl (Nat.le_of_ble_eq_true rfl) rfl ?_
        refine b_if_eq (pc := 15) (tgt := 21) dX3_countUsable_15 (by decide) (fun c15 => ?_) (fun c15 => ?_)
        · skip
          refine n_iinc (pc := 21) (k := 1) (ls' := [(0, .ref 2), (1, .int (nI (cnt (qcu s) i))), (2, .int (nI (i + 1)))]) dX3_countUsable_21 rfl (by decide) (by decide) rfl ?_
          refine a_goto (pc := 24) (tgt := 4) dX3_countUsable_24 (by decide) ?_
          refine a_locs (ls' := [(0, .ref 2), (1, .int (nI (cnt (qcu s) (i + 1)))), (2, .int (nI (i + 1)))]) (by rw [cnt_no c15]) ?_
          exact ih (i + 1) (by omega) (by omega)
        · skip
          refine n_iinc (pc := 18) (k := 1) (ls' := [(0, .ref 2), (1, .int (nI ((cnt (qcu s) i) + 1))), (2, .int (nI i))]) dX3_countUsable_18 rfl (by decide) (by decide) rfl ?_
          refine n_iinc (pc := 21) (k := 1) (ls' := [(0, .ref 2), (1, .int (nI ((cnt (qcu s) i) + 1))), (2, .int (nI (i + 1)))]) dX3_countUsable_21 rfl (by decide) (by decide) rfl ?_
          refine a_goto (pc := 24) (tgt := 4) dX3_countUsable_24 (by decide) ?_
          refine a_locs (ls' := [(0, .ref 2), (1, .int (nI (cnt (qcu s) (i + 1)))), (2, .int (nI (i + 1)))]) (by rw [cnt_yes c15]) ?_
          exact ih (i + 1) (by omega) (by omega)
  refine a_iconst (pc := 0) (v := nI 0) dX3_countUsable_0 (by decide) ?_
  refine a_istore_n (pc := 1) (i := 1) (ls' := [(0, .ref 2), (1, .int (nI 0))]) dX3_countUsable_1 rfl (by decide) rfl ?_
  refine a_iconst (pc := 2) (v := nI 0) dX3_countUsable_2 (by decide) ?_
  refine a_istore_n (pc := 3) (i := 2) (ls' := [(0, .ref 2), (1, .int (nI 0)), (2, .int (nI 0))]) dX3_countUsable_3 rfl (by decide) rfl ?_
  refine a_locs (ls' := [(0, .ref 2), (1, .int (nI (cnt (qcu s) 0))), (2, .int (nI 0))]) rfl ?_
  exact LP 97 0 (by omega) (by omega)
set_option maxHeartbeats 4000000 in
set_option maxRecDepth 100000 in
theorem sp_countUsableOf {d : Nat} {h : AH} {s : SH} (c : CB h) (g : GS s) (r : CR h 2 s) {x : Int32} : AC mX3_countUsableOf (d + 5) 0 0 [.ref 2, .int x] h (Qe (some (.int (nI (cnt (fun q => qlt s q = x ∧ qcu s q) 96)))) h) := by
  have hn := c.1
  have gw := g.1
  have gh := g.2.1
  have gs := g.2.2.1
  have gl := g.2.2.2.2.2.1
  refine AC.of (by decide) rfl (Nat.le_of_ble_eq_true rfl) (fun X => ?_)
  show AW X mX3_countUsableOf (d + 5) 0 0 0 [(0, .ref 2), (1, .int x)] [] h (Qe (some (.int (nI (cnt (fun q => qlt s q = x ∧ qcu s q) 96)))) h)
  have LP : ∀ (fu : Nat) (i : Nat), i ≤ 96 → 96 - i < fu → AW X mX3_countUsableOf (d + 5) 0 0 4 [(0, .ref 2), (1, .int x), (2, .int (nI (cnt (fun q => qlt s q = x ∧ qcu s q) i))), (3, .int (nI i))] [] h (Qe (some (.int (nI (cnt (fun q => qlt s q = x ∧ qcu s q) 96)))) h) := by
    intro fu
    induction fu with
    | zero => intro i hi hz; exact absurd hz (Nat.not_lt_zero _)
    | succ fu ih =>
      intro i hi hz
      have hcl := cnt_le (fun q => qlt s q = x ∧ qcu s q) i
      refine a_iload_n (pc := 4) (i := 3) dX3_countUsableOf_4 rfl rfl ?_
      refine a_bipush (pc := 5) (v := nI 96) dX3_countUsableOf_5 (by decide) ?_
      refine n_icmp_ge (pc := 7) (tgt := 36) dX3_countUsableOf_7 (by decide) (by omega) (by omega) (fun c7 => ?_) (fun c7 => ?_)
      · have e : i = 96 := by omega
        subst e
        refine a_iload_n (pc := 36) (i := 2) dX3_countUsableOf_36 rfl rfl ?_
        exact a_ireturn (pc := 37) dX3_countUsableOf_37 rfl rfl (⟨rfl, rfl⟩)
      · skip
        refine a_aload_n (pc := 10) (i := 0) dX3_countUsableOf_10 rfl rfl ?_
        refine a_iload_n (pc := 11) (i := 3) dX3_countUsableOf_11 rfl rfl ?_
        refine a_vV1 (pc := 12) (as := [.int (nI i)]) (b := 2) (ci := 3) (v := .int (qlt s i)) (h' := h) dX3_countUsableOf_12 (lc_RX3_81 rfl) ceX3_letterAt rfl (lt90 hn (shK_lt (show shK 2 = _ from rfl))) (sp_letterAt c g r c7) rfl rfl (Nat.le_of_ble_eq_true rfl) rfl ?_
        refine a_iload_n (pc := 15) (i := 1) dX3_countUsableOf_15 rfl rfl ?_
        refine a_icmp_ne (pc := 16) (tgt := 30) dX3_countUsableOf_16 (by decide) (fun c16 => ?_) (fun c16 => ?_)
        · skip
          refine n_iinc (pc := 30) (k := 1) (ls' := [(0, .ref 2), (1, .int x), (2, .int (nI (cnt (fun q => qlt s q = x ∧ qcu s q) i))), (3, .int (nI (i + 1)))]) dX3_countUsableOf_30 rfl (by decide) (by decide) rfl ?_
          refine a_goto (pc := 33) (tgt := 4) dX3_countUsableOf_33 (by decide) ?_
          refine a_locs (ls' := [(0, .ref 2), (1, .int x), (2, .int (nI (cnt (fun q => qlt s q = x ∧ qcu s q) (i + 1)))), (3, .int (nI (i + 1)))]) (by rw [cnt_no (fun z => c16 z.1)]) ?_
          exact ih (i + 1) (by omega) (by omega)
        · skip
          refine a_aload_n (pc := 19) (i := 0) dX3_countUsableOf_19 rfl rfl ?_
          refine a_iload_n (pc := 20) (i := 3) dX3_countUsableOf_20 rfl rfl ?_
          refine a_vV1 (pc := 21) (as := [.int (nI i)]) (b := 2) (ci := 3) (v := .int (bi (qcu s i))) (h' := h) dX3_countUsableOf_21 (lc_RX3_99 rfl) ceX3_canUse rfl (lt90 hn (shK_lt (show shK 2 = _ from rfl))) (sp_canUse c g r c7) rfl rfl (Nat.le_of_ble_eq_true rfl) rfl ?_
          refine b_if_eq (pc := 24) (tgt := 30) dX3_countUsableOf_24 (by decide) (fun c24 => ?_) (fun c24 => ?_)
          · skip
            refine n_iinc (pc := 30) (k := 1) (ls' := [(0, .ref 2), (1, .int x), (2, .int (nI (cnt (fun q => qlt s q = x ∧ qcu s q) i))), (3, .int (nI (i + 1)))]) dX3_countUsableOf_30 rfl (by decide) (by decide) rfl ?_
            refine a_goto (pc := 33) (tgt := 4) dX3_countUsableOf_33 (by decide) ?_
            refine a_locs (ls' := [(0, .ref 2), (1, .int x), (2, .int (nI (cnt (fun q => qlt s q = x ∧ qcu s q) (i + 1)))), (3, .int (nI (i + 1)))]) (by rw [cnt_no (fun z => c24 z.2)]) ?_
            exact ih (i + 1) (by omega) (by omega)
          · skip
            refine n_iinc (pc := 27) (k := 1) (ls' := [(0, .ref 2), (1, .int x), (2, .int (nI ((cnt (fun q => qlt s q = x ∧ qcu s q) i) + 1))), (3, .int (nI i))]) dX3_countUsableOf_27 rfl (by decide) (by decide) rfl ?_
            refine n_iinc (pc := 30) (k := 1) (ls' := [(0, .ref 2), (1, .int x), (2, .int (nI ((cnt (fun q => qlt s q = x ∧ qcu s q) i) + 1))), (3, .int (nI (i + 1)))]) dX3_countUsableOf_30 rfl (by decide) (by decide) rfl ?_
            refine a_goto (pc := 33) (tgt := 4) dX3_countUsableOf_33 (by decide) ?_
            refine a_locs (ls' := [(0, .ref 2), (1, .int x), (2, .int (nI (cnt (fun q => qlt s q = x ∧ qcu s q) (i + 1)))), (3, .int (nI (i + 1)))]) (by rw [cnt_yes ⟨c16, c24⟩]) ?_
            exact ih (i + 1) (by omega) (by omega)
  refine a_iconst (pc := 0) (v := nI 0) dX3_countUsableOf_0 (by decide) ?_
  refine a_istore_n (pc := 1) (i := 2) (ls' := [(0, .ref 2), (1, .int x), (2, .int (nI 0))]) dX3_countUsableOf_1 rfl (by decide) rfl ?_
  refine a_iconst (pc := 2) (v := nI 0) dX3_countUsableOf_2 (by decide) ?_
  refine a_istore_n (pc := 3) (i := 3) (ls' := [(0, .ref 2), (1, .int x), (2, .int (nI 0)), (3, .int (nI 0))]) dX3_countUsableOf_3 rfl (by decide) rfl ?_
  refine a_locs (ls' := [(0, .ref 2), (1, .int x), (2, .int (nI (cnt (fun q => qlt s q = x ∧ qcu s q) 0))), (3, .int (nI 0))]) rfl ?_
  exact LP 97 0 (by omega) (by omega)
theorem cw_no {s : SH} {P : Nat → Prop} {i : Nat} (h : ¬ P i) : mkL (fun b => ∃ q, q < i + 1 ∧ P q ∧ b = qcell s q) = mkL (fun b => ∃ q, q < i ∧ P q ∧ b = qcell s q) := mkL_c fun b _ => ⟨fun ⟨q, h1, h2, h3⟩ => ⟨q, by
    rcases Nat.lt_or_ge q i with z | z
    · exact z
    · exact absurd ((show q = i by omega) ▸ h2) h, h2, h3⟩, fun ⟨q, h1, h2⟩ => ⟨q, by omega, h2⟩⟩
theorem cw_yes {s : SH} {P : Nat → Prop} {i : Nat} (h : P i) : mkL (fun b => ∃ q, q < i ∧ P q ∧ b = qcell s q) ||| mkL (fun b => b = qcell s i) = mkL (fun b => ∃ q, q < i + 1 ∧ P q ∧ b = qcell s q) := by
  rw [mkL_or]
  refine mkL_c fun b _ => ⟨fun z => ?_, fun ⟨q, h1, h2, h3⟩ => ?_⟩
  · rcases z with ⟨q, h1, h2⟩ | e
    · exact ⟨q, by omega, h2⟩
    · exact ⟨i, by omega, h, e⟩
  · rcases Nat.lt_or_ge q i with z | z
    · exact Or.inl ⟨q, z, h2, h3⟩
    · exact Or.inr ((show q = i by omega) ▸ h3)
theorem cw_0 {s : SH} {P : Nat → Prop} : mkL (fun b => ∃ q, q < 0 ∧ P q ∧ b = qcell s q) = 0 := mkL_eq0.mpr fun i _ ⟨q, h1, _⟩ => absurd h1 (by omega)

set_option maxHeartbeats 4000000 in
set_option maxRecDepth 100000 in
theorem sp_cellsWith {d : Nat} {h : AH} {s : SH} (c : CB h) (g : GS s) (r : CR h 2 s) {x : Int32} : AC mX3_cellsWith (d + 5) 0 0 [.ref 2, .int x] h (Qe (some (.long (mkL (fun b => ∃ q, q < 96 ∧ (qlt s q = x ∧ qcu s q) ∧ b = qcell s q)))) h) := by
  have hn := c.1
  have gw := g.1
  have gh := g.2.1
  have gs := g.2.2.1
  have gl := g.2.2.2.2.2.1
  refine AC.of (by decide) rfl (Nat.le_of_ble_eq_true rfl) (fun X => ?_)
  show AW X mX3_cellsWith (d + 5) 0 0 0 [(0, .ref 2), (1, .int x)] [] h (Qe (some (.long (mkL (fun b => ∃ q, q < 96 ∧ (qlt s q = x ∧ qcu s q) ∧ b = qcell s q)))) h)
  have LP : ∀ (fu : Nat) (i : Nat), i ≤ 96 → 96 - i < fu → AW X mX3_cellsWith (d + 5) 0 0 5 [(0, .ref 2), (1, .int x), (2, .long (mkL (fun b => ∃ q, q < i ∧ (qlt s q = x ∧ qcu s q) ∧ b = qcell s q))), (4, .int (nI i))] [] h (Qe (some (.long (mkL (fun b => ∃ q, q < 96 ∧ (qlt s q = x ∧ qcu s q) ∧ b = qcell s q)))) h) := by
    intro fu
    induction fu with
    | zero => intro i hi hz; exact absurd hz (Nat.not_lt_zero _)
    | succ fu ih =>
      intro i hi hz
      refine a_iload (pc := 5) (i := 4) dX3_cellsWith_5 rfl ?_
      refine a_bipush (pc := 7) (v := nI 96) dX3_cellsWith_7 (by decide) ?_
      refine n_icmp_ge (pc := 9) (tgt := 48) dX3_cellsWith_9 (by decide) (by omega) (by omega) (fun c7 => ?_) (fun c7 => ?_)
      · have e : i = 96 := by omega
        subst e
        refine a_lload_n (pc := 48) (i := 2) dX3_cellsWith_48 rfl rfl ?_
        exact a_lreturn (pc := 49) dX3_cellsWith_49 rfl (⟨rfl, rfl⟩)
      · skip
        refine a_aload_n (pc := 12) (i := 0) dX3_cellsWith_12 rfl rfl ?_
        refine a_iload (pc := 13) (i := 4) dX3_cellsWith_13 rfl ?_
        refine a_vV1 (pc := 15) (as := [.int (nI i)]) (b := 2) (ci := 3) (v := .int (qlt s i)) (h' := h) dX3_cellsWith_15 (lc_RX3_81 rfl) ceX3_letterAt rfl (lt90 hn (shK_lt (show shK 2 = _ from rfl))) (sp_letterAt c g r c7) rfl rfl (Nat.le_of_ble_eq_true rfl) rfl ?_
        refine a_iload_n (pc := 18) (i := 1) dX3_cellsWith_18 rfl rfl ?_
        refine a_icmp_ne (pc := 19) (tgt := 42) dX3_cellsWith_19 (by decide) (fun c19 => ?_) (fun c19 => ?_)
        · skip
          refine n_iinc (pc := 42) (k := 1) (ls' := [(0, .ref 2), (1, .int x), (2, .long (mkL (fun b => ∃ q, q < i ∧ (qlt s q = x ∧ qcu s q) ∧ b = qcell s q))), (4, .int (nI (i + 1)))]) dX3_cellsWith_42 rfl (by decide) (by decide) rfl ?_
          refine a_goto (pc := 45) (tgt := 5) dX3_cellsWith_45 (by decide) ?_
          refine a_locs (ls' := [(0, .ref 2), (1, .int x), (2, .long (mkL (fun b => ∃ q, q < i + 1 ∧ (qlt s q = x ∧ qcu s q) ∧ b = qcell s q))), (4, .int (nI (i + 1)))]) (by rw [cw_no (i := i) (fun z => c19 z.1)]) ?_
          exact ih (i + 1) (by omega) (by omega)
        · skip
          refine a_aload_n (pc := 22) (i := 0) dX3_cellsWith_22 rfl rfl ?_
          refine a_iload (pc := 23) (i := 4) dX3_cellsWith_23 rfl ?_
          refine a_vV1 (pc := 25) (as := [.int (nI i)]) (b := 2) (ci := 3) (v := .int (bi (qcu s i))) (h' := h) dX3_cellsWith_25 (lc_RX3_99 rfl) ceX3_canUse rfl (lt90 hn (shK_lt (show shK 2 = _ from rfl))) (sp_canUse c g r c7) rfl rfl (Nat.le_of_ble_eq_true rfl) rfl ?_
          refine b_if_eq (pc := 28) (tgt := 42) dX3_cellsWith_28 (by decide) (fun c28 => ?_) (fun c28 => ?_)
          · skip
            refine n_iinc (pc := 42) (k := 1) (ls' := [(0, .ref 2), (1, .int x), (2, .long (mkL (fun b => ∃ q, q < i ∧ (qlt s q = x ∧ qcu s q) ∧ b = qcell s q))), (4, .int (nI (i + 1)))]) dX3_cellsWith_42 rfl (by decide) (by decide) rfl ?_
            refine a_goto (pc := 45) (tgt := 5) dX3_cellsWith_45 (by decide) ?_
            refine a_locs (ls' := [(0, .ref 2), (1, .int x), (2, .long (mkL (fun b => ∃ q, q < i + 1 ∧ (qlt s q = x ∧ qcu s q) ∧ b = qcell s q))), (4, .int (nI (i + 1)))]) (by rw [cw_no (i := i) (fun z => c28 z.2)]) ?_
            exact ih (i + 1) (by omega) (by omega)
          · skip
            refine a_lload_n (pc := 31) (i := 2) dX3_cellsWith_31 rfl rfl ?_
            refine a_lconst (pc := 32) (v := 1) dX3_cellsWith_32 (by decide) ?_
            refine a_aload_n (pc := 33) (i := 0) dX3_cellsWith_33 rfl rfl ?_
            refine a_iload (pc := 34) (i := 4) dX3_cellsWith_34 rfl ?_
            refine a_vV1 (pc := 36) (as := [.int (nI i)]) (b := 2) (ci := 3) (v := .int (nI (qcell s i))) (h' := h) dX3_cellsWith_36 (lc_RX3_84 rfl) ceX3_cellOf rfl (lt90 hn (shK_lt (show shK 2 = _ from rfl))) (sp_cellOf c g r c7 (qhas_of_lt c28.1).2) rfl rfl (Nat.le_of_ble_eq_true rfl) rfl ?_
            refine a_lshl (pc := 39) dX3_cellsWith_39 ?_
            refine a_top (show (.long (1 <<< ((nI (qcell s i)).toInt64 &&& 63)) : Value) = .long (mkL (fun b => b = qcell s i)) from congrArg Value.long (mkL_shl (qcell_lt g c7))) ?_
            refine a_lor (pc := 40) dX3_cellsWith_40 ?_
            refine a_top (show (.long ((mkL (fun b => ∃ q, q < i ∧ (qlt s q = x ∧ qcu s q) ∧ b = qcell s q)) ||| (mkL (fun b => b = qcell s i))) : Value) = .long (mkL (fun b => ∃ q, q < i + 1 ∧ (qlt s q = x ∧ qcu s q) ∧ b = qcell s q)) from congrArg Value.long (cw_yes ⟨c19, c28⟩)) ?_
            refine a_lstore_n (pc := 41) (i := 2) (ls' := [(0, .ref 2), (1, .int x), (2, .long (mkL (fun b => ∃ q, q < i + 1 ∧ (qlt s q = x ∧ qcu s q) ∧ b = qcell s q))), (4, .int (nI i))]) dX3_cellsWith_41 rfl (by decide) rfl ?_
            refine n_iinc (pc := 42) (k := 1) (ls' := [(0, .ref 2), (1, .int x), (2, .long (mkL (fun b => ∃ q, q < i + 1 ∧ (qlt s q = x ∧ qcu s q) ∧ b = qcell s q))), (4, .int (nI (i + 1)))]) dX3_cellsWith_42 rfl (by decide) (by decide) rfl ?_
            refine a_goto (pc := 45) (tgt := 5) dX3_cellsWith_45 (by decide) ?_
            exact ih (i + 1) (by omega) (by omega)
  refine a_lconst (pc := 0) (v := 0) dX3_cellsWith_0 (by decide) ?_
  refine a_lstore_n (pc := 1) (i := 2) (ls' := [(0, .ref 2), (1, .int x), (2, .long 0)]) dX3_cellsWith_1 rfl (by decide) rfl ?_
  refine a_iconst (pc := 2) (v := nI 0) dX3_cellsWith_2 (by decide) ?_
  refine a_istore (pc := 3) (i := 4) (ls' := [(0, .ref 2), (1, .int x), (2, .long 0), (4, .int (nI 0))]) dX3_cellsWith_3 (by decide) rfl ?_
  refine a_locs (ls' := [(0, .ref 2), (1, .int x), (2, .long (mkL (fun b => ∃ q, q < 0 ∧ (qlt s q = x ∧ qcu s q) ∧ b = qcell s q))), (4, .int (nI 0))]) (by rw [cw_0]) ?_
  exact LP 97 0 (by omega) (by omega)
set_option maxHeartbeats 4000000 in
set_option maxRecDepth 100000 in
theorem sp_countInMessage {d : Nat} {h : AH} {s : SH} (c : CB h) (g : GS s) (r : CR h 2 s) {x : Int32} : AC mX3_countInMessage (d + 3) 0 0 [.ref 2, .int x] h (Qe (some (.int (nI (inMs s x)))) h) := by
  have hn := c.1
  have gw := g.1
  have gh := g.2.1
  have gs := g.2.2.1
  have gl := g.2.2.2.2.2.1
  refine AC.of (by decide) rfl (Nat.le_of_ble_eq_true rfl) (fun X => ?_)
  show AW X mX3_countInMessage (d + 3) 0 0 0 [(0, .ref 2), (1, .int x)] [] h (Qe (some (.int (nI (inMs s x)))) h)
  have LP : ∀ (fu : Nat) (i : Nat), i ≤ sLen s → sLen s - i < fu → AW X mX3_countInMessage (d + 3) 0 0 4 [(0, .ref 2), (1, .int x), (2, .int (nI (cnt (fun k => nI (sMs s k) = x) i))), (3, .int (nI i))] [] h (Qe (some (.int (nI (inMs s x)))) h) := by
    intro fu
    induction fu with
    | zero => intro i hi hz; exact absurd hz (Nat.not_lt_zero _)
    | succ fu ih =>
      intro i hi hz
      have hcl := cnt_le (fun k => nI (sMs s k) = x) i
      refine a_iload_n (pc := 4) (i := 3) dX3_countInMessage_4 rfl rfl ?_
      refine a_aload_n (pc := 5) (i := 0) dX3_countInMessage_5 rfl rfl ?_
      refine a_getI (pc := 6) (ci := 3) (k := 7) dX3_countInMessage_6 (lf_RX3_45 rfl) (by decide) rfl rfl (lt90 hn (shK_lt (show shK 2 = _ from rfl))) ?_
      refine a_top (show (.int (hI h 2 7) : Value) = .int (nI (sLen s)) from congrArg Value.int r.1.2.2.2.2.1) ?_
      refine n_icmp_ge (pc := 9) (tgt := 30) dX3_countInMessage_9 (by decide) (by omega) (by omega) (fun c9 => ?_) (fun c9 => ?_)
      · have e : i = sLen s := by omega
        subst e
        refine a_iload_n (pc := 30) (i := 2) dX3_countInMessage_30 rfl rfl ?_
        exact a_ireturn (pc := 31) dX3_countInMessage_31 rfl rfl (⟨rfl, rfl⟩)
      · skip
        refine a_aload_n (pc := 12) (i := 0) dX3_countInMessage_12 rfl rfl ?_
        refine a_iload_n (pc := 13) (i := 3) dX3_countInMessage_13 rfl rfl ?_
        refine a_vV1 (pc := 14) (as := [.int (nI i)]) (b := 2) (ci := 3) (v := .int (msA s i)) (h' := h) dX3_countInMessage_14 (lc_RX3_105 rfl) ceX3_messageAt rfl (lt90 hn (shK_lt (show shK 2 = _ from rfl))) (sp_messageAt c g r (by omega)) rfl rfl (Nat.le_of_ble_eq_true rfl) rfl ?_
        refine a_top (show (.int (msA s i) : Value) = .int (nI (sMs s i)) from congrArg Value.int (cif_t c9)) ?_
        refine a_iload_n (pc := 17) (i := 1) dX3_countInMessage_17 rfl rfl ?_
        refine a_icmp_ne (pc := 18) (tgt := 24) dX3_countInMessage_18 (by decide) (fun c18 => ?_) (fun c18 => ?_)
        · skip
          refine n_iinc (pc := 24) (k := 1) (ls' := [(0, .ref 2), (1, .int x), (2, .int (nI (cnt (fun k => nI (sMs s k) = x) i))), (3, .int (nI (i + 1)))]) dX3_countInMessage_24 rfl (by decide) (by decide) rfl ?_
          refine a_goto (pc := 27) (tgt := 4) dX3_countInMessage_27 (by decide) ?_
          refine a_locs (ls' := [(0, .ref 2), (1, .int x), (2, .int (nI (cnt (fun k => nI (sMs s k) = x) (i + 1)))), (3, .int (nI (i + 1)))]) (by rw [cnt_no c18]) ?_
          exact ih (i + 1) (by omega) (by omega)
        · skip
          refine n_iinc (pc := 21) (k := 1) (ls' := [(0, .ref 2), (1, .int x), (2, .int (nI ((cnt (fun k => nI (sMs s k) = x) i) + 1))), (3, .int (nI i))]) dX3_countInMessage_21 rfl (by decide) (by decide) rfl ?_
          refine n_iinc (pc := 24) (k := 1) (ls' := [(0, .ref 2), (1, .int x), (2, .int (nI ((cnt (fun k => nI (sMs s k) = x) i) + 1))), (3, .int (nI (i + 1)))]) dX3_countInMessage_24 rfl (by decide) (by decide) rfl ?_
          refine a_goto (pc := 27) (tgt := 4) dX3_countInMessage_27 (by decide) ?_
          refine a_locs (ls' := [(0, .ref 2), (1, .int x), (2, .int (nI (cnt (fun k => nI (sMs s k) = x) (i + 1)))), (3, .int (nI (i + 1)))]) (by rw [cnt_yes c18]) ?_
          exact ih (i + 1) (by omega) (by omega)
  refine a_iconst (pc := 0) (v := nI 0) dX3_countInMessage_0 (by decide) ?_
  refine a_istore_n (pc := 1) (i := 2) (ls' := [(0, .ref 2), (1, .int x), (2, .int (nI 0))]) dX3_countInMessage_1 rfl (by decide) rfl ?_
  refine a_iconst (pc := 2) (v := nI 0) dX3_countInMessage_2 (by decide) ?_
  refine a_istore_n (pc := 3) (i := 3) (ls' := [(0, .ref 2), (1, .int x), (2, .int (nI 0)), (3, .int (nI 0))]) dX3_countInMessage_3 rfl (by decide) rfl ?_
  refine a_locs (ls' := [(0, .ref 2), (1, .int x), (2, .int (nI (cnt (fun k => nI (sMs s k) = x) 0))), (3, .int (nI 0))]) rfl ?_
  exact LP (sLen s + 1) 0 (by omega) (by omega)
set_option maxHeartbeats 4000000 in
set_option maxRecDepth 100000 in
theorem sp_isStrip {d : Nat} {h : AH} {s : SH} (c : CB h) (g : GS s) (r : CR h 2 s) {q n : Nat} (hq : q < 96) (hqn : n ≤ 8) : AC mX3_isStrip (d + 5) 0 0 [.ref 2, .int (nI q), .int (nI n)] h (Qe (some (.int (bi (q % 8 + n ≤ sW s ∧ ∀ i, i < n → qcu s (q + i))))) h) := by
  have hn := c.1
  have gw := g.1
  have gh := g.2.1
  have gs := g.2.2.1
  have gl := g.2.2.2.2.2.1
  refine AC.of (by decide) rfl (Nat.le_of_ble_eq_true rfl) (fun X => ?_)
  show AW X mX3_isStrip (d + 5) 0 0 0 [(0, .ref 2), (1, .int (nI q)), (2, .int (nI n))] [] h (Qe (some (.int (bi (q % 8 + n ≤ sW s ∧ ∀ i, i < n → qcu s (q + i))))) h)
  have LP0 : q % 8 + n ≤ sW s → AW X mX3_isStrip (d + 5) 0 0 15 [(0, .ref 2), (1, .int (nI q)), (2, .int (nI n))] [] h (Qe (some (.int (bi (q % 8 + n ≤ sW s ∧ ∀ i, i < n → qcu s (q + i))))) h) := by
    intro hle
    have LP : ∀ (fu : Nat) (i : Nat), i ≤ n → (∀ j, j < i → qcu s (q + j)) → n - i < fu → AW X mX3_isStrip (d + 5) 0 0 17 [(0, .ref 2), (1, .int (nI q)), (2, .int (nI n)), (3, .int (nI i))] [] h (Qe (some (.int (bi (q % 8 + n ≤ sW s ∧ ∀ i, i < n → qcu s (q + i))))) h) := by
      intro fu
      induction fu with
      | zero => intro i hi hb hz; exact absurd hz (Nat.not_lt_zero _)
      | succ fu ih =>
        intro i hi hb hz
        refine a_iload_n (pc := 17) (i := 3) dX3_isStrip_17 rfl rfl ?_
        refine a_iload_n (pc := 18) (i := 2) dX3_isStrip_18 rfl rfl ?_
        refine n_icmp_ge (pc := 19) (tgt := 40) dX3_isStrip_19 (by decide) (by omega) (by omega) (fun c19 => ?_) (fun c19 => ?_)
        · have e : i = n := by omega
          subst e
          refine a_iconst (pc := 40) (v := nI 1) dX3_isStrip_40 (by decide) ?_
          exact a_ireturn (pc := 41) dX3_isStrip_41 rfl rfl (⟨by rw [bi_t ⟨hle, hb⟩]; rfl, rfl⟩)
        · skip
          refine a_aload_n (pc := 22) (i := 0) dX3_isStrip_22 rfl rfl ?_
          refine a_iload_n (pc := 23) (i := 1) dX3_isStrip_23 rfl rfl ?_
          refine a_iload_n (pc := 24) (i := 3) dX3_isStrip_24 rfl rfl ?_
          refine n_iadd (pc := 25) dX3_isStrip_25 ?_
          refine a_vV1 (pc := 26) (as := [.int (nI (q + i))]) (b := 2) (ci := 3) (v := .int (bi (qcu s (q + i)))) (h' := h) dX3_isStrip_26 (lc_RX3_99 rfl) ceX3_canUse rfl (lt90 hn (shK_lt (show shK 2 = _ from rfl))) (sp_canUse c g r (by omega)) rfl rfl (Nat.le_of_ble_eq_true rfl) rfl ?_
          refine b_if_ne (pc := 29) (tgt := 34) dX3_isStrip_29 (by decide) (fun c29 => ?_) (fun c29 => ?_)
          · skip
            refine n_iinc (pc := 34) (k := 1) (ls' := [(0, .ref 2), (1, .int (nI q)), (2, .int (nI n)), (3, .int (nI (i + 1)))]) dX3_isStrip_34 rfl (by decide) (by decide) rfl ?_
            refine a_goto (pc := 37) (tgt := 17) dX3_isStrip_37 (by decide) ?_
            exact ih (i + 1) (by omega) (fun j hj => by rcases Nat.lt_or_ge j i with z | z; exact hb j z; rw [show j = i by omega]; exact c29) (by omega)
          · skip
            refine a_iconst (pc := 32) (v := nI 0) dX3_isStrip_32 (by decide) ?_
            exact a_ireturn (pc := 33) dX3_isStrip_33 rfl rfl (⟨by rw [bi_f (fun z => c29 (z.2 i c19))]; rfl, rfl⟩)
    refine a_iconst (pc := 15) (v := nI 0) dX3_isStrip_15 (by decide) ?_
    refine a_istore_n (pc := 16) (i := 3) (ls' := [(0, .ref 2), (1, .int (nI q)), (2, .int (nI n)), (3, .int (nI 0))]) dX3_isStrip_16 rfl (by decide) rfl ?_
    exact LP (n + 1) 0 (by omega) (fun j hj => absurd hj (by omega)) (by omega)
  refine a_iload_n (pc := 0) (i := 1) dX3_isStrip_0 rfl rfl ?_
  refine a_vSN1 (pc := 1) (as := [.int (nI q)]) (v := .int (nI (q % 8))) (h' := h) dX3_isStrip_1 (lc_RX3_68 rfl) ceX4_columnOf (sp_columnOf (by omega)) rfl rfl (Nat.le_of_ble_eq_true rfl) rfl ?_
  refine a_iload_n (pc := 4) (i := 2) dX3_isStrip_4 rfl rfl ?_
  refine n_iadd (pc := 5) dX3_isStrip_5 ?_
  refine a_aload_n (pc := 6) (i := 0) dX3_isStrip_6 rfl rfl ?_
  refine a_getI (pc := 7) (ci := 3) (k := 0) dX3_isStrip_7 (lf_RX3_25 rfl) (by decide) rfl rfl (lt90 hn (shK_lt (show shK 2 = _ from rfl))) ?_
  refine a_top (show (.int (hI h 2 0) : Value) = .int (nI (sW s)) from congrArg Value.int r.1.1) ?_
  refine n_icmp_le (pc := 10) (tgt := 15) dX3_isStrip_10 (by decide) (by omega) (by omega) (fun c10 => ?_) (fun c10 => ?_)
  · skip
    exact LP0 c10
  · skip
    refine a_iconst (pc := 13) (v := nI 0) dX3_isStrip_13 (by decide) ?_
    exact a_ireturn (pc := 14) dX3_isStrip_14 rfl rfl (⟨by rw [bi_f (fun z => absurd z.1 (by omega))]; rfl, rfl⟩)
theorem cs_step {s : SH} {q i : Nat} : mkL (fun b => ∃ j, j < i ∧ b = qcell s (q + j)) ||| mkL (fun b => b = qcell s (q + i)) = mkL (fun b => ∃ j, j < i + 1 ∧ b = qcell s (q + j)) := by
  rw [mkL_or]
  refine mkL_c fun b _ => ⟨fun z => ?_, fun ⟨j, h1, h2⟩ => ?_⟩
  · rcases z with ⟨j, h1, h2⟩ | e
    · exact ⟨j, by omega, h2⟩
    · exact ⟨i, by omega, e⟩
  · rcases Nat.lt_or_ge j i with z | z
    · exact Or.inl ⟨j, z, h2⟩
    · exact Or.inr ((show j = i by omega) ▸ h2)
theorem cs_0 {s : SH} {q : Nat} : mkL (fun b => ∃ j, j < 0 ∧ b = qcell s (q + j)) = 0 := mkL_eq0.mpr fun i _ ⟨q, h1, _⟩ => absurd h1 (by omega)

set_option maxHeartbeats 4000000 in
set_option maxRecDepth 100000 in
theorem sp_cellsOfStrip {d : Nat} {h : AH} {s : SH} (c : CB h) (g : GS s) (r : CR h 2 s) {q n : Nat} (hq : q < 96) (hr : q % 8 + n ≤ sW s) : AC mX3_cellsOfStrip (d + 3) 0 0 [.ref 2, .int (nI q), .int (nI n)] h (Qe (some (.long (mkL (fun b => ∃ j, j < n ∧ b = qcell s (q + j))))) h) := by
  have hn := c.1
  have gw := g.1
  have gh := g.2.1
  have gs := g.2.2.1
  have gl := g.2.2.2.2.2.1
  refine AC.of (by decide) rfl (Nat.le_of_ble_eq_true rfl) (fun X => ?_)
  show AW X mX3_cellsOfStrip (d + 3) 0 0 0 [(0, .ref 2), (1, .int (nI q)), (2, .int (nI n))] [] h (Qe (some (.long (mkL (fun b => ∃ j, j < n ∧ b = qcell s (q + j))))) h)
  have LP : ∀ (fu : Nat) (i : Nat), i ≤ n → n - i < fu → AW X mX3_cellsOfStrip (d + 3) 0 0 5 [(0, .ref 2), (1, .int (nI q)), (2, .int (nI n)), (3, .long (mkL (fun b => ∃ j, j < i ∧ b = qcell s (q + j)))), (5, .int (nI i))] [] h (Qe (some (.long (mkL (fun b => ∃ j, j < n ∧ b = qcell s (q + j))))) h) := by
    intro fu
    induction fu with
    | zero => intro i hi hz; exact absurd hz (Nat.not_lt_zero _)
    | succ fu ih =>
      intro i hi hz
      refine a_iload (pc := 5) (i := 5) dX3_cellsOfStrip_5 rfl ?_
      refine a_iload_n (pc := 7) (i := 2) dX3_cellsOfStrip_7 rfl rfl ?_
      refine n_icmp_ge (pc := 8) (tgt := 30) dX3_cellsOfStrip_8 (by decide) (by omega) (by omega) (fun c8 => ?_) (fun c8 => ?_)
      · have e : i = n := by omega
        subst e
        refine a_lload_n (pc := 30) (i := 3) dX3_cellsOfStrip_30 rfl rfl ?_
        exact a_lreturn (pc := 31) dX3_cellsOfStrip_31 rfl (⟨rfl, rfl⟩)
      · skip
        refine a_lload_n (pc := 11) (i := 3) dX3_cellsOfStrip_11 rfl rfl ?_
        refine a_lconst (pc := 12) (v := 1) dX3_cellsOfStrip_12 (by decide) ?_
        refine a_aload_n (pc := 13) (i := 0) dX3_cellsOfStrip_13 rfl rfl ?_
        refine a_iload_n (pc := 14) (i := 1) dX3_cellsOfStrip_14 rfl rfl ?_
        refine a_iload (pc := 15) (i := 5) dX3_cellsOfStrip_15 rfl ?_
        refine n_iadd (pc := 17) dX3_cellsOfStrip_17 ?_
        refine a_vV1 (pc := 18) (as := [.int (nI (q + i))]) (b := 2) (ci := 3) (v := .int (nI (qcell s (q + i)))) (h' := h) dX3_cellsOfStrip_18 (lc_RX3_84 rfl) ceX3_cellOf rfl (lt90 hn (shK_lt (show shK 2 = _ from rfl))) (sp_cellOf c g r (by omega) (by omega)) rfl rfl (Nat.le_of_ble_eq_true rfl) rfl ?_
        refine a_lshl (pc := 21) dX3_cellsOfStrip_21 ?_
        refine a_top (show (.long (1 <<< ((nI (qcell s (q + i))).toInt64 &&& 63)) : Value) = .long (mkL (fun b => b = qcell s (q + i))) from congrArg Value.long (mkL_shl (qcell_lt g (by omega)))) ?_
        refine a_lor (pc := 22) dX3_cellsOfStrip_22 ?_
        refine a_top (show (.long ((mkL (fun b => ∃ j, j < i ∧ b = qcell s (q + j))) ||| (mkL (fun b => b = qcell s (q + i)))) : Value) = .long (mkL (fun b => ∃ j, j < (i + 1) ∧ b = qcell s (q + j))) from congrArg Value.long cs_step) ?_
        refine a_lstore_n (pc := 23) (i := 3) (ls' := [(0, .ref 2), (1, .int (nI q)), (2, .int (nI n)), (3, .long (mkL (fun b => ∃ j, j < (i + 1) ∧ b = qcell s (q + j)))), (5, .int (nI i))]) dX3_cellsOfStrip_23 rfl (by decide) rfl ?_
        refine n_iinc (pc := 24) (k := 1) (ls' := [(0, .ref 2), (1, .int (nI q)), (2, .int (nI n)), (3, .long (mkL (fun b => ∃ j, j < (i + 1) ∧ b = qcell s (q + j)))), (5, .int (nI (i + 1)))]) dX3_cellsOfStrip_24 rfl (by decide) (by decide) rfl ?_
        refine a_goto (pc := 27) (tgt := 5) dX3_cellsOfStrip_27 (by decide) ?_
        exact ih (i + 1) (by omega) (by omega)
  refine a_lconst (pc := 0) (v := 0) dX3_cellsOfStrip_0 (by decide) ?_
  refine a_lstore_n (pc := 1) (i := 3) (ls' := [(0, .ref 2), (1, .int (nI q)), (2, .int (nI n)), (3, .long 0)]) dX3_cellsOfStrip_1 rfl (by decide) rfl ?_
  refine a_iconst (pc := 2) (v := nI 0) dX3_cellsOfStrip_2 (by decide) ?_
  refine a_istore (pc := 3) (i := 5) (ls' := [(0, .ref 2), (1, .int (nI q)), (2, .int (nI n)), (3, .long 0), (5, .int (nI 0))]) dX3_cellsOfStrip_3 (by decide) rfl ?_
  refine a_locs (ls' := [(0, .ref 2), (1, .int (nI q)), (2, .int (nI n)), (3, .long (mkL (fun b => ∃ j, j < 0 ∧ b = qcell s (q + j)))), (5, .int (nI 0))]) (by rw [cs_0]) ?_
  exact LP (n + 1) 0 (by omega) (by omega)
/-- how long the strip from spot q is that bears the letters of the message from f on -/
def okr (s : SH) (f q i : Nat) : Prop := qlt s (q + i) = msA s (f + i) ∧ qcu s (q + i)
noncomputable def runF (P : Nat → Prop) : Nat → Nat → Nat
  | 0, i => i
  | n + 1, i => cif (P i) (runF P n (i + 1)) i
noncomputable def qrun (s : SH) (f q : Nat) : Nat := runF (okr s f q) (sW s - q % 8) 0
theorem runF_le (P : Nat → Prop) : ∀ n i, i ≤ runF P n i ∧ runF P n i ≤ i + n
  | 0, i => ⟨Nat.le_refl _, Nat.le_refl _⟩
  | n + 1, i => by
    have := runF_le P n (i + 1)
    unfold runF
    rcases Classical.em (P i) with h | h
    · rw [cif_t h]; omega
    · rw [cif_f h]; omega
theorem runF_ok (P : Nat → Prop) : ∀ n i j, i ≤ j → j < runF P n i → P j
  | 0, i, j, h1, h2 => by unfold runF at h2; omega
  | n + 1, i, j, h1, h2 => by
    unfold runF at h2
    rcases Classical.em (P i) with h | h
    · rw [cif_t h] at h2
      rcases Nat.lt_or_ge i j with z | z
      · exact runF_ok P n (i + 1) j z h2
      · rw [show j = i by omega]; exact h
    · rw [cif_f h] at h2; omega
theorem runF_max (P : Nat → Prop) : ∀ n i, runF P n i < i + n → ¬ P (runF P n i)
  | 0, i, h => by unfold runF at h; omega
  | n + 1, i, h => by
    unfold runF at h ⊢
    rcases Classical.em (P i) with q | q
    · rw [cif_t q] at h ⊢; exact runF_max P n (i + 1) (by omega)
    · rw [cif_f q]; exact q

set_option maxHeartbeats 4000000 in
set_option maxRecDepth 100000 in
theorem sp_lettersFrom {d : Nat} {h : AH} {s : SH} (c : CB h) (g : GS s) (r : CR h 2 s) {q f : Nat} (hq : q < 96) (hf : f < 64) : AC mX3_lettersFrom (d + 5) 0 0 [.ref 2, .int (nI q), .int (nI f)] h (Qe (some (.int (nI (qrun s f q)))) h) := by
  have hn := c.1
  have gw := g.1
  have gh := g.2.1
  have gs := g.2.2.1
  have gl := g.2.2.2.2.2.1
  refine AC.of (by decide) rfl (Nat.le_of_ble_eq_true rfl) (fun X => ?_)
  show AW X mX3_lettersFrom (d + 5) 0 0 0 [(0, .ref 2), (1, .int (nI q)), (2, .int (nI f))] [] h (Qe (some (.int (nI (qrun s f q)))) h)
  rcases Nat.lt_or_ge (sW s) (q % 8) with hlt | hge
  · skip
    refine a_aload_n (pc := 0) (i := 0) dX3_lettersFrom_0 rfl rfl ?_
    refine a_getI (pc := 1) (ci := 3) (k := 0) dX3_lettersFrom_1 (lf_RX3_25 rfl) (by decide) rfl rfl (lt90 hn (shK_lt (show shK 2 = _ from rfl))) ?_
    refine a_top (show (.int (hI h 2 0) : Value) = .int (nI (sW s)) from congrArg Value.int r.1.1) ?_
    refine a_iload_n (pc := 4) (i := 1) dX3_lettersFrom_4 rfl rfl ?_
    refine a_vSN1 (pc := 5) (as := [.int (nI q)]) (v := .int (nI (q % 8))) (h' := h) dX3_lettersFrom_5 (lc_RX3_68 rfl) ceX4_columnOf (sp_columnOf (by omega)) rfl rfl (Nat.le_of_ble_eq_true rfl) rfl ?_
    refine a_isub (pc := 8) dX3_lettersFrom_8 ?_
    refine a_istore_n (pc := 9) (i := 3) (ls' := [(0, .ref 2), (1, .int (nI q)), (2, .int (nI f)), (3, .int ((nI (sW s)) - (nI (q % 8))))]) dX3_lettersFrom_9 rfl (by decide) rfl ?_
    refine a_iconst (pc := 10) (v := nI 0) dX3_lettersFrom_10 (by decide) ?_
    refine a_istore (pc := 11) (i := 4) (ls' := [(0, .ref 2), (1, .int (nI q)), (2, .int (nI f)), (3, .int ((nI (sW s)) - (nI (q % 8)))), (4, .int (nI 0))]) dX3_lettersFrom_11 (by decide) rfl ?_
    refine a_iload (pc := 13) (i := 4) dX3_lettersFrom_13 rfl ?_
    refine a_iload_n (pc := 15) (i := 3) dX3_lettersFrom_15 rfl rfl ?_
    have hneg : ∀ j : Nat, j < 2 ^ 30 → ¬ nI j < nI (sW s) - nI (q % 8) := fun j hj z => by have h1 := pk_sneg (a := sW s) (b := q % 8) (by omega) hlt; have h2 := Int32.lt_iff_toInt_lt.mp z; have h3 := Int32.lt_iff_toInt_lt.mp h1; have h4 := nI_toInt (n := j) (by omega); have h5 : (0 : Int32).toInt = 0 := rfl; omega
    refine a_icmp_ge (pc := 16) (tgt := 55) dX3_lettersFrom_16 (by decide) (fun c16 => ?_) (fun c16 => ?_)
    · skip
      refine a_iload (pc := 55) (i := 4) dX3_lettersFrom_55 rfl ?_
      exact a_ireturn (pc := 57) dX3_lettersFrom_57 rfl rfl (⟨by rw [show qrun s f q = 0 by unfold qrun; rw [show sW s - q % 8 = 0 by omega]; rfl], rfl⟩)
    · exact absurd (Int32.not_le.mp c16) (hneg 0 (by omega))
  · skip
    have LP : ∀ (fu : Nat) (k i : Nat), i + k = sW s - q % 8 → runF (okr s f q) k i = qrun s f q → k < fu → AW X mX3_lettersFrom (d + 5) 0 0 13 [(0, .ref 2), (1, .int (nI q)), (2, .int (nI f)), (3, .int (nI (sW s - q % 8))), (4, .int (nI i))] [] h (Qe (some (.int (nI (qrun s f q)))) h) := by
      intro fu
      induction fu with
      | zero => intro k i hi hr hz; exact absurd hz (Nat.not_lt_zero _)
      | succ fu ih =>
        intro k i hi hr hz
        refine a_iload (pc := 13) (i := 4) dX3_lettersFrom_13 rfl ?_
        refine a_iload_n (pc := 15) (i := 3) dX3_lettersFrom_15 rfl rfl ?_
        refine n_icmp_ge (pc := 16) (tgt := 55) dX3_lettersFrom_16 (by decide) (by omega) (by omega) (fun c16 => ?_) (fun c16 => ?_)
        · have e : k = 0 := by omega
          subst e
          have e2 : i = qrun s f q := hr
          refine a_iload (pc := 55) (i := 4) dX3_lettersFrom_55 rfl ?_
          exact a_ireturn (pc := 57) dX3_lettersFrom_57 rfl rfl (⟨by rw [e2], rfl⟩)
        · obtain ⟨k, rfl⟩ : ∃ k2, k = k2 + 1 := ⟨k - 1, by omega⟩
          unfold runF at hr
          refine a_aload_n (pc := 19) (i := 0) dX3_lettersFrom_19 rfl rfl ?_
          refine a_iload_n (pc := 20) (i := 1) dX3_lettersFrom_20 rfl rfl ?_
          refine a_iload (pc := 21) (i := 4) dX3_lettersFrom_21 rfl ?_
          refine n_iadd (pc := 23) dX3_lettersFrom_23 ?_
          refine a_vV1 (pc := 24) (as := [.int (nI (q + i))]) (b := 2) (ci := 3) (v := .int (qlt s (q + i))) (h' := h) dX3_lettersFrom_24 (lc_RX3_81 rfl) ceX3_letterAt rfl (lt90 hn (shK_lt (show shK 2 = _ from rfl))) (sp_letterAt c g r (by omega)) rfl rfl (Nat.le_of_ble_eq_true rfl) rfl ?_
          refine a_aload_n (pc := 27) (i := 0) dX3_lettersFrom_27 rfl rfl ?_
          refine a_iload_n (pc := 28) (i := 2) dX3_lettersFrom_28 rfl rfl ?_
          refine a_iload (pc := 29) (i := 4) dX3_lettersFrom_29 rfl ?_
          refine n_iadd (pc := 31) dX3_lettersFrom_31 ?_
          refine a_vV1 (pc := 32) (as := [.int (nI (f + i))]) (b := 2) (ci := 3) (v := .int (msA s (f + i))) (h' := h) dX3_lettersFrom_32 (lc_RX3_105 rfl) ceX3_messageAt rfl (lt90 hn (shK_lt (show shK 2 = _ from rfl))) (sp_messageAt c g r (by omega)) rfl rfl (Nat.le_of_ble_eq_true rfl) rfl ?_
          refine a_icmp_ne (pc := 35) (tgt := 55) dX3_lettersFrom_35 (by decide) (fun c35 => ?_) (fun c35 => ?_)
          · rw [cif_f (fun z => c35 z.1)] at hr
            refine a_iload (pc := 55) (i := 4) dX3_lettersFrom_55 rfl ?_
            exact a_ireturn (pc := 57) dX3_lettersFrom_57 rfl rfl (⟨by rw [hr], rfl⟩)
          · skip
            refine a_aload_n (pc := 38) (i := 0) dX3_lettersFrom_38 rfl rfl ?_
            refine a_iload_n (pc := 39) (i := 1) dX3_lettersFrom_39 rfl rfl ?_
            refine a_iload (pc := 40) (i := 4) dX3_lettersFrom_40 rfl ?_
            refine n_iadd (pc := 42) dX3_lettersFrom_42 ?_
            refine a_vV1 (pc := 43) (as := [.int (nI (q + i))]) (b := 2) (ci := 3) (v := .int (bi (qcu s (q + i)))) (h' := h) dX3_lettersFrom_43 (lc_RX3_99 rfl) ceX3_canUse rfl (lt90 hn (shK_lt (show shK 2 = _ from rfl))) (sp_canUse c g r (by omega)) rfl rfl (Nat.le_of_ble_eq_true rfl) rfl ?_
            refine b_if_eq (pc := 46) (tgt := 55) dX3_lettersFrom_46 (by decide) (fun c46 => ?_) (fun c46 => ?_)
            · rw [cif_f (fun z => c46 z.2)] at hr
              refine a_iload (pc := 55) (i := 4) dX3_lettersFrom_55 rfl ?_
              exact a_ireturn (pc := 57) dX3_lettersFrom_57 rfl rfl (⟨by rw [hr], rfl⟩)
            · rw [cif_t (show okr s f q i from ⟨c35, c46⟩)] at hr
              refine n_iinc (pc := 49) (k := 1) (ls' := [(0, .ref 2), (1, .int (nI q)), (2, .int (nI f)), (3, .int (nI (sW s - q % 8))), (4, .int (nI (i + 1)))]) dX3_lettersFrom_49 rfl (by decide) (by decide) rfl ?_
              refine a_goto (pc := 52) (tgt := 13) dX3_lettersFrom_52 (by decide) ?_
              exact ih k (i + 1) (by omega) hr (by omega)
    refine a_aload_n (pc := 0) (i := 0) dX3_lettersFrom_0 rfl rfl ?_
    refine a_getI (pc := 1) (ci := 3) (k := 0) dX3_lettersFrom_1 (lf_RX3_25 rfl) (by decide) rfl rfl (lt90 hn (shK_lt (show shK 2 = _ from rfl))) ?_
    refine a_top (show (.int (hI h 2 0) : Value) = .int (nI (sW s)) from congrArg Value.int r.1.1) ?_
    refine a_iload_n (pc := 4) (i := 1) dX3_lettersFrom_4 rfl rfl ?_
    refine a_vSN1 (pc := 5) (as := [.int (nI q)]) (v := .int (nI (q % 8))) (h' := h) dX3_lettersFrom_5 (lc_RX3_68 rfl) ceX4_columnOf (sp_columnOf (by omega)) rfl rfl (Nat.le_of_ble_eq_true rfl) rfl ?_
    refine n_isub (pc := 8) dX3_lettersFrom_8 (by omega) ?_
    refine a_istore_n (pc := 9) (i := 3) (ls' := [(0, .ref 2), (1, .int (nI q)), (2, .int (nI f)), (3, .int (nI ((sW s) - (q % 8))))]) dX3_lettersFrom_9 rfl (by decide) rfl ?_
    refine a_iconst (pc := 10) (v := nI 0) dX3_lettersFrom_10 (by decide) ?_
    refine a_istore (pc := 11) (i := 4) (ls' := [(0, .ref 2), (1, .int (nI q)), (2, .int (nI f)), (3, .int (nI ((sW s) - (q % 8)))), (4, .int (nI 0))]) dX3_lettersFrom_11 (by decide) rfl ?_
    refine a_locs (ls' := [(0, .ref 2), (1, .int (nI q)), (2, .int (nI f)), (3, .int (nI (sW s - q % 8))), (4, .int (nI 0))]) rfl ?_
    exact LP (sW s - q % 8 + 1) (sW s - q % 8) 0 (by omega) rfl (by omega)
