/-! the makers of the objects -/
theorem BD.mat {n N : Nat} {rs : List (Nat × Nat × Nat)} {h : AH} (hn : hN h = N) (b : BD N rs h) (hk : ∀ q ∈ rs, q.1 < N) : BD (N + 1 + n) ((List.range n).map (fun i => (N, i, N + 1 + i)) ++ rs) (nwM h n) := by
  subst hn
  refine (b.keep (m := hN h + 1 + n) (Sb.nwM rfl (Nat.le_refl _)) rfl hk).app ⟨rfl, fun q hq => ?_⟩
  obtain ⟨i, hi, rfl⟩ := List.mem_map.mp hq
  show hR (nwM h n) (hN h) i = some (hN h + 1 + i)
  rw [nwM_ref]
  exact if_pos (List.mem_range.mp hi)
def BI (is : List (Nat × Nat × Int32)) (h : AH) : Prop := ∀ q ∈ is, hI h q.1 q.2.1 = q.2.2
theorem BI.keep {is : List (Nat × Nat × Int32)} {h h2 : AH} {k : Nat} (b : BI is h) (s : Sb k h h2) (hk : ∀ q ∈ is, q.1 < k) : BI is h2 := fun q hq => by rw [(s q.1 (hk q hq)).1]; exact b q hq
theorem BI.sI {is : List (Nat × Nat × Int32)} {h : AH} {a j : Nat} {x : Int32} (b : BI is h) (hk : ∀ q ∈ is, ¬ (q.1 = a ∧ q.2.1 = j)) : BI ((a, j, x) :: is) (sI h a j x) := fun q hq => by
  rcases List.mem_cons.mp hq with rfl | hq
  · rw [hI_sI]; exact if_pos ⟨rfl, rfl⟩
  · rw [hI_sI, if_neg (hk q hq)]; exact b q hq
theorem BI.nil {h : AH} : BI [] h := fun q hq => absurd hq (by simp)
theorem BD.fr {n : Nat} {rs : List (Nat × Nat × Nat)} {h h2 : AH} {S : List Nat} (b : BD n rs h) (f : Fr S h h2) : BD n rs h2 := ⟨f.1.trans b.1, fun q hq => by rw [f.2.1]; exact b.2 q hq⟩
theorem Sb.fr {k : Nat} {h h2 : AH} {S : List Nat} (f : Fr S h h2) (hS : ∀ a, a ∈ S → k ≤ a) : Sb k h h2 := fun a ha => ⟨(f.2.2 a (fun z => by have := hS a z; omega)).1, (f.2.2 a (fun z => by have := hS a z; omega)).2, by rw [f.2.1]⟩
section RW72
variable {X : XT} {mt : MT} {d kc ks kc' ks' pc : Nat} {ls ls' : List (Nat × Value)} {st : List Value} {h : AH} {Q : Res → AH → Prop}
theorem b_mk {mt' : MT} {idx mc ms b m N : Nat} {rs : List (Nat × Nat × Nat)} {R : AH → Prop} (hN' : hN h = N) (h68 : N ≤ 68) (hd : decode (mB mt) pc = .ok (.invokespecial idx, 3)) (hl : Cond.methodLink (mN mt).cls idx (mN mt') ∈ lw_tb2 ∧ Cond.instanceMethod (mN mt') ∈ lw_tb2) (hnm : (mN mt').name = "<init>") (hret : mR mt' = none) (hce : CE mt' 0) (hc' : AC mt' d mc ms [.ref b] h (Qc b m rs h R)) (e1 : kc' = kc + mc) (e2 : ks' = ks + ms) (hst : (st.map fun v => v.category).sum ≤ 8)
    (hok1 : ls.all (fun q => okv N q.2) = true) (hok2 : st.all (okv N) = true) (kk : ∀ h', BD m rs h' → Sb b h h' → R h' → AW X mt (d + 1) kc ks (pc + 3) ls st h' Q) : AW X mt (d + 1) kc' ks' pc ls (.ref b :: st) h Q := by
  subst e1 e2 hN'
  refine a_callI hd hl hnm hret hce hc' rfl rfl hst (fun E h' q => by cases q.1) (Or.inr ⟨fun q hq => okd_okv h68 (List.all_eq_true.mp hok1 q hq), fun v hv => okd_okv h68 (List.all_eq_true.mp hok2 v hv)⟩) (fun v h' q => ?_)
  obtain ⟨q1, q2, q3, q4⟩ := q
  cases q1
  exact kk h' q2 q3 q4
theorem b_mkN {mt' : MT} {host : String} {idx mc ms b m N : Nat} {rs : List (Nat × Nat × Nat)} {R : AH → Prop} (hN' : hN h = N) (h68 : N ≤ 68) (hd : decode (mB mt) pc = .ok (.invokespecial idx, 3)) (hl : Cond.methodLinkNest (mN mt).cls idx (mN mt') host ∈ tables_1 ∧ Cond.instanceMethod (mN mt') ∈ lw_tb2) (hnm : (mN mt').name = "<init>") (hret : mR mt' = none) (hce : CE mt' 0) (hc' : AC mt' d mc ms [.ref b] h (Qc b m rs h R)) (e1 : kc' = kc + mc) (e2 : ks' = ks + ms) (hst : (st.map fun v => v.category).sum ≤ 8)
    (hok1 : ls.all (fun q => okv N q.2) = true) (hok2 : st.all (okv N) = true) (kk : ∀ h', BD m rs h' → Sb b h h' → R h' → AW X mt (d + 1) kc ks (pc + 3) ls st h' Q) : AW X mt (d + 1) kc' ks' pc ls (.ref b :: st) h Q := by
  subst e1 e2 hN'
  refine a_callIN hd hl hnm hret hce hc' rfl rfl hst (fun E h' q => by cases q.1) (Or.inr ⟨fun q hq => okd_okv h68 (List.all_eq_true.mp hok1 q hq), fun v hv => okd_okv h68 (List.all_eq_true.mp hok2 v hv)⟩) (fun v h' q => ?_)
  obtain ⟨q1, q2, q3, q4⟩ := q
  cases q1
  exact kk h' q2 q3 q4
end RW72
set_option maxHeartbeats 1500000 in
set_option maxRecDepth 100000 in
theorem sg_fill {d a n N : Nat} {h : AH} {v : Int32} (hn : hN h = N) (haN : a < N) (hs : shK a = some (.inr (0, n))) : AC mJ7_fill_53178 d 0 0 [.ref a, .int v] h (Qe none (rI h a (fun j => if j < n then v else hI h a j))) := by
  refine AC.of (by decide) rfl (Nat.le_of_ble_eq_true rfl) (fun X => ?_)
  show AW X mJ7_fill_53178 d 0 0 0 [(0, .ref a), (1, .int v)] [] h (Qe none (rI h a (fun j => if j < n then v else hI h a j)))
  have hl := (shK_len hs).2
  have LP : ∀ (fu : Nat) (i : Nat), i ≤ n → n - i < fu → AW X mJ7_fill_53178 d 0 0 5 [(0, .ref a), (1, .int v), (2, .int (nI i)), (3, .int (nI n))] [] (rI h a (fun j => if j < i then v else hI h a j)) (Qe none (rI h a (fun j => if j < n then v else hI h a j))) := by
    intro fu
    induction fu with
    | zero => intro i hi hz; exact absurd hz (Nat.not_lt_zero _)
    | succ fu ih =>
      intro i hi hz
      refine a_iload_n (pc := 5) (i := 2) dJ7_fill_53178_5 rfl rfl ?_
      refine a_iload_n (pc := 6) (i := 3) dJ7_fill_53178_6 rfl rfl ?_
      refine n_icmp_ge (pc := 7) (tgt := 20) dJ7_fill_53178_7 (by decide) (by omega) (by omega) (fun c7 => ?_) (fun c7 => ?_)
      · have e : i = n := by omega
        subst e
        exact a_return (pc := 20) dJ7_fill_53178_20 rfl (⟨rfl, rfl⟩)
      · skip
        refine a_aload_n (pc := 10) (i := 0) dJ7_fill_53178_10 rfl rfl ?_
        refine a_iload_n (pc := 11) (i := 2) dJ7_fill_53178_11 rfl rfl ?_
        refine a_iload_n (pc := 12) (i := 1) dJ7_fill_53178_12 rfl rfl ?_
        refine a_iast (pc := 13) (j := i) dJ7_fill_53178_13 hs (ltN hn (by omega)) rfl (by omega) ?_
        refine n_iinc (pc := 14) (k := 1) (ls' := [(0, .ref a), (1, .int v), (2, .int (nI (i + 1))), (3, .int (nI n))]) dJ7_fill_53178_14 rfl (by decide) (by decide) rfl ?_
        refine a_goto (pc := 17) (tgt := 5) dJ7_fill_53178_17 (by decide) ?_
        refine a_heap (h' := rI h a (fun j => if j < i + 1 then v else hI h a j)) fill_step ?_
        exact ih (i + 1) (by omega) (by omega)
  refine a_iconst (pc := 0) (v := nI 0) dJ7_fill_53178_0 (by decide) ?_
  refine a_istore_n (pc := 1) (i := 2) (ls' := [(0, .ref a), (1, .int v), (2, .int (nI 0))]) dJ7_fill_53178_1 rfl (by decide) rfl ?_
  refine a_aload_n (pc := 2) (i := 0) dJ7_fill_53178_2 rfl rfl ?_
  refine a_alen (pc := 3) (n := n) dJ7_fill_53178_3 hs (ltN hn (by omega)) ?_
  refine a_istore_n (pc := 4) (i := 3) (ls' := [(0, .ref a), (1, .int v), (2, .int (nI 0)), (3, .int (nI n))]) dJ7_fill_53178_4 rfl (by decide) rfl ?_
  refine a_heap (h' := rI h a (fun j => if j < 0 then v else hI h a j)) fill_zero ?_
  exact LP (n + 1) 0 (by omega) (by omega)
set_option maxHeartbeats 4000000 in
set_option maxRecDepth 100000 in
theorem sg_startAnew {d N : Nat} {h : AH} {k w hh : Nat} (hn : hN h = N) (hkN : k + 4 ≤ N) (r3 : hR h k 3 = some (k + 1)) (r4 : hR h k 4 = some (k + 2)) (hs : shKs k) (hwh : hh ≤ 6) : AC mX3_startAnew (d + 1) 0 0 [.ref k, .int (nI w), .int (nI hh)] h (Qf [k, k + 1, k + 2] none h (fun h2 => CR h2 k (newS w hh))) := by
  have hk := shKs_sh hs
  refine AC.of (by decide) rfl (Nat.le_of_ble_eq_true rfl) (fun X => ?_)
  show AW X mX3_startAnew (d + 1) 0 0 0 [(0, .ref k), (1, .int (nI w)), (2, .int (nI hh))] [] h (Qf [k, k + 1, k + 2] none h (fun h2 => CR h2 k (newS w hh)))
  refine a_aload_n (pc := 0) (i := 0) dX3_startAnew_0 rfl rfl ?_
  refine a_iload_n (pc := 1) (i := 1) dX3_startAnew_1 rfl rfl ?_
  refine a_putI (pc := 2) (ci := 3) (k := 0) dX3_startAnew_2 (lf_RX3_25 rfl) (by decide) (Or.inl rfl) hk.1 (ltN hn (by omega)) rfl ?_
  refine a_aload_n (pc := 5) (i := 0) dX3_startAnew_5 rfl rfl ?_
  refine a_iload_n (pc := 6) (i := 2) dX3_startAnew_6 rfl rfl ?_
  refine a_putI (pc := 7) (ci := 3) (k := 1) dX3_startAnew_7 (lf_RX3_29 rfl) (by decide) (Or.inl rfl) hk.1 (ltN hn (by omega)) rfl ?_
  refine a_aload_n (pc := 10) (i := 0) dX3_startAnew_10 rfl rfl ?_
  refine a_iconst (pc := 11) (v := nI 1) dX3_startAnew_11 (by decide) ?_
  refine a_putI (pc := 12) (ci := 3) (k := 2) dX3_startAnew_12 (lf_RX3_32 rfl) (by decide) (Or.inl rfl) hk.1 (ltN hn (by omega)) rfl ?_
  refine a_aload_n (pc := 15) (i := 0) dX3_startAnew_15 rfl rfl ?_
  refine a_getR (pc := 16) (ci := 3) (k := 3) (b := k + 1) dX3_startAnew_16 (lf_RX3_9 rfl) (by decide) rfl hk.1 (ltN hn (by omega)) r3 ?_
  refine a_iconst (pc := 19) (v := (-1)) dX3_startAnew_19 (by decide) ?_
  refine a_vS0 (pc := 20) (as := [.ref (k + 1), .int ((-1))]) (h' := (rI (sI (sI (sI h k 0 (nI w)) k 1 (nI hh)) k 2 (nI 1)) (k + 1) (fun j => if j < 96 then (-1) else hI (sI (sI (sI h k 0 (nI w)) k 1 (nI hh)) k 2 (nI 1)) (k + 1) j))) dX3_startAnew_20 (lc_RX3_35 rfl) ceJ7_fill_53178 (sg_fill hn (by omega) hk.2.1) rfl rfl (Nat.le_of_ble_eq_true rfl) rfl ?_
  refine a_aload_n (pc := 23) (i := 0) dX3_startAnew_23 rfl rfl ?_
  refine a_getR (pc := 24) (ci := 3) (k := 4) (b := k + 2) dX3_startAnew_24 (lf_RX3_15 rfl) (by decide) rfl hk.1 (ltN hn (by omega)) r4 ?_
  refine a_iconst (pc := 27) (v := nI 1) dX3_startAnew_27 (by decide) ?_
  refine a_vS0 (pc := 28) (as := [.ref (k + 2), .int (nI 1)]) (h' := (rI (rI (sI (sI (sI h k 0 (nI w)) k 1 (nI hh)) k 2 (nI 1)) (k + 1) (fun j => if j < 96 then (-1) else hI (sI (sI (sI h k 0 (nI w)) k 1 (nI hh)) k 2 (nI 1)) (k + 1) j)) (k + 2) (fun j => if j < 12 then nI 1 else hI (rI (sI (sI (sI h k 0 (nI w)) k 1 (nI hh)) k 2 (nI 1)) (k + 1) (fun j => if j < 96 then (-1) else hI (sI (sI (sI h k 0 (nI w)) k 1 (nI hh)) k 2 (nI 1)) (k + 1) j)) (k + 2) j))) dX3_startAnew_28 (lc_RX3_35 rfl) ceJ7_fill_53178 (sg_fill hn (by omega) hk.2.2.1) rfl rfl (Nat.le_of_ble_eq_true rfl) rfl ?_
  refine a_aload_n (pc := 31) (i := 0) dX3_startAnew_31 rfl rfl ?_
  refine a_lconst (pc := 32) (v := 0) dX3_startAnew_32 (by decide) ?_
  refine a_putL (pc := 33) (ci := 3) (k := 5) dX3_startAnew_33 (lf_RX3_41 rfl) (by decide) rfl hk.1 (ltN hn (by omega)) rfl ?_
  refine a_aload_n (pc := 36) (i := 0) dX3_startAnew_36 rfl rfl ?_
  refine a_iconst (pc := 37) (v := nI 0) dX3_startAnew_37 (by decide) ?_
  refine a_putI (pc := 38) (ci := 3) (k := 7) dX3_startAnew_38 (lf_RX3_45 rfl) (by decide) (Or.inl rfl) hk.1 (ltN hn (by omega)) rfl ?_
  refine a_aload_n (pc := 41) (i := 0) dX3_startAnew_41 rfl rfl ?_
  refine a_iconst (pc := 42) (v := nI 0) dX3_startAnew_42 (by decide) ?_
  refine a_putI (pc := 43) (ci := 3) (k := 8) dX3_startAnew_43 (lf_RX3_48 rfl) (by decide) (Or.inl rfl) hk.1 (ltN hn (by omega)) rfl ?_
  refine a_aload_n (pc := 46) (i := 0) dX3_startAnew_46 rfl rfl ?_
  refine a_iconst (pc := 47) (v := nI 0) dX3_startAnew_47 (by decide) ?_
  refine a_putI (pc := 48) (ci := 3) (k := 9) dX3_startAnew_48 (lf_RX3_51 rfl) (by decide) (Or.inl rfl) hk.1 (ltN hn (by omega)) rfl ?_
  obtain ⟨H, hH⟩ : ∃ H, H = sI (sI (sI (sL (rI (rI (sI (sI (sI h k 0 (nI w)) k 1 (nI hh)) k 2 (nI 1)) (k + 1) (fun j => if j < 96 then (-1) else hI (sI (sI (sI h k 0 (nI w)) k 1 (nI hh)) k 2 (nI 1)) (k + 1) j)) (k + 2) (fun j => if j < 12 then nI 1 else hI (rI (sI (sI (sI h k 0 (nI w)) k 1 (nI hh)) k 2 (nI 1)) (k + 1) (fun j => if j < 96 then (-1) else hI (sI (sI (sI h k 0 (nI w)) k 1 (nI hh)) k 2 (nI 1)) (k + 1) j)) (k + 2) j)) k 5 0) k 7 (nI 0)) k 8 (nI 0)) k 9 (nI 0) := ⟨_, rfl⟩
  have hF : Fr [k, k + 1, k + 2] h H := by rw [hH]; exact (((((((((Fr.refl).sI (by simp)).sI (by simp)).sI (by simp)).rI (by simp)).rI (by simp)).sL (by simp)).sI (by simp)).sI (by simp)).sI (by simp)
  have hC : CR H k (newS w hh) := by
    rw [hH]
    refine CR_of ?_ ?_ ?_ ?_ ?_ ?_ ?_ ?_ ?_ ?_
    · simp (disch := omega) only [rd1, rd2, rd3, rd4, rd5, rd6, rd7, hI_sL, hL_sI, hL_rI]; rfl
    · simp (disch := omega) only [rd1, rd2, rd3, rd4, rd5, rd6, rd7, hI_sL, hL_sI, hL_rI]; rfl
    · simp (disch := omega) only [rd1, rd2, rd3, rd4, rd5, rd6, rd7, hI_sL, hL_sI, hL_rI]; rfl
    · simp (disch := omega) only [rd1, rd2, rd3, rd4, rd5, rd6, rd7, hI_sL, hL_sI, hL_rI]; exact gnB_new.symm
    · simp (disch := omega) only [rd1, rd2, rd3, rd4, rd5, rd6, rd7, hI_sL, hL_sI, hL_rI]; rfl
    · simp (disch := omega) only [rd1, rd2, rd3, rd4, rd5, rd6, rd7, hI_sL, hL_sI, hL_rI]; rfl
    · simp (disch := omega) only [rd1, rd2, rd3, rd4, rd5, rd6, rd7, hI_sL, hL_sI, hL_rI]; rfl
    · intro q h1 h3; simp (disch := omega) only [rd1, rd2, rd3, rd4, rd5, rd6, rd7, hI_sL, hL_sI, hL_rI]; rw [if_pos h1]; rfl
    · intro x y h1 h3; have h3 : y < hh := h3; simp (disch := omega) only [rd1, rd2, rd3, rd4, rd5, rd6, rd7, hI_sL, hL_sI, hL_rI]; rw [if_pos (by omega)]; rfl
    · intro j h1; exact absurd h1 (Nat.not_lt_zero _)
  refine a_heap (h' := H) hH.symm ?_
  exact a_return (pc := 51) dX3_startAnew_51 rfl (⟨rfl, hF, hC⟩)
set_option maxHeartbeats 1500000 in
set_option maxRecDepth 100000 in
theorem mk3 {d k : Nat} {h : AH} (hn : hN h = k + 1) (hs : shKs k) : AC mX3_init (d + 2) 3 132 [.ref k] h (Qc k (k + 4) [(k, 6, k + 3), (k, 4, k + 2), (k, 3, k + 1)] h (fun h2 => CR h2 k (newS 1 1))) := by
  have hk := shKs_sh hs
  refine AC.of (by decide) rfl (Nat.le_of_ble_eq_true rfl) (fun X => ?_)
  show AW X mX3_init (d + 2) 3 132 0 [(0, .ref k)] [] h (Qc k (k + 4) [(k, 6, k + 3), (k, 4, k + 2), (k, 3, k + 1)] h (fun h2 => CR h2 k (newS 1 1)))
  have b0 : BD (k + 1) [] h := BD.nil hn
  refine a_aload_n (pc := 0) (i := 0) dX3_init_0 rfl rfl ?_
  refine a_objInit (pc := 1) dX3_init_1 (tbi 41 (by decide +kernel)) (Nat.le_of_ble_eq_true rfl) ?_
  refine a_aload_n (pc := 4) (i := 0) dX3_init_4 rfl rfl ?_
  refine a_bipush (pc := 5) (v := nI 96) dX3_init_5 (by decide) ?_
  refine b_newarr (pc := 7) (N := k + 1) (t := 0) (n := 96) (kc := 2) (ks := 36) b0.1 rfl rfl dX3_init_7 hk.2.1 rfl (by decide) aC_in.1 rfl (by simp [okv] <;> omega) (by simp [okv] <;> omega) ?_
  obtain ⟨g1, e1⟩ : ∃ Hx, Hx = nw h := ⟨_, rfl⟩
  refine a_heap (h' := g1) e1.symm ?_
  have n1 : hN g1 = k + 2 := by rw [e1]; exact congrArg (· + 1) b0.1
  have b1 : BD (k + 2) [] g1 := b0.keep (k := k + 1) (by rw [e1]; exact Sb.nw b0.1 (Nat.le_refl _)) n1 (by simp [okv] <;> omega)
  have s1 : Sb k h g1 := Sb.refl.trans (by rw [e1]; exact Sb.nw b0.1 (by omega))
  refine a_putRF (pc := 9) (ci := 3) (k := 3) dX3_init_9 (lfm_RX3_9 rfl) (by decide) rfl hk.1 (ltN n1 (by omega)) (ltN n1 (by omega)) hk.2.1 rfl rfl rfl ?_
  obtain ⟨g2, e2⟩ : ∃ Hx, Hx = sR g1 k 3 (some (k + 1)) := ⟨_, rfl⟩
  refine a_heap (h' := g2) e2.symm ?_
  have b2 : BD (k + 2) [(k, 3, k + 1)] g2 := by rw [e2]; exact b1.sR (by simp [okv] <;> omega)
  have s2 : Sb k h g2 := s1.trans (by rw [e2]; exact Sb.sR (by omega))
  refine a_aload_n (pc := 12) (i := 0) dX3_init_12 rfl rfl ?_
  refine a_bipush (pc := 13) (v := nI 12) dX3_init_13 (by decide) ?_
  refine b_newarr (pc := 15) (N := k + 2) (t := 0) (n := 12) (kc := 1) (ks := 24) b2.1 rfl rfl dX3_init_15 hk.2.2.1 rfl (by decide) aC_in.1 rfl (by simp [okv] <;> omega) (by simp [okv] <;> omega) ?_
  obtain ⟨g3, e3⟩ : ∃ Hx, Hx = nw g2 := ⟨_, rfl⟩
  refine a_heap (h' := g3) e3.symm ?_
  have n3 : hN g3 = k + 3 := by rw [e3]; exact congrArg (· + 1) b2.1
  have b3 : BD (k + 3) [(k, 3, k + 1)] g3 := b2.keep (k := k + 2) (by rw [e3]; exact Sb.nw b2.1 (Nat.le_refl _)) n3 (by simp [okv] <;> omega)
  have s3 : Sb k h g3 := s2.trans (by rw [e3]; exact Sb.nw b2.1 (by omega))
  refine a_putRF (pc := 17) (ci := 3) (k := 4) dX3_init_17 (lfm_RX3_15 rfl) (by decide) rfl hk.1 (ltN n3 (by omega)) (ltN n3 (by omega)) hk.2.2.1 rfl rfl rfl ?_
  obtain ⟨g4, e4⟩ : ∃ Hx, Hx = sR g3 k 4 (some (k + 2)) := ⟨_, rfl⟩
  refine a_heap (h' := g4) e4.symm ?_
  have b4 : BD (k + 3) [(k, 4, k + 2), (k, 3, k + 1)] g4 := by rw [e4]; exact b3.sR (by simp [okv] <;> omega)
  have s4 : Sb k h g4 := s3.trans (by rw [e4]; exact Sb.sR (by omega))
  refine a_aload_n (pc := 20) (i := 0) dX3_init_20 rfl rfl ?_
  refine a_bipush (pc := 21) (v := nI 24) dX3_init_21 (by decide) ?_
  refine b_newarr (pc := 23) (N := k + 3) (t := 0) (n := 24) (kc := 0) (ks := 0) b4.1 rfl rfl dX3_init_23 hk.2.2.2 rfl (by decide) aC_in.1 rfl (by simp [okv] <;> omega) (by simp [okv] <;> omega) ?_
  obtain ⟨g5, e5⟩ : ∃ Hx, Hx = nw g4 := ⟨_, rfl⟩
  refine a_heap (h' := g5) e5.symm ?_
  have n5 : hN g5 = k + 4 := by rw [e5]; exact congrArg (· + 1) b4.1
  have b5 : BD (k + 4) [(k, 4, k + 2), (k, 3, k + 1)] g5 := b4.keep (k := k + 3) (by rw [e5]; exact Sb.nw b4.1 (Nat.le_refl _)) n5 (by simp [okv] <;> omega)
  have s5 : Sb k h g5 := s4.trans (by rw [e5]; exact Sb.nw b4.1 (by omega))
  refine a_putRF (pc := 25) (ci := 3) (k := 6) dX3_init_25 (lfm_RX3_18 rfl) (by decide) rfl hk.1 (ltN n5 (by omega)) (ltN n5 (by omega)) hk.2.2.2 rfl rfl rfl ?_
  obtain ⟨g6, e6⟩ : ∃ Hx, Hx = sR g5 k 6 (some (k + 3)) := ⟨_, rfl⟩
  refine a_heap (h' := g6) e6.symm ?_
  have b6 : BD (k + 4) [(k, 6, k + 3), (k, 4, k + 2), (k, 3, k + 1)] g6 := by rw [e6]; exact b5.sR (by simp [okv] <;> omega)
  have s6 : Sb k h g6 := s5.trans (by rw [e6]; exact Sb.sR (by omega))
  refine a_aload_n (pc := 28) (i := 0) dX3_init_28 rfl rfl ?_
  refine a_iconst (pc := 29) (v := nI 1) dX3_init_29 (by decide) ?_
  refine a_iconst (pc := 30) (v := nI 1) dX3_init_30 (by decide) ?_
  refine a_wV0 (pc := 31) (as := [.int (nI 1), .int (nI 1)]) (b := k) (ci := 3) dX3_init_31 (lc_RX3_21 rfl) ceX3_startAnew hk.1 (ltN b6.1 (by omega)) (sg_startAnew (d := d) b6.1 (by omega) (b6.2 (k, 3, k + 1) (by simp)) (b6.2 (k, 4, k + 2) (by simp)) hs (by omega)) rfl rfl (Nat.le_of_ble_eq_true rfl) (fun h9 f9 r9 => ?_)
  exact a_return (pc := 34) dX3_init_34 rfl (⟨rfl, b6.fr f9, s6.trans (Sb.fr f9 (by intro a ha; simp at ha; omega)), r9⟩)
set_option maxHeartbeats 1500000 in
set_option maxRecDepth 100000 in
theorem mk0 {d k : Nat} {h : AH} (hn : hN h = k + 1) (hk : shK k = some (.inl 0)) (hk1 : shK (k + 1) = some (.inr (3, 24))) (hk2 : shK (k + 2) = some (.inr (0, 48))) : AC mX0_init (d + 1) 2 72 [.ref k] h (Qc k (k + 3) [(k, 1, k + 2), (k, 0, k + 1)] h (fun _ => True)) := by
  refine AC.of (by decide) rfl (Nat.le_of_ble_eq_true rfl) (fun X => ?_)
  show AW X mX0_init (d + 1) 2 72 0 [(0, .ref k)] [] h (Qc k (k + 3) [(k, 1, k + 2), (k, 0, k + 1)] h (fun _ => True))
  have b0 : BD (k + 1) [] h := BD.nil hn
  refine a_aload_n (pc := 0) (i := 0) dX0_init_0 rfl rfl ?_
  refine a_objInit (pc := 1) dX0_init_1 (tbi 143 (by decide +kernel)) (Nat.le_of_ble_eq_true rfl) ?_
  refine a_aload_n (pc := 4) (i := 0) dX0_init_4 rfl rfl ?_
  refine a_bipush (pc := 5) (v := nI 24) dX0_init_5 (by decide) ?_
  refine b_newarr (pc := 7) (N := k + 1) (t := 3) (n := 24) (kc := 1) (ks := 48) b0.1 rfl rfl dX0_init_7 hk1 rfl (by decide) aC_in.2.2.2 rfl (by simp [okv] <;> omega) (by simp [okv] <;> omega) ?_
  obtain ⟨g1, e1⟩ : ∃ Hx, Hx = nw h := ⟨_, rfl⟩
  refine a_heap (h' := g1) e1.symm ?_
  have n1 : hN g1 = k + 2 := by rw [e1]; exact congrArg (· + 1) b0.1
  have b1 : BD (k + 2) [] g1 := b0.keep (k := k + 1) (by rw [e1]; exact Sb.nw b0.1 (Nat.le_refl _)) n1 (by simp [okv] <;> omega)
  have s1 : Sb k h g1 := Sb.refl.trans (by rw [e1]; exact Sb.nw b0.1 (by omega))
  refine a_putRF (pc := 9) (ci := 0) (k := 0) dX0_init_9 (lfm_RX0_9 rfl) (by decide) rfl hk (ltN n1 (by omega)) (ltN n1 (by omega)) hk1 rfl rfl rfl ?_
  obtain ⟨g2, e2⟩ : ∃ Hx, Hx = sR g1 k 0 (some (k + 1)) := ⟨_, rfl⟩
  refine a_heap (h' := g2) e2.symm ?_
  have b2 : BD (k + 2) [(k, 0, k + 1)] g2 := by rw [e2]; exact b1.sR (by simp [okv] <;> omega)
  have s2 : Sb k h g2 := s1.trans (by rw [e2]; exact Sb.sR (by omega))
  refine a_aload_n (pc := 12) (i := 0) dX0_init_12 rfl rfl ?_
  refine a_bipush (pc := 13) (v := nI 48) dX0_init_13 (by decide) ?_
  refine b_newarr (pc := 15) (N := k + 2) (t := 0) (n := 48) (kc := 0) (ks := 0) b2.1 rfl rfl dX0_init_15 hk2 rfl (by decide) aC_in.1 rfl (by simp [okv] <;> omega) (by simp [okv] <;> omega) ?_
  obtain ⟨g3, e3⟩ : ∃ Hx, Hx = nw g2 := ⟨_, rfl⟩
  refine a_heap (h' := g3) e3.symm ?_
  have n3 : hN g3 = k + 3 := by rw [e3]; exact congrArg (· + 1) b2.1
  have b3 : BD (k + 3) [(k, 0, k + 1)] g3 := b2.keep (k := k + 2) (by rw [e3]; exact Sb.nw b2.1 (Nat.le_refl _)) n3 (by simp [okv] <;> omega)
  have s3 : Sb k h g3 := s2.trans (by rw [e3]; exact Sb.nw b2.1 (by omega))
  refine a_putRF (pc := 17) (ci := 0) (k := 1) dX0_init_17 (lfm_RX0_15 rfl) (by decide) rfl hk (ltN n3 (by omega)) (ltN n3 (by omega)) hk2 rfl rfl rfl ?_
  obtain ⟨g4, e4⟩ : ∃ Hx, Hx = sR g3 k 1 (some (k + 2)) := ⟨_, rfl⟩
  refine a_heap (h' := g4) e4.symm ?_
  have b4 : BD (k + 3) [(k, 1, k + 2), (k, 0, k + 1)] g4 := by rw [e4]; exact b3.sR (by simp [okv] <;> omega)
  have s4 : Sb k h g4 := s3.trans (by rw [e4]; exact Sb.sR (by omega))
  exact a_return (pc := 20) dX0_init_20 rfl (⟨rfl, b4, s4, trivial⟩)
set_option maxHeartbeats 1500000 in
set_option maxRecDepth 100000 in
theorem mk2 {d : Nat} {h : AH} (hn : hN h = 8) : AC mX2_init (d + 3) 5 542 [.ref 7] h (Qc 7 13 [(7, 1, 12), (7, 0, 8), (8, 6, 11), (8, 4, 10), (8, 3, 9)] h (fun _ => True)) := by
  refine AC.of (by decide) rfl (Nat.le_of_ble_eq_true rfl) (fun X => ?_)
  show AW X mX2_init (d + 3) 5 542 0 [(0, .ref 7)] [] h (Qc 7 13 [(7, 1, 12), (7, 0, 8), (8, 6, 11), (8, 4, 10), (8, 3, 9)] h (fun _ => True))
  have b0 : BD 8 [] h := BD.nil hn
  refine a_aload_n (pc := 0) (i := 0) dX2_init_0 rfl rfl ?_
  refine a_objInit (pc := 1) dX2_init_1 (tbi 102 (by decide +kernel)) (Nat.le_of_ble_eq_true rfl) ?_
  refine a_aload_n (pc := 4) (i := 0) dX2_init_4 rfl rfl ?_
  refine b_new (pc := 5) (n := 8) (ci := 3) (kc := 4) (ks := 532) b0.1 rfl rfl dX2_init_5 rfl (tbi 103 (by decide +kernel)) (tbi 37 (by decide +kernel)) (tbi 2 (by decide +kernel)) (by decide) (by decide) ?_
  obtain ⟨g1, e1⟩ : ∃ Hx, Hx = nw h := ⟨_, rfl⟩
  refine a_heap (h' := g1) e1.symm ?_
  have n1 : hN g1 = 9 := by rw [e1]; exact congrArg (· + 1) b0.1
  have b1 : BD (9) [] g1 := b0.keep (k := 8) (by rw [e1]; exact Sb.nw b0.1 (Nat.le_refl _)) n1 (by decide)
  have s1 : Sb 7 h g1 := Sb.refl.trans (by rw [e1]; exact Sb.nw b0.1 (by omega))
  refine a_dup (pc := 8) dX2_init_8 rfl ?_
  refine b_mkN (pc := 9) (kc := 1) (ks := 400) n1 (by omega) dX2_init_9  (lc_RX2_11 rfl) rfl rfl ceX3_init (mk3 (d := d) (k := 8) n1 (Or.inr (Or.inl rfl))) rfl rfl (Nat.le_of_ble_eq_true rfl) (by decide) (by decide) (fun g2 y2 z2 r1 => ?_)
  have b2 : BD (12) [(8, 6, 11), (8, 4, 10), (8, 3, 9)] g2 := (b1.keep (k := 8) z2 y2.1 (by decide)).app y2
  have s2 : Sb 7 h g2 := s1.trans (z2.mono (by omega))
  refine a_putRF (pc := 12) (ci := 2) (k := 0) dX2_init_12 (lfm_RX2_12 rfl) (by decide) rfl rfl (ltN b2.1 (by omega)) (ltN b2.1 (by omega)) rfl rfl rfl rfl ?_
  obtain ⟨g3, e3⟩ : ∃ Hx, Hx = sR g2 7 0 (some 8) := ⟨_, rfl⟩
  refine a_heap (h' := g3) e3.symm ?_
  have b3 : BD (12) [(7, 0, 8), (8, 6, 11), (8, 4, 10), (8, 3, 9)] g3 := by rw [e3]; exact b2.sR (by decide)
  have s3 : Sb 7 h g3 := s2.trans (by rw [e3]; exact Sb.sR (by omega))
  refine a_aload_n (pc := 15) (i := 0) dX2_init_15 rfl rfl ?_
  refine a_sipush (pc := 16) (v := nI 400) dX2_init_16 (by decide) ?_
  refine b_newarr (pc := 19) (N := 12) (t := 1) (n := 400) (kc := 0) (ks := 0) b3.1 rfl rfl dX2_init_19 rfl rfl (by decide) aC_in.2.1 rfl (by decide) (by decide) ?_
  obtain ⟨g4, e4⟩ : ∃ Hx, Hx = nw g3 := ⟨_, rfl⟩
  refine a_heap (h' := g4) e4.symm ?_
  have n4 : hN g4 = 13 := by rw [e4]; exact congrArg (· + 1) b3.1
  have b4 : BD (13) [(7, 0, 8), (8, 6, 11), (8, 4, 10), (8, 3, 9)] g4 := b3.keep (k := 12) (by rw [e4]; exact Sb.nw b3.1 (Nat.le_refl _)) n4 (by decide)
  have s4 : Sb 7 h g4 := s3.trans (by rw [e4]; exact Sb.nw b3.1 (by omega))
  refine a_putRF (pc := 21) (ci := 2) (k := 1) dX2_init_21 (lfm_RX2_18 rfl) (by decide) rfl rfl (ltN n4 (by omega)) (ltN n4 (by omega)) rfl rfl rfl rfl ?_
  obtain ⟨g5, e5⟩ : ∃ Hx, Hx = sR g4 7 1 (some 12) := ⟨_, rfl⟩
  refine a_heap (h' := g5) e5.symm ?_
  have b5 : BD (13) [(7, 1, 12), (7, 0, 8), (8, 6, 11), (8, 4, 10), (8, 3, 9)] g5 := by rw [e5]; exact b4.sR (by decide)
  have s5 : Sb 7 h g5 := s4.trans (by rw [e5]; exact Sb.sR (by omega))
  have i0 : BI [] g5 := BI.nil
  refine a_aload_n (pc := 24) (i := 0) dX2_init_24 rfl rfl ?_
  refine a_iconst (pc := 25) (v := (-1)) dX2_init_25 (by decide) ?_
  refine a_putI (pc := 26) (ci := 2) (k := 5) dX2_init_26 (lf_RX2_22 rfl) (by decide) (Or.inl rfl) rfl (ltN b5.1 (by omega)) rfl ?_
  obtain ⟨g6, e6⟩ : ∃ Hx, Hx = sI g5 7 5 ((-1)) := ⟨_, rfl⟩
  refine a_heap (h' := g6) e6.symm ?_
  have b6 : BD (13) [(7, 1, 12), (7, 0, 8), (8, 6, 11), (8, 4, 10), (8, 3, 9)] g6 := by rw [e6]; exact b5
  have s6 : Sb 7 h g6 := s5.trans (by rw [e6]; exact Sb.sI (by omega))
  have i6 : BI [(7, 5, (-1))] g6 := by rw [e6]; exact i0.sI (by decide)
  exact a_return (pc := 29) dX2_init_29 rfl (⟨rfl, b6, s6, trivial⟩)
set_option maxHeartbeats 4000000 in
set_option maxRecDepth 100000 in
theorem mk1 {d : Nat} {h : AH} (hn : hN h = 17) : AC mX1_init (d + 2) 17 981 [.ref 16] h (Qc 16 34 [(16, 7, 33), (16, 6, 32), (16, 4, 31), (16, 3, 22), (22, 0, 23), (22, 1, 24), (22, 2, 25), (22, 3, 26), (22, 4, 27), (22, 5, 28), (22, 6, 29), (22, 7, 30), (16, 2, 21), (16, 1, 20), (16, 0, 17), (17, 1, 19), (17, 0, 18)] h (fun _ => True)) := by
  refine AC.of (by decide) rfl (Nat.le_of_ble_eq_true rfl) (fun X => ?_)
  show AW X mX1_init (d + 2) 17 981 0 [(0, .ref 16)] [] h (Qc 16 34 [(16, 7, 33), (16, 6, 32), (16, 4, 31), (16, 3, 22), (22, 0, 23), (22, 1, 24), (22, 2, 25), (22, 3, 26), (22, 4, 27), (22, 5, 28), (22, 6, 29), (22, 7, 30), (16, 2, 21), (16, 1, 20), (16, 0, 17), (17, 1, 19), (17, 0, 18)] h (fun _ => True))
  have b0 : BD 17 [] h := BD.nil hn
  refine a_aload_n (pc := 0) (i := 0) dX1_init_0 rfl rfl ?_
  refine a_objInit (pc := 1) dX1_init_1 (tbi 163 (by decide +kernel)) (Nat.le_of_ble_eq_true rfl) ?_
  refine a_aload_n (pc := 4) (i := 0) dX1_init_4 rfl rfl ?_
  refine b_new (pc := 5) (n := 17) (ci := 0) (kc := 16) (ks := 977) b0.1 rfl rfl dX1_init_5 rfl (tbi 164 (by decide +kernel)) (tbi 139 (by decide +kernel)) (tbi 5 (by decide +kernel)) (by decide) (by decide) ?_
  obtain ⟨g1, e1⟩ : ∃ Hx, Hx = nw h := ⟨_, rfl⟩
  refine a_heap (h' := g1) e1.symm ?_
  have n1 : hN g1 = 18 := by rw [e1]; exact congrArg (· + 1) b0.1
  have b1 : BD (18) [] g1 := b0.keep (k := 17) (by rw [e1]; exact Sb.nw b0.1 (Nat.le_refl _)) n1 (by decide)
  have s1 : Sb 16 h g1 := Sb.refl.trans (by rw [e1]; exact Sb.nw b0.1 (by omega))
  refine a_dup (pc := 8) dX1_init_8 rfl ?_
  refine b_mkN (pc := 9) (kc := 14) (ks := 905) n1 (by omega) dX1_init_9  (lc_RX1_11 rfl) rfl rfl ceX0_init (mk0 (d := d) (k := 17) n1 rfl rfl rfl) rfl rfl (Nat.le_of_ble_eq_true rfl) (by decide) (by decide) (fun g2 y2 z2 _ => ?_)
  have b2 : BD (20) [(17, 1, 19), (17, 0, 18)] g2 := (b1.keep (k := 17) z2 y2.1 (by decide)).app y2
  have s2 : Sb 16 h g2 := s1.trans (z2.mono (by omega))
  refine a_putRF (pc := 12) (ci := 1) (k := 0) dX1_init_12 (lfm_RX1_12 rfl) (by decide) rfl rfl (ltN b2.1 (by omega)) (ltN b2.1 (by omega)) rfl rfl rfl rfl ?_
  obtain ⟨g3, e3⟩ : ∃ Hx, Hx = sR g2 16 0 (some 17) := ⟨_, rfl⟩
  refine a_heap (h' := g3) e3.symm ?_
  have b3 : BD (20) [(16, 0, 17), (17, 1, 19), (17, 0, 18)] g3 := by rw [e3]; exact b2.sR (by decide)
  have s3 : Sb 16 h g3 := s2.trans (by rw [e3]; exact Sb.sR (by omega))
  refine a_aload_n (pc := 15) (i := 0) dX1_init_15 rfl rfl ?_
  refine a_bipush (pc := 16) (v := nI 8) dX1_init_16 (by decide) ?_
  refine b_newarr (pc := 18) (N := 20) (t := 3) (n := 8) (kc := 13) (ks := 897) b3.1 rfl rfl dX1_init_18 rfl rfl (by decide) aC_in.2.2.2 rfl (by decide) (by decide) ?_
  obtain ⟨g4, e4⟩ : ∃ Hx, Hx = nw g3 := ⟨_, rfl⟩
  refine a_heap (h' := g4) e4.symm ?_
  have n4 : hN g4 = 21 := by rw [e4]; exact congrArg (· + 1) b3.1
  have b4 : BD (21) [(16, 0, 17), (17, 1, 19), (17, 0, 18)] g4 := b3.keep (k := 20) (by rw [e4]; exact Sb.nw b3.1 (Nat.le_refl _)) n4 (by decide)
  have s4 : Sb 16 h g4 := s3.trans (by rw [e4]; exact Sb.nw b3.1 (by omega))
  refine a_putRF (pc := 20) (ci := 1) (k := 1) dX1_init_20 (lfm_RX1_18 rfl) (by decide) rfl rfl (ltN n4 (by omega)) (ltN n4 (by omega)) rfl rfl rfl rfl ?_
  obtain ⟨g5, e5⟩ : ∃ Hx, Hx = sR g4 16 1 (some 20) := ⟨_, rfl⟩
  refine a_heap (h' := g5) e5.symm ?_
  have b5 : BD (21) [(16, 1, 20), (16, 0, 17), (17, 1, 19), (17, 0, 18)] g5 := by rw [e5]; exact b4.sR (by decide)
  have s5 : Sb 16 h g5 := s4.trans (by rw [e5]; exact Sb.sR (by omega))
  refine a_aload_n (pc := 23) (i := 0) dX1_init_23 rfl rfl ?_
  refine a_bipush (pc := 24) (v := nI 96) dX1_init_24 (by decide) ?_
  refine b_newarr (pc := 26) (N := 21) (t := 3) (n := 96) (kc := 12) (ks := 801) b5.1 rfl rfl dX1_init_26 rfl rfl (by decide) aC_in.2.2.2 rfl (by decide) (by decide) ?_
  obtain ⟨g6, e6⟩ : ∃ Hx, Hx = nw g5 := ⟨_, rfl⟩
  refine a_heap (h' := g6) e6.symm ?_
  have n6 : hN g6 = 22 := by rw [e6]; exact congrArg (· + 1) b5.1
  have b6 : BD (22) [(16, 1, 20), (16, 0, 17), (17, 1, 19), (17, 0, 18)] g6 := b5.keep (k := 21) (by rw [e6]; exact Sb.nw b5.1 (Nat.le_refl _)) n6 (by decide)
  have s6 : Sb 16 h g6 := s5.trans (by rw [e6]; exact Sb.nw b5.1 (by omega))
  refine a_putRF (pc := 28) (ci := 1) (k := 2) dX1_init_28 (lfm_RX1_22 rfl) (by decide) rfl rfl (ltN n6 (by omega)) (ltN n6 (by omega)) rfl rfl rfl rfl ?_
  obtain ⟨g7, e7⟩ : ∃ Hx, Hx = sR g6 16 2 (some 21) := ⟨_, rfl⟩
  refine a_heap (h' := g7) e7.symm ?_
  have b7 : BD (22) [(16, 2, 21), (16, 1, 20), (16, 0, 17), (17, 1, 19), (17, 0, 18)] g7 := by rw [e7]; exact b6.sR (by decide)
  have s7 : Sb 16 h g7 := s6.trans (by rw [e7]; exact Sb.sR (by omega))
  refine a_aload_n (pc := 31) (i := 0) dX1_init_31 rfl rfl ?_
  refine a_bipush (pc := 32) (v := nI 8) dX1_init_32 (by decide) ?_
  refine a_bipush (pc := 34) (v := nI 96) dX1_init_34 (by decide) ?_
  refine b_newmat (pc := 36) (N := 22) (n := 8) (k := 96) (kc := 3) (ks := 25) b7.1 rfl rfl dX1_init_36 rfl (fun i hi => (show ∀ i : Fin 8, shK (22 + 1 + i.val) = some (.inr (0, 96)) from by decide +kernel) ⟨i, hi⟩) (by decide) (by decide) (tbi 166 (by decide +kernel)) aC_in.1 rfl rfl (by decide) (by decide) ?_
  obtain ⟨g8, e8⟩ : ∃ Hx, Hx = nwM g7 8 := ⟨_, rfl⟩
  refine a_heap (h' := g8) e8.symm ?_
  have n8 : hN g8 = 31 := by rw [e8]; exact congrArg (· + 1 + 8) b7.1
  have b8 : BD (31) [(22, 0, 23), (22, 1, 24), (22, 2, 25), (22, 3, 26), (22, 4, 27), (22, 5, 28), (22, 6, 29), (22, 7, 30), (16, 2, 21), (16, 1, 20), (16, 0, 17), (17, 1, 19), (17, 0, 18)] g8 := by rw [e8]; exact BD.mat (n := 8) b7.1 b7 (by decide)
  have s8 : Sb 16 h g8 := s7.trans (by rw [e8]; exact Sb.nwM b7.1 (by omega))
  refine a_putRF (pc := 40) (ci := 1) (k := 3) dX1_init_40 (lfm_RX1_27 rfl) (by decide) rfl rfl (ltN n8 (by omega)) (ltN n8 (by omega)) rfl rfl rfl rfl ?_
  obtain ⟨g9, e9⟩ : ∃ Hx, Hx = sR g8 16 3 (some 22) := ⟨_, rfl⟩
  refine a_heap (h' := g9) e9.symm ?_
  have b9 : BD (31) [(16, 3, 22), (22, 0, 23), (22, 1, 24), (22, 2, 25), (22, 3, 26), (22, 4, 27), (22, 5, 28), (22, 6, 29), (22, 7, 30), (16, 2, 21), (16, 1, 20), (16, 0, 17), (17, 1, 19), (17, 0, 18)] g9 := by rw [e9]; exact b8.sR (by decide)
  have s9 : Sb 16 h g9 := s8.trans (by rw [e9]; exact Sb.sR (by omega))
  refine a_aload_n (pc := 43) (i := 0) dX1_init_43 rfl rfl ?_
  refine a_bipush (pc := 44) (v := nI 9) dX1_init_44 (by decide) ?_
  refine b_newarr (pc := 46) (N := 31) (t := 0) (n := 9) (kc := 2) (ks := 16) b9.1 rfl rfl dX1_init_46 rfl rfl (by decide) aC_in.1 rfl (by decide) (by decide) ?_
  obtain ⟨g10, e10⟩ : ∃ Hx, Hx = nw g9 := ⟨_, rfl⟩
  refine a_heap (h' := g10) e10.symm ?_
  have n10 : hN g10 = 32 := by rw [e10]; exact congrArg (· + 1) b9.1
  have b10 : BD (32) [(16, 3, 22), (22, 0, 23), (22, 1, 24), (22, 2, 25), (22, 3, 26), (22, 4, 27), (22, 5, 28), (22, 6, 29), (22, 7, 30), (16, 2, 21), (16, 1, 20), (16, 0, 17), (17, 1, 19), (17, 0, 18)] g10 := b9.keep (k := 31) (by rw [e10]; exact Sb.nw b9.1 (Nat.le_refl _)) n10 (by decide)
  have s10 : Sb 16 h g10 := s9.trans (by rw [e10]; exact Sb.nw b9.1 (by omega))
  refine a_putRF (pc := 48) (ci := 1) (k := 4) dX1_init_48 (lfm_RX1_30 rfl) (by decide) rfl rfl (ltN n10 (by omega)) (ltN n10 (by omega)) rfl rfl rfl rfl ?_
  obtain ⟨g11, e11⟩ : ∃ Hx, Hx = sR g10 16 4 (some 31) := ⟨_, rfl⟩
  refine a_heap (h' := g11) e11.symm ?_
  have b11 : BD (32) [(16, 4, 31), (16, 3, 22), (22, 0, 23), (22, 1, 24), (22, 2, 25), (22, 3, 26), (22, 4, 27), (22, 5, 28), (22, 6, 29), (22, 7, 30), (16, 2, 21), (16, 1, 20), (16, 0, 17), (17, 1, 19), (17, 0, 18)] g11 := by rw [e11]; exact b10.sR (by decide)
  have s11 : Sb 16 h g11 := s10.trans (by rw [e11]; exact Sb.sR (by omega))
  refine a_aload_n (pc := 51) (i := 0) dX1_init_51 rfl rfl ?_
  refine a_bipush (pc := 52) (v := nI 8) dX1_init_52 (by decide) ?_
  refine b_newarr (pc := 54) (N := 32) (t := 0) (n := 8) (kc := 1) (ks := 8) b11.1 rfl rfl dX1_init_54 rfl rfl (by decide) aC_in.1 rfl (by decide) (by decide) ?_
  obtain ⟨g12, e12⟩ : ∃ Hx, Hx = nw g11 := ⟨_, rfl⟩
  refine a_heap (h' := g12) e12.symm ?_
  have n12 : hN g12 = 33 := by rw [e12]; exact congrArg (· + 1) b11.1
  have b12 : BD (33) [(16, 4, 31), (16, 3, 22), (22, 0, 23), (22, 1, 24), (22, 2, 25), (22, 3, 26), (22, 4, 27), (22, 5, 28), (22, 6, 29), (22, 7, 30), (16, 2, 21), (16, 1, 20), (16, 0, 17), (17, 1, 19), (17, 0, 18)] g12 := b11.keep (k := 32) (by rw [e12]; exact Sb.nw b11.1 (Nat.le_refl _)) n12 (by decide)
  have s12 : Sb 16 h g12 := s11.trans (by rw [e12]; exact Sb.nw b11.1 (by omega))
  refine a_putRF (pc := 56) (ci := 1) (k := 6) dX1_init_56 (lfm_RX1_34 rfl) (by decide) rfl rfl (ltN n12 (by omega)) (ltN n12 (by omega)) rfl rfl rfl rfl ?_
  obtain ⟨g13, e13⟩ : ∃ Hx, Hx = sR g12 16 6 (some 32) := ⟨_, rfl⟩
  refine a_heap (h' := g13) e13.symm ?_
  have b13 : BD (33) [(16, 6, 32), (16, 4, 31), (16, 3, 22), (22, 0, 23), (22, 1, 24), (22, 2, 25), (22, 3, 26), (22, 4, 27), (22, 5, 28), (22, 6, 29), (22, 7, 30), (16, 2, 21), (16, 1, 20), (16, 0, 17), (17, 1, 19), (17, 0, 18)] g13 := by rw [e13]; exact b12.sR (by decide)
  have s13 : Sb 16 h g13 := s12.trans (by rw [e13]; exact Sb.sR (by omega))
  refine a_aload_n (pc := 59) (i := 0) dX1_init_59 rfl rfl ?_
  refine a_bipush (pc := 60) (v := nI 8) dX1_init_60 (by decide) ?_
  refine b_newarr (pc := 62) (N := 33) (t := 0) (n := 8) (kc := 0) (ks := 0) b13.1 rfl rfl dX1_init_62 rfl rfl (by decide) aC_in.1 rfl (by decide) (by decide) ?_
  obtain ⟨g14, e14⟩ : ∃ Hx, Hx = nw g13 := ⟨_, rfl⟩
  refine a_heap (h' := g14) e14.symm ?_
  have n14 : hN g14 = 34 := by rw [e14]; exact congrArg (· + 1) b13.1
  have b14 : BD (34) [(16, 6, 32), (16, 4, 31), (16, 3, 22), (22, 0, 23), (22, 1, 24), (22, 2, 25), (22, 3, 26), (22, 4, 27), (22, 5, 28), (22, 6, 29), (22, 7, 30), (16, 2, 21), (16, 1, 20), (16, 0, 17), (17, 1, 19), (17, 0, 18)] g14 := b13.keep (k := 33) (by rw [e14]; exact Sb.nw b13.1 (Nat.le_refl _)) n14 (by decide)
  have s14 : Sb 16 h g14 := s13.trans (by rw [e14]; exact Sb.nw b13.1 (by omega))
  refine a_putRF (pc := 64) (ci := 1) (k := 7) dX1_init_64 (lfm_RX1_37 rfl) (by decide) rfl rfl (ltN n14 (by omega)) (ltN n14 (by omega)) rfl rfl rfl rfl ?_
  obtain ⟨g15, e15⟩ : ∃ Hx, Hx = sR g14 16 7 (some 33) := ⟨_, rfl⟩
  refine a_heap (h' := g15) e15.symm ?_
  have b15 : BD (34) [(16, 7, 33), (16, 6, 32), (16, 4, 31), (16, 3, 22), (22, 0, 23), (22, 1, 24), (22, 2, 25), (22, 3, 26), (22, 4, 27), (22, 5, 28), (22, 6, 29), (22, 7, 30), (16, 2, 21), (16, 1, 20), (16, 0, 17), (17, 1, 19), (17, 0, 18)] g15 := by rw [e15]; exact b14.sR (by decide)
  have s15 : Sb 16 h g15 := s14.trans (by rw [e15]; exact Sb.sR (by omega))
  exact a_return (pc := 67) dX1_init_67 rfl (⟨rfl, b15, s15, trivial⟩)
