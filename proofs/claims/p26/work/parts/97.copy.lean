/-! the law's Sheet: its copy -/
section RW97
variable {X : XT} {mt : MT} {d kc ks kc' ks' pc : Nat} {ls ls' : List (Nat × Value)} {st : List Value} {h : AH} {Q : Res → AH → Prop}
theorem e_IU {mt' : MT} {idx n mc ms b : Nat} {as stk : List Value} {R : AH → Prop} (hd : decode (mB mt) pc = .ok (.invokespecial idx, 3)) (hl : Cond.methodLink (mN mt).cls idx (mN mt') ∈ lw_tb2 ∧ Cond.instanceMethod (mN mt') ∈ lw_tb2) (hnm : (mN mt').name = "<init>") (hret : mR mt' = none) (hce : CE mt' n) (hc' : AC mt' d mc ms (.ref b :: as) h (Qu R)) (hn : as.length = n) (hstk : stk = as.reverse ++ .ref b :: st) (hst : (st.map fun v => v.category).sum ≤ 8) (e1 : kc' = kc + mc) (e2 : ks' = ks + ms) (hok : (∀ q ∈ ls, okd (hN h) q.2) ∧ ∀ v ∈ st, okd (hN h) v) (kk : ∀ h2, R h2 → AW X mt (d + 1) kc ks (pc + 3) ls st h2 Q) : AW X mt (d + 1) kc' ks' pc ls stk h Q := by
  subst e1 e2
  exact a_callI hd hl hnm hret hce hc' hn hstk hst Qu_nt (Or.inr hok) (ku_of kk)
end RW97
theorem Dq.drop {S : Nat → Prop} {c : Nat} {h h2 : AH} (f : Dq S c h h2) (hs : ∀ a, S a → ¬ prN (hN h) a) : Dq noS c h h2 := ⟨f.1, f.2.1, fun a ha _ => f.2.2 a ha (fun z => hs a z ha)⟩
theorem fit_bi (P : Prop) : fits .boolean (.int (bi P)) = true := by
  rcases Classical.em P with z | z
  · rw [bi_t z]; rfl
  · rw [bi_f z]; rfl
def QCp (k : Nat) (s : SH) (h : AH) : Res → AH → Prop := fun r h2 => r = .inl (some (.ref (aN k))) ∧ LW h2 k 6 s ∧ Dq noS 7 h h2
theorem upr_at {α : Type} {f : Nat → Nat → α} {a : Nat} {x : Nat → α} : upr f a x a = x := if_pos rfl
set_option maxHeartbeats 1500000 in
set_option maxRecDepth 100000 in
theorem x_copy {d k k0 g0 : Nat} {h : AH} {s : SH} (l : LW h k0 g0 s) (hk : dl (hN h) = k) : AC mX6_copy (d + 2) 7 (66 + sCells s) [.ref (aN k0)] h (QCp k s h) := by
  obtain ⟨⟨bs, pa, pn, pb, pg⟩, ⟨f0, f1, f4, f7, f8⟩, ⟨r9, r10, r5⟩, ⟨L, Z, rL, rZ, ⟨kL, pL⟩, ⟨kZ, pZ⟩, lin, siz⟩, ⟨M, rM, sM⟩, gon⟩ := id l
  have g := bs.1
  have gw := g.1
  have gh := g.2.1
  have gs := g.2.2.1
  have bw := bs.2.1
  have bh := bs.2.2.1
  have bl := bs.2.2.2
  have c12 := cells12 bs
  have okM0 : prN (hN h) M ∨ ext M := by
    rcases sM.2 with ⟨i, hi, rfl, -⟩ | ⟨v, w⟩
    · exact Or.inr (by unfold ext; omega)
    · exact Or.inl w.1.2
  refine AC.of (by decide) rfl (Nat.le_of_ble_eq_true rfl) (fun X => ?_)
  show AW X mX6_copy (d + 2) 7 (66 + sCells s) 0 [(0, .ref (aN k0))] [] h (QCp k s h)
  refine a_wf (fun hw => ?_)
  have nA : newC (hN h) (aN k) k 6 := newC_0 (prN_68 pa) hk (by decide)
  have noA2 := (nA.no hw.1).1
  refine a_room (kc' := 6 + 1) (ks' := (53 + sCells s) + 13) (by omega) (by omega) ?_
  refine d_new (pc := 0) (ci := 6) (kc := 6) (ks := 53 + sCells s) dX6_copy_0 (by decide) nA (tbi 324 (by decide +kernel)) (tbi 263 (by decide +kernel)) (tbi 8 (by decide +kernel)) (okc (okd_r pa) okz) okz ?_
  have x1 : ¬ aN k0 = aN k := fun e => noA2 (e ▸ pa)
  have x2 : ¬ gonN k0 g0 s = aN k := fun e => noA2 (e ▸ pg)
  refine a_dup (pc := 3) dX6_copy_3 rfl ?_
  refine e_IU (pc := 4) (mc := 5) (ms := 53) (kc := 1) (ks := sCells s) (as := []) (b := aN k) dX6_copy_4 (lc_RX6_47 rfl) rfl rfl ceX6_init (x_init (d := d) adn_ge (by show dl (adn _ _) = _; rw [dl_adn, hk]) ((prN_adn nA.1).mpr (Or.inr rfl)) (by rw [nwD_row.1]) (by rw [nwD_row.1])) rfl rfl (Nat.le_of_ble_eq_true rfl) (by omega) (by omega) ⟨(okc (okd_r ((prN_adn nA.1).mpr (Or.inl pa))) okz), (okc (okd_r ((prN_adn nA.1).mpr (Or.inr rfl))) okz)⟩ (fun H1 y => ?_)
  obtain ⟨lN, d2⟩ := y
  have d1 : Dq noS 1 h (nwD h (aN k)) := (Dq.refl nA.1 : Dq noS 0 h h).nwD nA noA2
  have d3 : Dq (fun a => a = aN k) 6 h H1 := (d1.mono (fun a z => z.elim)).trans d2
  have l1 : LW H1 k0 g0 s := l.dq (d3.drop (fun a e => by rw [show a = aN k from e]; exact noA2)) okS_no id id
  obtain ⟨-, ⟨u0, u1, u4, u7, u8⟩, ⟨-, -, u5⟩, -, -, ugon⟩ := id l1
  obtain ⟨⟨-, qA1, qN1, qB1, -⟩, -, ⟨v9, v10, -⟩, -, -, -⟩ := id lN
  have pA0 : prN (hN H1) (aN k0) := d3.2.1 _ pa
  have pG0 : prN (hN H1) (gonN k0 g0 s) := d3.2.1 _ pg
  have pL1 := d3.2.1 _ pL
  have pZ1 := d3.2.1 _ pZ
  have wL := (d3.2.2 (aN k0) pa x1).2.2
  have uL : hR H1 (aN k0) 2 = some L := by rw [wL]; exact rL
  have uZ : hR H1 (aN k0) 3 = some Z := by rw [wL]; exact rZ
  have uM : hR H1 (aN k0) 6 = some M := by rw [wL]; exact rM
  have hkB : dl (hN H1) = k + 6 := by rw [d3.1.2, hk]
  refine a_astore_n (pc := 7) (i := 1) (ls' := [(0, .ref (aN k0)), (1, .ref (aN k))]) dX6_copy_7 rfl (by decide) rfl ?_
  refine a_aload_n (pc := 8) (i := 1) dX6_copy_8 rfl rfl ?_
  refine a_aload_n (pc := 9) (i := 0) dX6_copy_9 rfl rfl ?_
  refine g_getI (pc := 10) (ci := 6) (k := 0) dX6_copy_10 (lf_RX6_7 rfl) (by decide) rfl kd_a pA0 ?_
  refine a_top (show (.int (hI H1 (aN k0) 0) : Value) = .int (nI (sW s)) from congrArg Value.int (by exact u0)) ?_
  refine g_putI (pc := 13) (ci := 6) (k := 0) dX6_copy_13 (lf_RX6_7 rfl) (by decide) (Or.inl rfl) kd_a qA1 rfl ?_
  refine a_aload_n (pc := 16) (i := 1) dX6_copy_16 rfl rfl ?_
  refine a_aload_n (pc := 17) (i := 0) dX6_copy_17 rfl rfl ?_
  refine g_getI (pc := 18) (ci := 6) (k := 1) dX6_copy_18 (lf_RX6_13 rfl) (by decide) rfl kd_a pA0 ?_
  refine a_top (show (.int (hI (sI H1 (aN k) 0 (nI (sW s))) (aN k0) 1) : Value) = .int (nI (sH s)) from congrArg Value.int (by rw [hI_sI, if_neg (show ¬ (aN k0 = aN k ∧ 1 = 0) from fun z => x1 z.1)]; exact u1)) ?_
  refine g_putI (pc := 21) (ci := 6) (k := 1) dX6_copy_21 (lf_RX6_13 rfl) (by decide) (Or.inl rfl) kd_a qA1 rfl ?_
  refine a_aload_n (pc := 24) (i := 1) dX6_copy_24 rfl rfl ?_
  refine a_aload_n (pc := 25) (i := 0) dX6_copy_25 rfl rfl ?_
  refine g_getR (pc := 26) (ci := 6) (k := 2) (b := L) dX6_copy_26 (lf_RX6_20 rfl) (by decide) rfl kd_a pA0 (by rw [hR_sI, hR_sI]; exact uL) ?_
  refine g_putR (pc := 29) (ci := 6) (k := 2) (b := L) dX6_copy_29 (lf_RX6_20 rfl) (by decide) rfl kd_a qA1 (Or.inl pL1) (Or.inl rfl) ?_
  refine a_aload_n (pc := 32) (i := 1) dX6_copy_32 rfl rfl ?_
  refine a_aload_n (pc := 33) (i := 0) dX6_copy_33 rfl rfl ?_
  refine g_getR (pc := 34) (ci := 6) (k := 3) (b := Z) dX6_copy_34 (lf_RX6_24 rfl) (by decide) rfl kd_a pA0 (by rw [hR_sR, if_neg (show ¬ (aN k0 = aN k ∧ 3 = 2) from fun z => x1 z.1), hR_sI, hR_sI]; exact uZ) ?_
  refine g_putR (pc := 37) (ci := 6) (k := 3) (b := Z) dX6_copy_37 (lf_RX6_24 rfl) (by decide) rfl kd_a qA1 (Or.inl pZ1) (Or.inl rfl) ?_
  refine a_aload_n (pc := 40) (i := 1) dX6_copy_40 rfl rfl ?_
  refine a_aload_n (pc := 41) (i := 0) dX6_copy_41 rfl rfl ?_
  refine g_getI (pc := 42) (ci := 6) (k := 4) dX6_copy_42 (lf_RX6_28 rfl) (by decide) rfl kd_a pA0 ?_
  refine a_top (show (.int (hI (sR (sR (sI (sI H1 (aN k) 0 (nI (sW s))) (aN k) 1 (nI (sH s))) (aN k) 2 (some L)) (aN k) 3 (some Z)) (aN k0) 4) : Value) = .int (nI (sS s)) from congrArg Value.int (by rw [hI_sR, hI_sR, hI_sI, if_neg (show ¬ (aN k0 = aN k ∧ 4 = 1) from fun z => x1 z.1), hI_sI, if_neg (show ¬ (aN k0 = aN k ∧ 4 = 0) from fun z => x1 z.1)]; exact u4)) ?_
  refine g_putI (pc := 45) (ci := 6) (k := 4) dX6_copy_45 (lf_RX6_28 rfl) (by decide) (Or.inl rfl) kd_a qA1 rfl ?_
  refine a_aload_n (pc := 48) (i := 1) dX6_copy_48 rfl rfl ?_
  refine a_aload_n (pc := 49) (i := 0) dX6_copy_49 rfl rfl ?_
  refine g_getR (pc := 50) (ci := 6) (k := 5) (b := gonN k0 g0 s) dX6_copy_50 (lf_RX6_31 rfl) (by decide) rfl kd_a pA0 (by rw [hR_sI, hR_sR, if_neg (show ¬ (aN k0 = aN k ∧ 5 = 3) from fun z => x1 z.1), hR_sR, if_neg (show ¬ (aN k0 = aN k ∧ 5 = 2) from fun z => x1 z.1), hR_sI, hR_sI]; exact u5) ?_
  have eG : hI (sI (sR (sR (sI (sI H1 (aN k) 0 (nI (sW s))) (aN k) 1 (nI (sH s))) (aN k) 2 (some L)) (aN k) 3 (some Z)) (aN k) 4 (nI (sS s))) (gonN k0 g0 s) = hI H1 (gonN k0 g0 s) := (up2_row x2).trans ((up2_row x2).trans (up2_row x2))
  refine a_wf (fun hwC => ?_)
  have nB : newC (hN (sI (sR (sR (sI (sI H1 (aN k) 0 (nI (sW s))) (aN k) 1 (nI (sH s))) (aN k) 2 (some L)) (aN k) 3 (some Z)) (aN k) 4 (nI (sS s)))) (nm (k + 6) (qA 2 (sCells s))) (k + 6) (qA 2 (sCells s)) := newC_0 d3.1.1 hkB (by have := c12; unfold qA; omega)
  have noB := (nB.no hwC.1).1
  have x3 : ¬ aN k = nm (k + 6) (qA 2 (sCells s)) := fun e => noB (e ▸ qA1)
  have x4 : ¬ aN k0 = nm (k + 6) (qA 2 (sCells s)) := fun e => noB (e ▸ pA0)
  refine a_room (kc' := 0 + 1) (ks' := 0 + sCells s) (Nat.le_refl _) (by omega) ?_
  refine d_clone (pc := 53) (n := sCells s) (a := gonN k0 g0 s) (kc := 0) (ks := 0) dX6_copy_53 (tbi 326 (by decide +kernel)) (by omega) nB (kd_gon bs) pG0 (fun j hj => by rw [eG, ugon j hj]; exact fit_bi _) (Nat.le_of_ble_eq_true rfl) (okc (okd_r pA0) (okc (okd_r qA1) okz)) (okc (okd_r qA1) okz) ?_
  have hp := fun a => prN_adn (N := hN H1) (c := nm (k + 6) (qA 2 (sCells s))) (a := a) nB.1
  refine g_castZ (pc := 56) (n := sCells s) dX6_copy_56 (tbi 332 (by decide +kernel)) (kdA_a (by decide) (by omega)) ((hp _).mpr (Or.inr rfl)) ?_
  refine g_putR (pc := 59) (ci := 6) (k := 5) (b := nm (k + 6) (qA 2 (sCells s))) dX6_copy_59 (lf_RX6_31 rfl) (by decide) rfl kd_a ((hp _).mpr (Or.inl qA1)) (Or.inl ((hp _).mpr (Or.inr rfl))) (Or.inl rfl) ?_
  refine a_aload_n (pc := 62) (i := 1) dX6_copy_62 rfl rfl ?_
  refine a_aload_n (pc := 63) (i := 0) dX6_copy_63 rfl rfl ?_
  refine g_getR (pc := 64) (ci := 6) (k := 6) (b := M) dX6_copy_64 (lf_RX6_37 rfl) (by decide) rfl kd_a ((hp _).mpr (Or.inl pA0)) (by rw [hR_sR, if_neg (show ¬ (aN k0 = aN k ∧ 6 = 5) from fun z => x1 z.1), hR_rI, (nwD_old x4).2.2, hR_sI, hR_sR, if_neg (show ¬ (aN k0 = aN k ∧ 6 = 3) from fun z => x1 z.1), hR_sR, if_neg (show ¬ (aN k0 = aN k ∧ 6 = 2) from fun z => x1 z.1), hR_sI, hR_sI]; exact uM) ?_
  have okM : prN (adn (hN H1) (nm (k + 6) (qA 2 (sCells s)))) M ∨ ext M := (by rcases okM0 with z | z; exact Or.inl ((prN_adn nB.1).mpr (Or.inl (d3.2.1 _ z))); exact Or.inr z)
  refine g_putR (pc := 67) (ci := 6) (k := 6) (b := M) dX6_copy_67 (lf_RX6_37 rfl) (by decide) rfl kd_a ((hp _).mpr (Or.inl qA1)) okM (Or.inl rfl) ?_
  refine a_aload_n (pc := 70) (i := 1) dX6_copy_70 rfl rfl ?_
  refine a_aload_n (pc := 71) (i := 0) dX6_copy_71 rfl rfl ?_
  refine g_getI (pc := 72) (ci := 6) (k := 7) dX6_copy_72 (lf_RX6_53 rfl) (by decide) rfl kd_a ((hp _).mpr (Or.inl pA0)) ?_
  refine a_top (show (.int (hI (sR (sR (rI (nwD (sI (sR (sR (sI (sI H1 (aN k) 0 (nI (sW s))) (aN k) 1 (nI (sH s))) (aN k) 2 (some L)) (aN k) 3 (some Z)) (aN k) 4 (nI (sS s))) (nm (k + 6) (qA 2 (sCells s)))) (nm (k + 6) (qA 2 (sCells s))) (hI (sI (sR (sR (sI (sI H1 (aN k) 0 (nI (sW s))) (aN k) 1 (nI (sH s))) (aN k) 2 (some L)) (aN k) 3 (some Z)) (aN k) 4 (nI (sS s))) (gonN k0 g0 s))) (aN k) 5 (some (nm (k + 6) (qA 2 (sCells s))))) (aN k) 6 (some M)) (aN k0) 7) : Value) = .int (nI (sCu s)) from congrArg Value.int (by rw [hI_sR, hI_sR, hI_rI, if_neg x4, (nwD_old x4).1, hI_sI, if_neg (show ¬ (aN k0 = aN k ∧ 7 = 4) from fun z => x1 z.1), hI_sR, hI_sR, hI_sI, if_neg (show ¬ (aN k0 = aN k ∧ 7 = 1) from fun z => x1 z.1), hI_sI, if_neg (show ¬ (aN k0 = aN k ∧ 7 = 0) from fun z => x1 z.1)]; exact u7)) ?_
  refine g_putI (pc := 75) (ci := 6) (k := 7) dX6_copy_75 (lf_RX6_53 rfl) (by decide) (Or.inl rfl) kd_a ((hp _).mpr (Or.inl qA1)) rfl ?_
  refine a_aload_n (pc := 78) (i := 1) dX6_copy_78 rfl rfl ?_
  refine a_aload_n (pc := 79) (i := 0) dX6_copy_79 rfl rfl ?_
  refine g_getI (pc := 80) (ci := 6) (k := 8) dX6_copy_80 (lf_RX6_56 rfl) (by decide) rfl kd_a ((hp _).mpr (Or.inl pA0)) ?_
  refine a_top (show (.int (hI (sI (sR (sR (rI (nwD (sI (sR (sR (sI (sI H1 (aN k) 0 (nI (sW s))) (aN k) 1 (nI (sH s))) (aN k) 2 (some L)) (aN k) 3 (some Z)) (aN k) 4 (nI (sS s))) (nm (k + 6) (qA 2 (sCells s)))) (nm (k + 6) (qA 2 (sCells s))) (hI (sI (sR (sR (sI (sI H1 (aN k) 0 (nI (sW s))) (aN k) 1 (nI (sH s))) (aN k) 2 (some L)) (aN k) 3 (some Z)) (aN k) 4 (nI (sS s))) (gonN k0 g0 s))) (aN k) 5 (some (nm (k + 6) (qA 2 (sCells s))))) (aN k) 6 (some M)) (aN k) 7 (nI (sCu s))) (aN k0) 8) : Value) = .int (nI (sTk s)) from congrArg Value.int (by rw [hI_sI, if_neg (show ¬ (aN k0 = aN k ∧ 8 = 7) from fun z => x1 z.1), hI_sR, hI_sR, hI_rI, if_neg x4, (nwD_old x4).1, hI_sI, if_neg (show ¬ (aN k0 = aN k ∧ 8 = 4) from fun z => x1 z.1), hI_sR, hI_sR, hI_sI, if_neg (show ¬ (aN k0 = aN k ∧ 8 = 1) from fun z => x1 z.1), hI_sI, if_neg (show ¬ (aN k0 = aN k ∧ 8 = 0) from fun z => x1 z.1)]; exact u8)) ?_
  refine g_putI (pc := 83) (ci := 6) (k := 8) dX6_copy_83 (lf_RX6_56 rfl) (by decide) (Or.inl rfl) kd_a ((hp _).mpr (Or.inl qA1)) rfl ?_
  refine a_aload_n (pc := 86) (i := 1) dX6_copy_86 rfl rfl ?_
  obtain ⟨HF, hHF⟩ : ∃ Hx, Hx = sI (sI (sR (sR (rI (nwD (sI (sR (sR (sI (sI H1 (aN k) 0 (nI (sW s))) (aN k) 1 (nI (sH s))) (aN k) 2 (some L)) (aN k) 3 (some Z)) (aN k) 4 (nI (sS s))) (nm (k + 6) (qA 2 (sCells s)))) (nm (k + 6) (qA 2 (sCells s))) (hI (sI (sR (sR (sI (sI H1 (aN k) 0 (nI (sW s))) (aN k) 1 (nI (sH s))) (aN k) 2 (some L)) (aN k) 3 (some Z)) (aN k) 4 (nI (sS s))) (gonN k0 g0 s))) (aN k) 5 (some (nm (k + 6) (qA 2 (sCells s))))) (aN k) 6 (some M)) (aN k) 7 (nI (sCu s))) (aN k) 8 (nI (sTk s)) := ⟨_, rfl⟩
  refine a_heap (h' := HF) hHF.symm ?_
  have dF : Dq (fun a => a = aN k) 7 h HF := by
    rw [hHF]
    exact (((((((((((d3).sI (Or.inl rfl)).sI (Or.inl rfl)).sR (Or.inl rfl)).sR (Or.inl rfl)).sI (Or.inl rfl)).nwD nB noB).rI (Or.inr (fun z => noB (d3.2.1 _ z)))).sR (Or.inl rfl)).sR (Or.inl rfl)).sI (Or.inl rfl)).sI (Or.inl rfl)
  have dN := dF.drop (fun a e => by rw [show a = aN k from e]; exact noA2)
  have z2 := LZ.dq (s := s) ⟨rL, rZ, ⟨kL, pL⟩, ⟨kZ, pZ⟩, lin, siz⟩ dN okS_no pa (by rw [(dN.2.2 (aN k0) pa id).2.2]; exact ⟨rfl, rfl⟩) (by omega)
  have sF : STR HF M (msT s) := sM.dq dN okS_no.str
  have eN : hN HF = adn (hN H1) (nm (k + 6) (qA 2 (sCells s))) := by rw [hHF]; rfl
  have hpF : ∀ a, prN (hN H1) a → prN (hN HF) a := fun a ha => by rw [eN]; exact (hp a).mpr (Or.inl ha)
  have hw5 : wfh HF → True := fun _ => trivial
  refine a_wf (fun hwF => ?_)
  have lF : LW HF k 6 s := by
    refine ⟨⟨bs, hpF _ qA1, hpF _ qN1, hpF _ qB1, by rw [eN]; exact (hp _).mpr (Or.inr rfl)⟩, ⟨?_, ?_, ?_, ?_, ?_⟩, ⟨?_, ?_, ?_⟩, ⟨L, Z, ?_, ?_, z2.2.2⟩, ⟨M, ?_, sF⟩, fun c hc => ?_⟩
    · rw [hHF, hI_sI, if_neg (show ¬ (aN k = aN k ∧ 0 = 8) from fun z => absurd z.2 (by omega)), hI_sI, if_neg (show ¬ (aN k = aN k ∧ 0 = 7) from fun z => absurd z.2 (by omega)), hI_sR, hI_sR, hI_rI, if_neg x3, (nwD_old x3).1, hI_sI, if_neg (show ¬ (aN k = aN k ∧ 0 = 4) from fun z => absurd z.2 (by omega)), hI_sR, hI_sR, hI_sI, if_neg (show ¬ (aN k = aN k ∧ 0 = 1) from fun z => absurd z.2 (by omega)), hI_sI, if_pos ⟨rfl, rfl⟩]
    · rw [hHF, hI_sI, if_neg (show ¬ (aN k = aN k ∧ 1 = 8) from fun z => absurd z.2 (by omega)), hI_sI, if_neg (show ¬ (aN k = aN k ∧ 1 = 7) from fun z => absurd z.2 (by omega)), hI_sR, hI_sR, hI_rI, if_neg x3, (nwD_old x3).1, hI_sI, if_neg (show ¬ (aN k = aN k ∧ 1 = 4) from fun z => absurd z.2 (by omega)), hI_sR, hI_sR, hI_sI, if_pos ⟨rfl, rfl⟩]
    · rw [hHF, hI_sI, if_neg (show ¬ (aN k = aN k ∧ 4 = 8) from fun z => absurd z.2 (by omega)), hI_sI, if_neg (show ¬ (aN k = aN k ∧ 4 = 7) from fun z => absurd z.2 (by omega)), hI_sR, hI_sR, hI_rI, if_neg x3, (nwD_old x3).1, hI_sI, if_pos ⟨rfl, rfl⟩]
    · rw [hHF, hI_sI, if_neg (show ¬ (aN k = aN k ∧ 7 = 8) from fun z => absurd z.2 (by omega)), hI_sI, if_pos ⟨rfl, rfl⟩]
    · rw [hHF, hI_sI, if_pos ⟨rfl, rfl⟩]
    · rw [hHF, hR_sI, hR_sI, hR_sR, if_neg (show ¬ (aN k = aN k ∧ 9 = 6) from fun z => absurd z.2 (by omega)), hR_sR, if_neg (show ¬ (aN k = aN k ∧ 9 = 5) from fun z => absurd z.2 (by omega)), hR_rI, (nwD_old x3).2.2, hR_sI, hR_sR, if_neg (show ¬ (aN k = aN k ∧ 9 = 3) from fun z => absurd z.2 (by omega)), hR_sR, if_neg (show ¬ (aN k = aN k ∧ 9 = 2) from fun z => absurd z.2 (by omega)), hR_sI, hR_sI]; exact v9
    · rw [hHF, hR_sI, hR_sI, hR_sR, if_neg (show ¬ (aN k = aN k ∧ 10 = 6) from fun z => absurd z.2 (by omega)), hR_sR, if_neg (show ¬ (aN k = aN k ∧ 10 = 5) from fun z => absurd z.2 (by omega)), hR_rI, (nwD_old x3).2.2, hR_sI, hR_sR, if_neg (show ¬ (aN k = aN k ∧ 10 = 3) from fun z => absurd z.2 (by omega)), hR_sR, if_neg (show ¬ (aN k = aN k ∧ 10 = 2) from fun z => absurd z.2 (by omega)), hR_sI, hR_sI]; exact v10
    · rw [hHF, hR_sI, hR_sI, hR_sR, if_neg (show ¬ (aN k = aN k ∧ 5 = 6) from fun z => absurd z.2 (by omega)), hR_sR, if_pos ⟨rfl, rfl⟩]; rfl
    · rw [hHF, hR_sI, hR_sI, hR_sR, if_neg (show ¬ (aN k = aN k ∧ 2 = 6) from fun z => absurd z.2 (by omega)), hR_sR, if_neg (show ¬ (aN k = aN k ∧ 2 = 5) from fun z => absurd z.2 (by omega)), hR_rI, (nwD_old x3).2.2, hR_sI, hR_sR, if_neg (show ¬ (aN k = aN k ∧ 2 = 3) from fun z => absurd z.2 (by omega)), hR_sR, if_pos ⟨rfl, rfl⟩]
    · rw [hHF, hR_sI, hR_sI, hR_sR, if_neg (show ¬ (aN k = aN k ∧ 3 = 6) from fun z => absurd z.2 (by omega)), hR_sR, if_neg (show ¬ (aN k = aN k ∧ 3 = 5) from fun z => absurd z.2 (by omega)), hR_rI, (nwD_old x3).2.2, hR_sI, hR_sR, if_pos ⟨rfl, rfl⟩]
    · rw [hHF, hR_sI, hR_sI, hR_sR, if_pos ⟨rfl, rfl⟩]
    · have hc : c < sCells s := hc
      show hI HF (nm (k + 6) (qA 2 (sCells s))) c = _
      have eR : hI HF (nm (k + 6) (qA 2 (sCells s))) = hI (sI (sR (sR (sI (sI H1 (aN k) 0 (nI (sW s))) (aN k) 1 (nI (sH s))) (aN k) 2 (some L)) (aN k) 3 (some Z)) (aN k) 4 (nI (sS s))) (gonN k0 g0 s) := by rw [hHF]; exact (up2_row (fun e => x3 e.symm)).trans ((up2_row (fun e => x3 e.symm)).trans (upr_at))
      rw [eR, eG]; exact ugon c hc
  exact a_areturn (pc := 87) dX6_copy_87 rfl rfl (prN_ne hwF.1 (hpF _ qA1)) ⟨rfl, lF, dN⟩
