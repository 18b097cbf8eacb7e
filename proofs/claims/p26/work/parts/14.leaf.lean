/-! leaf methods -/
theorem lt90 {h : AH} {a : Nat} (hn : 68 ≤ hN h) (ha : a < 68) : a < hN h := Nat.lt_of_lt_of_le ha hn
section RW14
variable {X : XT} {mt : MT} {d kc ks pc : Nat} {ls ls' : List (Nat × Value)} {st : List Value} {h : AH} {Q : Res → AH → Prop}
theorem b_if_eq {P : Prop} {off : Int} {tgt : Nat} (hd : decode (mB mt) pc = .ok (.ifCond .eq off, 3)) (ht : (pc : Int) + off = (tgt : Int)) (kt : ¬ P → AW X mt d kc ks tgt ls st h Q) (kf : P → AW X mt d kc ks (pc + 3) ls st h Q) : AW X mt d kc ks pc ls (.int (bi P) :: st) h Q :=
  a_if_eq hd ht (fun q => kt fun z => by rw [bi_t z] at q; cases q) (fun q => kf (Classical.byContradiction fun z => q (bi_f z)))
theorem b_if_ne {P : Prop} {off : Int} {tgt : Nat} (hd : decode (mB mt) pc = .ok (.ifCond .ne off, 3)) (ht : (pc : Int) + off = (tgt : Int)) (kt : P → AW X mt d kc ks tgt ls st h Q) (kf : ¬ P → AW X mt d kc ks (pc + 3) ls st h Q) : AW X mt d kc ks pc ls (.int (bi P) :: st) h Q :=
  a_if_ne hd ht (fun q => kt (Classical.byContradiction fun z => q (bi_f z))) (fun q => kf fun z => by rw [bi_t z] at q; cases q)
end RW14
theorem sp_rowOf {d q : Nat} {h : AH} (hq : q < 2 ^ 31) : AC mX4_rowOf d 0 0 [.int (nI q)] h (Qe (some (.int (nI (q % 48 / 8)))) h) := by
  refine AC.of (by decide) rfl (Nat.le_of_ble_eq_true rfl) (fun X => ?_)
  show AW X mX4_rowOf d 0 0 0 [(0, .int (nI q))] [] h (Qe (some (.int (nI (q % 48 / 8)))) h)
  refine a_iload_n (pc := 0) (i := 0) dX4_rowOf_0 rfl rfl ?_
  refine a_bipush (pc := 1) (v := nI 48) dX4_rowOf_1 (by decide) ?_
  refine n_irem (pc := 3) dX4_rowOf_3 (by omega) (by omega) (by omega) ?_
  refine a_bipush (pc := 4) (v := nI 8) dX4_rowOf_4 (by decide) ?_
  refine n_idiv (pc := 6) dX4_rowOf_6 (by omega) (by omega) (by omega) ?_
  exact a_ireturn (pc := 7) dX4_rowOf_7 rfl rfl (⟨rfl, rfl⟩)
theorem sp_columnOf {d q : Nat} {h : AH} (hq : q < 2 ^ 31) : AC mX4_columnOf d 0 0 [.int (nI q)] h (Qe (some (.int (nI (q % 8)))) h) := by
  refine AC.of (by decide) rfl (Nat.le_of_ble_eq_true rfl) (fun X => ?_)
  show AW X mX4_columnOf d 0 0 0 [(0, .int (nI q))] [] h (Qe (some (.int (nI (q % 8)))) h)
  refine a_iload_n (pc := 0) (i := 0) dX4_columnOf_0 rfl rfl ?_
  refine a_bipush (pc := 1) (v := nI 8) dX4_columnOf_1 (by decide) ?_
  refine n_irem (pc := 3) dX4_columnOf_3 (by omega) (by omega) (by omega) ?_
  exact a_ireturn (pc := 4) dX4_columnOf_4 rfl rfl (⟨rfl, rfl⟩)
theorem sp_sideOf {d q : Nat} {h : AH} (hq : q < 96) : AC mX4_sideOf d 0 0 [.int (nI q)] h (Qe (some (.int (nI (q / 48)))) h) := by
  refine AC.of (by decide) rfl (Nat.le_of_ble_eq_true rfl) (fun X => ?_)
  show AW X mX4_sideOf d 0 0 0 [(0, .int (nI q))] [] h (Qe (some (.int (nI (q / 48)))) h)
  refine a_iload_n (pc := 0) (i := 0) dX4_sideOf_0 rfl rfl ?_
  refine a_bipush (pc := 1) (v := nI 48) dX4_sideOf_1 (by decide) ?_
  refine n_icmp_ge (pc := 3) (tgt := 10) dX4_sideOf_3 (by decide) (by omega) (by omega) (fun c3 => ?_) (fun c3 => ?_)
  · skip
    refine a_iconst (pc := 10) (v := nI 1) dX4_sideOf_10 (by decide) ?_
    exact a_ireturn (pc := 11) dX4_sideOf_11 rfl rfl (⟨by rw [show q / 48 = 1 by omega], rfl⟩)
  · skip
    refine a_iconst (pc := 6) (v := nI 0) dX4_sideOf_6 (by decide) ?_
    refine a_goto (pc := 7) (tgt := 11) dX4_sideOf_7 (by decide) ?_
    exact a_ireturn (pc := 11) dX4_sideOf_11 rfl rfl (⟨by rw [show q / 48 = 0 by omega], rfl⟩)
