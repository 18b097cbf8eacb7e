/-! Random -/
theorem k67 : kdA 67 = some (.inl 5) := kdA_sh rfl
theorem u_nI (u : UInt32) : u.toInt32 = nI u.toNat := by
  show u.toInt32 = Int32.ofNat u.toNat
  first
  | rw [← UInt32.toInt32_ofNat, UInt32.ofNat_toNat]
  | (apply Int32.toBitVec_inj.mp; simp)
  | simp
theorem rnd_nat (x : Int32) : ∃ m, m < 65536 ∧ (x.toUInt32 >>> ((nI 16).toUInt32 &&& Int32.toUInt32 31)).toInt32 = nI m := by
  have e : (nI 16).toUInt32 &&& Int32.toUInt32 31 = 16 := by decide
  rw [e]
  refine ⟨x.toUInt32.toNat / 65536, ?_, ?_⟩
  · have := x.toUInt32.toNat_lt
    omega
  · have h : (x.toUInt32 >>> 16).toNat = x.toUInt32.toNat / 65536 := by
      rw [UInt32.toNat_shiftRight]
      show x.toUInt32.toNat >>> (16 % 32) = _
      rw [Nat.shiftRight_eq_div_pow]
    rw [← h]
    exact u_nI _
/-- what a draw below b leaves -/
def QRb (b : Nat) (h : AH) : Res → AH → Prop := fun r h2 => ∃ n x, n < b ∧ r = .inl (some (.int (nI n))) ∧ h2 = sI h 67 0 x
set_option maxHeartbeats 1500000 in
set_option maxRecDepth 100000 in
theorem x_below {d b : Nat} {h : AH} (hn : 68 ≤ hN h) (hb : 1 ≤ b ∧ b < 100) : AC mX5_below d 0 0 [.ref 67, .int (nI b)] h (QRb b h) := by
  refine AC.of (by decide) rfl (Nat.le_of_ble_eq_true rfl) (fun X => ?_)
  show AW X mX5_below d 0 0 0 [(0, .ref 67), (1, .int (nI b))] [] h (QRb b h)
  have p67 : prN (hN h) 67 := prN_st (by omega) (by omega)
  refine a_aload_n (pc := 0) (i := 0) dX5_below_0 rfl rfl ?_
  refine a_ldc (pc := 1) (v := nI 1103515245) dX5_below_1 (li_RX5_13 rfl) ?_
  refine a_aload_n (pc := 3) (i := 0) dX5_below_3 rfl rfl ?_
  refine g_getI (pc := 4) (ci := 5) (k := 0) dX5_below_4 (lf_RX5_7 rfl) (by decide) rfl k67 p67 ?_
  refine a_imul (pc := 7) dX5_below_7 ?_
  refine a_sipush (pc := 8) (v := nI 12345) dX5_below_8 (by decide) ?_
  refine a_iadd (pc := 11) dX5_below_11 ?_
  refine g_putI (pc := 12) (ci := 5) (k := 0) dX5_below_12 (lf_RX5_7 rfl) (by decide) (Or.inl rfl) k67 p67 rfl ?_
  refine a_aload_n (pc := 15) (i := 0) dX5_below_15 rfl rfl ?_
  refine g_getI (pc := 16) (ci := 5) (k := 0) dX5_below_16 (lf_RX5_7 rfl) (by decide) rfl k67 p67 ?_
  refine a_bipush (pc := 19) (v := nI 16) dX5_below_19 (by decide) ?_
  refine a_iushr (pc := 21) dX5_below_21 ?_
  obtain ⟨m, hm, em⟩ := rnd_nat (hI (sI h 67 0 (((nI 1103515245) * (hI h 67 0)) + (nI 12345))) 67 0)
  refine a_top (show (.int (((hI (sI h 67 0 (((nI 1103515245) * (hI h 67 0)) + (nI 12345))) 67 0).toUInt32 >>> ((nI 16).toUInt32 &&& Int32.toUInt32 31)).toInt32) : Value) = .int (nI m) from congrArg Value.int em) ?_
  refine a_iload_n (pc := 22) (i := 1) dX5_below_22 rfl rfl ?_
  refine n_irem (pc := 23) dX5_below_23 (by omega) (by omega) (by omega) ?_
  exact a_ireturn (pc := 24) dX5_below_24 rfl rfl (⟨m % b, _, Nat.mod_lt _ (by omega), rfl, rfl⟩)
