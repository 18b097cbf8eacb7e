/-! the law's Sheet: missing -/
def ushN (x : Int32) (n : Nat) : Int32 := (x.toUInt32 >>> ((nI n).toUInt32 &&& Int32.toUInt32 31)).toInt32
def bc1 (x : Int32) : Int32 := x - (ushN x 1 &&& 1431655765)
def bc2 (x : Int32) : Int32 := (x &&& 858993459) + (ushN x 2 &&& 858993459)
def bc3 (x : Int32) : Int32 := (x + ushN x 4) &&& 252645135
def bc4 (x : Int32) : Int32 := x + ushN x 8
def bc5 (x : Int32) : Int32 := x + ushN x 16
def bcX (x : Int32) : Int32 := bc5 (bc4 (bc3 (bc2 (bc1 x)))) &&& nI 63
def bitN (a j : Nat) : Nat := a / 2 ^ j % 2
def TB (a : Nat) : Nat → Prop := fun j => bitN a j = 1
def popN (a : Nat) : Nat := bitN a 0 + bitN a 1 + bitN a 2 + bitN a 3 + bitN a 4 + bitN a 5 + bitN a 6 + bitN a 7 + bitN a 8
theorem bcX_eq {a : Nat} (h : a < 512) : bcX (nI a) = nI (popN a) := by
  have key : ∀ a : Fin 512, bcX (nI a.1) = nI (popN a.1) := by decide +kernel
  exact key ⟨a, h⟩
theorem sh_1 {n : Nat} (h : n < 10) : nI 1 <<< (nI n &&& 31) = nI (2 ^ n) := by
  have key : ∀ n : Fin 10, nI 1 <<< (nI n.1 &&& 31) = nI (2 ^ n.1) := by decide +kernel
  exact key ⟨n, h⟩
theorem sh_bit {a j : Nat} (h : a < 512) (hj : j < 9) : (nI a >>> (nI j &&& 31)) &&& nI 1 = nI (bitN a j) := by
  have key : ∀ (a : Fin 512) (j : Fin 9), (nI a.1 >>> (nI j.1 &&& 31)) &&& nI 1 = nI (bitN a.1 j.1) := by decide +kernel
  exact key ⟨a, h⟩ ⟨j, hj⟩
theorem sb_65 {x y : Nat} (hx : x < 65) (hy : y < 65) : nI x - nI y = if y ≤ x then nI (x - y) else -nI (y - x) := by
  have key : ∀ (x y : Fin 65), nI x.1 - nI y.1 = if y.1 ≤ x.1 then nI (x.1 - y.1) else -nI (y.1 - x.1) := by decide +kernel
  exact key ⟨x, hx⟩ ⟨y, hy⟩
theorem lt_neg65 {m y : Nat} (hm : m < 65) (hy : y < 65) : ¬ nI m < -nI y := by
  have key : ∀ (x y : Fin 65), ¬ nI x.1 < -nI y.1 := by decide +kernel
  exact key ⟨m, hm⟩ ⟨y, hy⟩
theorem mx_sub {m x y : Nat} (hm : m < 65) (hx : x < 65) (hy : y < 65) : cif (nI m < nI x - nI y) (nI x - nI y) (nI m) = nI (max m (x - y)) := by
  rw [sb_65 hx hy]
  by_cases h : y ≤ x
  · rw [if_pos h]
    rcases Nat.lt_or_ge m (x - y) with z | z
    · rw [cif_t ((nI_ltI (by omega) (by omega)).mpr z), Nat.max_eq_right (Nat.le_of_lt z)]
    · rw [cif_f (fun w => absurd ((nI_ltI (by omega) (by omega)).mp w) (by omega)), Nat.max_eq_left z]
  · rw [if_neg h, cif_f (lt_neg65 hm (by omega)), Nat.max_eq_left (by omega)]
theorem bitN_lt (a j : Nat) : bitN a j < 2 := Nat.mod_lt _ (by decide)
theorem bitN_hi {a j L : Nat} (h : a < 2 ^ L) (hj : L ≤ j) : bitN a j = 0 := by
  unfold bitN
  rw [Nat.div_eq_of_lt (Nat.lt_of_lt_of_le h (Nat.pow_le_pow_right (by decide) hj))]
theorem bitN_add {a j L : Nat} (hj : j < L) : bitN (a + 2 ^ L) j = bitN a j := by
  unfold bitN
  obtain ⟨t, rfl⟩ : ∃ t, L = j + (t + 1) := ⟨L - j - 1, by omega⟩
  rw [Nat.pow_add, Nat.add_mul_div_left _ _ (Nat.pow_pos (by decide)), Nat.pow_succ]
  omega
theorem bitN_top {a L : Nat} (h : a < 2 ^ L) : bitN (a + 2 ^ L) L = 1 := by
  unfold bitN
  rw [Nat.add_div_right _ (Nat.pow_pos (by decide)), Nat.div_eq_of_lt h]
theorem all_sets (A : Nat → Prop) : ∀ L, ∃ a, a < 2 ^ L ∧ ∀ j, j < L → (A j ↔ TB a j)
  | 0 => ⟨0, by decide, fun j hj => absurd hj (Nat.not_lt_zero j)⟩
  | L + 1 => by
    obtain ⟨a, h1, h2⟩ := all_sets A L
    rcases Classical.em (A L) with h | h
    · refine ⟨a + 2 ^ L, by rw [Nat.pow_succ]; omega, fun j hj => ?_⟩
      rcases Nat.lt_or_ge j L with z | z
      · rw [h2 j z]; unfold TB; rw [bitN_add z]
      · have e : j = L := by omega
        subst e
        exact ⟨fun _ => bitN_top h1, fun _ => h⟩
    · refine ⟨a, by rw [Nat.pow_succ]; omega, fun j hj => ?_⟩
      rcases Nat.lt_or_ge j L with z | z
      · exact h2 j z
      · have e : j = L := by omega
        subst e
        exact ⟨fun z => absurd z h, fun z => by have z : bitN a j = 1 := z; rw [bitN_hi h1 (Nat.le_refl _)] at z; cases z⟩
theorem bN_bit (a j : Nat) : bN (TB a j) = bitN a j := by
  have := bitN_lt a j
  rcases Nat.lt_or_ge (bitN a j) 1 with z | z
  · rw [bN_f (show ¬ TB a j from fun y => by have y : bitN a j = 1 := y; omega)]; omega
  · rw [bN_t (show TB a j from (by omega : bitN a j = 1))]; omega
theorem cnt_pop {a L : Nat} (h : a < 2 ^ L) (hL : L ≤ 9) : cnt (TB a) L = popN a := by
  rw [← cnt_cut (P := TB a) (w := L) (W := 9) hL (fun i h1 _ z => by have z : bitN a i = 1 := z; rw [bitN_hi h h1] at z; cases z)]
  simp only [cnt, bN_bit]
  unfold popN
  omega
theorem popN_le (a : Nat) : popN a ≤ 9 := by
  unfold popN
  have := bitN_lt a 0; have := bitN_lt a 1; have := bitN_lt a 2; have := bitN_lt a 3; have := bitN_lt a 4; have := bitN_lt a 5; have := bitN_lt a 6; have := bitN_lt a 7; have := bitN_lt a 8
  omega
def NBc (s : SH) (a c J : Nat) : Prop := ∃ j, j < J ∧ TB a j ∧ hasP s c (97 + sMs s j) 2
theorem cw_in {s : SH} (g : GS s) {x : Int32} {b : Nat} (h : cwP s x b) : b / 8 < sH s ∧ b % 8 < sW s := by
  obtain ⟨q, h1, h2, rfl⟩ := h
  exact pcl_on (n := 1) g h1 (by have := (qhas_of_lt h2.2.1).2; omega) (fun i hi => by rw [show q + i = q by omega]; exact h2.2) _ ⟨0, by omega, rfl⟩
theorem nb_cells {s : SH} (g : GS s) (a : Nat) : cnt (fun c => NBc s a c (sLen s)) (sCells s) = cnt (NB (dMs s) (TB a) (sLen s)) 48 := by
  have gh := g.2.1
  have hP : ∀ b, NB (dMs s) (TB a) (sLen s) b → b / 8 < sH s ∧ b % 8 < sW s := fun b ⟨i, _, _, h⟩ => cw_in g h
  rw [← cnt_cut (P := NB (dMs s) (TB a) (sLen s)) (w := 48) (W := 64) (by omega) (fun i h1 _ z => by have := (hP i z).1; omega), c_cell g hP]
  refine cnt_congr _ fun c hc => ⟨?_, ?_⟩
  · rintro ⟨j, j1, j2, sd, j3, j4, j5⟩
    exact ⟨j, j1, j2, (cwP_pq g hc).mpr ⟨sd, j3, (ch_ms g j1).mp j5, j4⟩⟩
  · rintro ⟨j, j1, j2, j3⟩
    obtain ⟨sd, k1, k2, k3⟩ := (cwP_pq g hc).mp j3
    exact ⟨j, j1, j2, sd, k1, k3, (ch_ms g j1).mpr k2⟩
theorem miss_top {s : SH} {m : Nat} (h : ∀ x, x < 2 ^ sLen s → cnt (TB x) (sLen s) ≤ cnt (NB (dMs s) (TB x) (sLen s)) 48 + m) : nMiss s ≤ m := by
  obtain ⟨A, -, h2⟩ := mset_lb (dMs s) (sLen s)
  obtain ⟨a, h3, h4⟩ := all_sets A (sLen s)
  have h5 := h a h3
  rw [← cnt_congr (sLen s) h4, ← cnt_congr (P := NB (dMs s) A (sLen s)) 48 (fun c _ => ⟨fun ⟨i, i1, i2, i3⟩ => ⟨i, i1, (h4 i i1).mp i2, i3⟩, fun ⟨i, i1, i2, i3⟩ => ⟨i, i1, (h4 i i1).mpr i2, i3⟩⟩)] at h5
  rw [nMiss_eq]
  omega
theorem miss_le (s : SH) (x : Nat) : cnt (TB x) (sLen s) - cnt (NB (dMs s) (TB x) (sLen s)) 48 ≤ nMiss s := by
  have := mset_ub (dMs s) (sLen s) (TB x)
  rw [nMiss_eq]
  omega
set_option maxHeartbeats 1500000 in
set_option maxRecDepth 100000 in
theorem s_bitCount {d : Nat} {x : Int32} {h : AH} : AC mJ6_bitCount_0f7a4 d 0 0 [.int x] h (Qe (some (.int (bcX x))) h) := by
  refine AC.of (by decide) rfl (Nat.le_of_ble_eq_true rfl) (fun X => ?_)
  show AW X mJ6_bitCount_0f7a4 d 0 0 0 [(0, .int x)] [] h (Qe (some (.int (bcX x))) h)
  refine a_iload_n (pc := 0) (i := 0) dJ6_bitCount_0f7a4_0 rfl rfl ?_
  refine a_iload_n (pc := 1) (i := 0) dJ6_bitCount_0f7a4_1 rfl rfl ?_
  refine a_iconst (pc := 2) (v := nI 1) dJ6_bitCount_0f7a4_2 (by decide) ?_
  refine a_iushr (pc := 3) dJ6_bitCount_0f7a4_3 ?_
  refine a_ldc_w (pc := 4) (v := (1431655765)) dJ6_bitCount_0f7a4_4 (li_RJ6_265 rfl) ?_
  refine a_iand (pc := 7) dJ6_bitCount_0f7a4_7 ?_
  refine a_isub (pc := 8) dJ6_bitCount_0f7a4_8 ?_
  refine a_top (show (.int (x - (((x.toUInt32 >>> ((nI 1).toUInt32 &&& Int32.toUInt32 31)).toInt32) &&& ((1431655765)))) : Value) = .int (bc1 x) from rfl) ?_
  refine a_istore_n (pc := 9) (i := 0) (ls' := [(0, .int (bc1 x))]) dJ6_bitCount_0f7a4_9 rfl (by decide) rfl ?_
  refine a_iload_n (pc := 10) (i := 0) dJ6_bitCount_0f7a4_10 rfl rfl ?_
  refine a_ldc_w (pc := 11) (v := (858993459)) dJ6_bitCount_0f7a4_11 (li_RJ6_266 rfl) ?_
  refine a_iand (pc := 14) dJ6_bitCount_0f7a4_14 ?_
  refine a_iload_n (pc := 15) (i := 0) dJ6_bitCount_0f7a4_15 rfl rfl ?_
  refine a_iconst (pc := 16) (v := nI 2) dJ6_bitCount_0f7a4_16 (by decide) ?_
  refine a_iushr (pc := 17) dJ6_bitCount_0f7a4_17 ?_
  refine a_ldc_w (pc := 18) (v := (858993459)) dJ6_bitCount_0f7a4_18 (li_RJ6_266 rfl) ?_
  refine a_iand (pc := 21) dJ6_bitCount_0f7a4_21 ?_
  refine a_iadd (pc := 22) dJ6_bitCount_0f7a4_22 ?_
  refine a_top (show (.int (((bc1 x) &&& ((858993459))) + ((((bc1 x).toUInt32 >>> ((nI 2).toUInt32 &&& Int32.toUInt32 31)).toInt32) &&& ((858993459)))) : Value) = .int (bc2 (bc1 x)) from rfl) ?_
  refine a_istore_n (pc := 23) (i := 0) (ls' := [(0, .int (bc2 (bc1 x)))]) dJ6_bitCount_0f7a4_23 rfl (by decide) rfl ?_
  refine a_iload_n (pc := 24) (i := 0) dJ6_bitCount_0f7a4_24 rfl rfl ?_
  refine a_iload_n (pc := 25) (i := 0) dJ6_bitCount_0f7a4_25 rfl rfl ?_
  refine a_iconst (pc := 26) (v := nI 4) dJ6_bitCount_0f7a4_26 (by decide) ?_
  refine a_iushr (pc := 27) dJ6_bitCount_0f7a4_27 ?_
  refine a_iadd (pc := 28) dJ6_bitCount_0f7a4_28 ?_
  refine a_ldc_w (pc := 29) (v := (252645135)) dJ6_bitCount_0f7a4_29 (li_RJ6_267 rfl) ?_
  refine a_iand (pc := 32) dJ6_bitCount_0f7a4_32 ?_
  refine a_top (show (.int (((bc2 (bc1 x)) + (((bc2 (bc1 x)).toUInt32 >>> ((nI 4).toUInt32 &&& Int32.toUInt32 31)).toInt32)) &&& ((252645135))) : Value) = .int (bc3 (bc2 (bc1 x))) from rfl) ?_
  refine a_istore_n (pc := 33) (i := 0) (ls' := [(0, .int (bc3 (bc2 (bc1 x))))]) dJ6_bitCount_0f7a4_33 rfl (by decide) rfl ?_
  refine a_iload_n (pc := 34) (i := 0) dJ6_bitCount_0f7a4_34 rfl rfl ?_
  refine a_iload_n (pc := 35) (i := 0) dJ6_bitCount_0f7a4_35 rfl rfl ?_
  refine a_bipush (pc := 36) (v := nI 8) dJ6_bitCount_0f7a4_36 (by decide) ?_
  refine a_iushr (pc := 38) dJ6_bitCount_0f7a4_38 ?_
  refine a_iadd (pc := 39) dJ6_bitCount_0f7a4_39 ?_
  refine a_top (show (.int ((bc3 (bc2 (bc1 x))) + (((bc3 (bc2 (bc1 x))).toUInt32 >>> ((nI 8).toUInt32 &&& Int32.toUInt32 31)).toInt32)) : Value) = .int (bc4 (bc3 (bc2 (bc1 x)))) from rfl) ?_
  refine a_istore_n (pc := 40) (i := 0) (ls' := [(0, .int (bc4 (bc3 (bc2 (bc1 x)))))]) dJ6_bitCount_0f7a4_40 rfl (by decide) rfl ?_
  refine a_iload_n (pc := 41) (i := 0) dJ6_bitCount_0f7a4_41 rfl rfl ?_
  refine a_iload_n (pc := 42) (i := 0) dJ6_bitCount_0f7a4_42 rfl rfl ?_
  refine a_bipush (pc := 43) (v := nI 16) dJ6_bitCount_0f7a4_43 (by decide) ?_
  refine a_iushr (pc := 45) dJ6_bitCount_0f7a4_45 ?_
  refine a_iadd (pc := 46) dJ6_bitCount_0f7a4_46 ?_
  refine a_top (show (.int ((bc4 (bc3 (bc2 (bc1 x)))) + (((bc4 (bc3 (bc2 (bc1 x)))).toUInt32 >>> ((nI 16).toUInt32 &&& Int32.toUInt32 31)).toInt32)) : Value) = .int (bc5 (bc4 (bc3 (bc2 (bc1 x))))) from rfl) ?_
  refine a_istore_n (pc := 47) (i := 0) (ls' := [(0, .int (bc5 (bc4 (bc3 (bc2 (bc1 x))))))]) dJ6_bitCount_0f7a4_47 rfl (by decide) rfl ?_
  refine a_iload_n (pc := 48) (i := 0) dJ6_bitCount_0f7a4_48 rfl rfl ?_
  refine a_bipush (pc := 49) (v := nI 63) dJ6_bitCount_0f7a4_49 (by decide) ?_
  refine a_iand (pc := 51) dJ6_bitCount_0f7a4_51 ?_
  refine a_top (show (.int ((bc5 (bc4 (bc3 (bc2 (bc1 x))))) &&& (nI 63)) : Value) = .int (bcX x) from rfl) ?_
  exact a_ireturn (pc := 52) dJ6_bitCount_0f7a4_52 rfl rfl (⟨rfl, rfl⟩)
set_option maxHeartbeats 1500000 in
set_option maxRecDepth 100000 in
theorem x_missing {d k gg : Nat} {h : AH} {s : SH} (l : LW h k gg s) (h9 : sLen s ≤ 9) : AC mX6_missing (d + 7) 0 0 [.ref (aN k)] h (Qe (some (.int (nI (nMiss s)))) h) := by
  obtain ⟨⟨bs, pa, pn, pb, pg⟩, ⟨f0, f1, f4, f7, f8⟩, ⟨r9, r10, r5⟩, ⟨L, Z, rL, rZ, ⟨kL, pL⟩, ⟨kZ, pZ⟩, lin, siz⟩, ⟨M, rM, sM⟩, gon⟩ := id l
  have g := bs.1
  have gw := g.1
  have gh := g.2.1
  have gs := g.2.2.1
  have bw := bs.2.1
  have bh := bs.2.2.1
  have bl := bs.2.2.2
  have c12 := cells12 bs
  refine AC.of (by decide) rfl (Nat.le_of_ble_eq_true rfl) (fun X => ?_)
  show AW X mX6_missing (d + 7) 0 0 0 [(0, .ref (aN k))] [] h (Qe (some (.int (nI (nMiss s)))) h)
  have h5 : 2 ^ sLen s ≤ 2 ^ 9 := Nat.pow_le_pow_right (by decide) h9
  have h5 : 2 ^ sLen s ≤ 512 := h5
  refine a_iconst (pc := 0) (v := nI 0) dX6_missing_0 (by decide) ?_
  refine a_istore_n (pc := 1) (i := 1) (ls' := [(0, .ref (aN k)), (1, .int (nI 0))]) dX6_missing_1 rfl (by decide) rfl ?_
  refine a_iconst (pc := 2) (v := nI 0) dX6_missing_2 (by decide) ?_
  refine a_istore_n (pc := 3) (i := 2) (ls' := [(0, .ref (aN k)), (1, .int (nI 0)), (2, .int (nI 0))]) dX6_missing_3 rfl (by decide) rfl ?_
  have LO : ∀ (fu : Nat) (a m : Nat), a ≤ 2 ^ sLen s → (∀ x, x < a → cnt (TB x) (sLen s) ≤ cnt (NB (dMs s) (TB x) (sLen s)) 48 + m) → m ≤ nMiss s → 2 ^ sLen s - a < fu → AW X mX6_missing (d + 7) 0 0 4 [(0, .ref (aN k)), (1, .int (nI m)), (2, .int (nI a))] [] h (Qe (some (.int (nI (nMiss s)))) h) := by
    intro fu
    induction fu with
    | zero => intro a m ha hu hm hz; exact absurd hz (Nat.not_lt_zero _)
    | succ fu ih =>
      intro a m ha hu hm hz
      have hm9 : nMiss s ≤ sLen s := by rw [nMiss_eq]; omega
      refine a_iload_n (pc := 4) (i := 2) dX6_missing_4 rfl rfl ?_
      refine a_iconst (pc := 5) (v := nI 1) dX6_missing_5 (by decide) ?_
      refine a_aload_n (pc := 6) (i := 0) dX6_missing_6 rfl rfl ?_
      refine g_getR (pc := 7) (ci := 6) (k := 6) (b := M) dX6_missing_7 (lf_RX6_37 rfl) (by decide) rfl kd_a pa rM ?_
      refine g_vStr1 (pc := 10) (as := []) (b := M) (v := .int (nI ((msT s).length))) (h' := h) dX6_missing_10 (lc_RX6_78 rfl) ceJ0_length_8abf5 sM.ok (s_len (d := d + 5) sM) rfl rfl (Nat.le_of_ble_eq_true rfl) rfl ?_
      refine a_top (show (.int (nI ((msT s).length)) : Value) = .int (nI (sLen s)) from by rw [msT_len]) ?_
      refine a_ishl (pc := 13) dX6_missing_13 ?_
      refine a_top (show (.int ((nI 1) <<< ((nI (sLen s)) &&& 31)) : Value) = .int (nI (2 ^ sLen s)) from congrArg Value.int (sh_1 (by omega))) ?_
      refine n_icmp_ge (pc := 14) (tgt := 131) dX6_missing_14 (by decide) (by omega) (by omega) (fun c14 => ?_) (fun c14 => ?_)
      · have em : m = nMiss s := Nat.le_antisymm hm (miss_top (fun x hx => hu x (by omega)))
        refine a_iload_n (pc := 131) (i := 1) dX6_missing_131 rfl rfl ?_
        refine a_top (show (.int (nI m) : Value) = .int (nI (nMiss s)) from by rw [em]) ?_
        exact a_ireturn (pc := 132) dX6_missing_132 rfl rfl (⟨rfl, rfl⟩)
      · skip
        refine a_iconst (pc := 17) (v := nI 0) dX6_missing_17 (by decide) ?_
        refine a_istore_n (pc := 18) (i := 3) (ls' := [(0, .ref (aN k)), (1, .int (nI m)), (2, .int (nI a)), (3, .int (nI 0))]) dX6_missing_18 rfl (by decide) rfl ?_
        refine a_iconst (pc := 19) (v := nI 0) dX6_missing_19 (by decide) ?_
        refine a_istore (pc := 20) (i := 4) (ls' := [(0, .ref (aN k)), (1, .int (nI m)), (2, .int (nI a)), (3, .int (nI 0)), (4, .int (nI 0))]) dX6_missing_20 (by decide) rfl ?_
        have K114 : AW X mX6_missing (d + 7) 0 0 114 [(0, .ref (aN k)), (1, .int (nI m)), (2, .int (nI a)), (3, .int (nI (cnt (fun c => NBc s a c (sLen s)) (sCells s)))), (4, .int (nI (sCells s)))] [] h (Qe (some (.int (nI (nMiss s)))) h) := by
          have epop : bcX (nI a) = nI (cnt (TB a) (sLen s)) := by rw [bcX_eq (by omega), cnt_pop c14 h9]
          have hx9 := cnt_le (TB a) (sLen s)
          have hy := cnt_le (fun c => NBc s a c (sLen s)) (sCells s)
          refine a_iload_n (pc := 114) (i := 1) dX6_missing_114 rfl rfl ?_
          refine a_iload_n (pc := 115) (i := 2) dX6_missing_115 rfl rfl ?_
          refine a_vS1 (pc := 116) (as := [.int (nI a)]) (v := .int (bcX (nI a))) (h' := h) dX6_missing_116 (lc_RX6_89 rfl) ceJ6_bitCount_0f7a4 s_bitCount rfl rfl (Nat.le_of_ble_eq_true rfl) rfl ?_
          refine a_top (show (.int (bcX (nI a)) : Value) = .int (nI (cnt (TB a) (sLen s))) from by rw [epop]) ?_
          refine a_iload_n (pc := 119) (i := 3) dX6_missing_119 rfl rfl ?_
          refine a_isub (pc := 120) dX6_missing_120 ?_
          refine a_mmax (pc := 121) dX6_missing_121 (lc_RX6_95 rfl).1 (Nat.le_of_ble_eq_true rfl) ?_
          refine a_top (show (.int (cif (nI m < (nI (cnt (TB a) (sLen s))) - (nI (cnt (fun c => NBc s a c (sLen s)) (sCells s)))) ((nI (cnt (TB a) (sLen s))) - (nI (cnt (fun c => NBc s a c (sLen s)) (sCells s)))) (nI m)) : Value) = .int (nI (max m (cnt (TB a) (sLen s) - cnt (fun c => NBc s a c (sLen s)) (sCells s)))) from congrArg Value.int (mx_sub (by omega) (by omega) (by omega))) ?_
          refine a_istore_n (pc := 124) (i := 1) (ls' := [(0, .ref (aN k)), (1, .int (nI (max m (cnt (TB a) (sLen s) - cnt (fun c => NBc s a c (sLen s)) (sCells s))))), (2, .int (nI a)), (3, .int (nI (cnt (fun c => NBc s a c (sLen s)) (sCells s)))), (4, .int (nI (sCells s)))]) dX6_missing_124 rfl (by decide) rfl ?_
          refine n_iinc (pc := 125) (k := 1) (ls' := [(0, .ref (aN k)), (1, .int (nI (max m (cnt (TB a) (sLen s) - cnt (fun c => NBc s a c (sLen s)) (sCells s))))), (2, .int (nI (a + 1))), (3, .int (nI (cnt (fun c => NBc s a c (sLen s)) (sCells s)))), (4, .int (nI (sCells s)))]) dX6_missing_125 rfl (by decide) (by decide) rfl ?_
          refine a_goto (pc := 128) (tgt := 4) dX6_missing_128 (by decide) ?_
          refine a_drop (ls' := [(0, .ref (aN k)), (1, .int (nI (max m (cnt (TB a) (sLen s) - cnt (fun c => NBc s a c (sLen s)) (sCells s))))), (2, .int (nI (a + 1)))]) (by simp) ?_
          have en := nb_cells g a
          have hmx : max m (cnt (TB a) (sLen s) - cnt (fun c => NBc s a c (sLen s)) (sCells s)) ≤ nMiss s := Nat.max_le.mpr ⟨hm, by rw [en]; exact miss_le s a⟩
          have hl := Nat.le_max_left m (cnt (TB a) (sLen s) - cnt (fun c => NBc s a c (sLen s)) (sCells s))
          have hr := Nat.le_max_right m (cnt (TB a) (sLen s) - cnt (fun c => NBc s a c (sLen s)) (sCells s))
          exact ih (a + 1) _ (by omega) (fun x hx => by rcases Nat.lt_or_ge x a with z | z; exact Nat.le_trans (hu x z) (Nat.add_le_add_left hl _); rw [show x = a by omega, ← en]; omega) hmx (by omega)
        have LM : ∀ (fu : Nat) (c : Nat), c ≤ sCells s → sCells s - c < fu → AW X mX6_missing (d + 7) 0 0 22 [(0, .ref (aN k)), (1, .int (nI m)), (2, .int (nI a)), (3, .int (nI (cnt (fun c => NBc s a c (sLen s)) c))), (4, .int (nI c))] [] h (Qe (some (.int (nI (nMiss s)))) h) := by
          intro fu
          induction fu with
          | zero => intro c hc hz; exact absurd hz (Nat.not_lt_zero _)
          | succ fu ih =>
            intro c hc hz
            refine a_iload (pc := 22) (i := 4) dX6_missing_22 rfl ?_
            refine a_aload_n (pc := 24) (i := 0) dX6_missing_24 rfl rfl ?_
            refine g_vV1 (pc := 25) (as := []) (b := aN k) (ci := 6) (v := .int (nI (sCells s))) (h' := h) dX6_missing_25 (lc_RX6_82 rfl) ceX6_all kd_a pa (x_all l) rfl rfl (Nat.le_of_ble_eq_true rfl) rfl ?_
            refine n_icmp_ge (pc := 28) (tgt := 114) dX6_missing_28 (by decide) (by omega) (by omega) (fun c28 => ?_) (fun c28 => ?_)
            · have ec : c = sCells s := by omega
              rw [ec]
              exact K114
            · skip
              refine a_iconst (pc := 31) (v := nI 0) dX6_missing_31 (by decide) ?_
              refine a_istore (pc := 32) (i := 5) (ls' := [(0, .ref (aN k)), (1, .int (nI m)), (2, .int (nI a)), (3, .int (nI (cnt (fun c => NBc s a c (sLen s)) c))), (4, .int (nI c)), (5, .int (nI 0))]) dX6_missing_32 (by decide) rfl ?_
              refine a_iconst (pc := 34) (v := nI 0) dX6_missing_34 (by decide) ?_
              refine a_istore (pc := 35) (i := 6) (ls' := [(0, .ref (aN k)), (1, .int (nI m)), (2, .int (nI a)), (3, .int (nI (cnt (fun c => NBc s a c (sLen s)) c))), (4, .int (nI c)), (5, .int (nI 0)), (6, .int (nI 0))]) dX6_missing_35 (by decide) rfl ?_
              have K95 : AW X mX6_missing (d + 7) 0 0 95 [(0, .ref (aN k)), (1, .int (nI m)), (2, .int (nI a)), (3, .int (nI (cnt (fun c => NBc s a c (sLen s)) c))), (4, .int (nI c)), (5, .int (bi (NBc s a c (sLen s))))] [] h (Qe (some (.int (nI (nMiss s)))) h) := by
                have hw := cnt_le (fun c => NBc s a c (sLen s)) c
                refine a_iload_n (pc := 95) (i := 3) dX6_missing_95 rfl rfl ?_
                refine a_iload (pc := 96) (i := 5) dX6_missing_96 rfl ?_
                refine b_if_eq (pc := 98) (tgt := 105) dX6_missing_98 (by decide) (fun c98 => ?_) (fun c98 => ?_)
                · skip
                  refine a_iconst (pc := 105) (v := nI 0) dX6_missing_105 (by decide) ?_
                  refine n_iadd (pc := 106) dX6_missing_106 ?_
                  refine a_istore_n (pc := 107) (i := 3) (ls' := [(0, .ref (aN k)), (1, .int (nI m)), (2, .int (nI a)), (3, .int (nI ((cnt (fun c => NBc s a c (sLen s)) c) + 0))), (4, .int (nI c)), (5, .int (bi (NBc s a c (sLen s))))]) dX6_missing_107 rfl (by decide) rfl ?_
                  refine n_iinc (pc := 108) (k := 1) (ls' := [(0, .ref (aN k)), (1, .int (nI m)), (2, .int (nI a)), (3, .int (nI ((cnt (fun c => NBc s a c (sLen s)) c) + 0))), (4, .int (nI (c + 1))), (5, .int (bi (NBc s a c (sLen s))))]) dX6_missing_108 rfl (by decide) (by decide) rfl ?_
                  refine a_goto (pc := 111) (tgt := 22) dX6_missing_111 (by decide) ?_
                  refine a_drop (ls' := [(0, .ref (aN k)), (1, .int (nI m)), (2, .int (nI a)), (3, .int (nI ((cnt (fun c => NBc s a c (sLen s)) c) + 0))), (4, .int (nI (c + 1)))]) (by simp) ?_
                  refine a_locs (ls' := [(0, .ref (aN k)), (1, .int (nI m)), (2, .int (nI a)), (3, .int (nI (cnt (fun c => NBc s a c (sLen s)) (c + 1)))), (4, .int (nI (c + 1)))]) (by rw [cnt_no (P := fun c => NBc s a c (sLen s)) (n := c) c98]; rfl) ?_
                  exact ih (c + 1) (by omega) (by omega)
                · skip
                  refine a_iconst (pc := 101) (v := nI 1) dX6_missing_101 (by decide) ?_
                  refine a_goto (pc := 102) (tgt := 106) dX6_missing_102 (by decide) ?_
                  refine n_iadd (pc := 106) dX6_missing_106 ?_
                  refine a_istore_n (pc := 107) (i := 3) (ls' := [(0, .ref (aN k)), (1, .int (nI m)), (2, .int (nI a)), (3, .int (nI ((cnt (fun c => NBc s a c (sLen s)) c) + 1))), (4, .int (nI c)), (5, .int (bi (NBc s a c (sLen s))))]) dX6_missing_107 rfl (by decide) rfl ?_
                  refine n_iinc (pc := 108) (k := 1) (ls' := [(0, .ref (aN k)), (1, .int (nI m)), (2, .int (nI a)), (3, .int (nI ((cnt (fun c => NBc s a c (sLen s)) c) + 1))), (4, .int (nI (c + 1))), (5, .int (bi (NBc s a c (sLen s))))]) dX6_missing_108 rfl (by decide) (by decide) rfl ?_
                  refine a_goto (pc := 111) (tgt := 22) dX6_missing_111 (by decide) ?_
                  refine a_drop (ls' := [(0, .ref (aN k)), (1, .int (nI m)), (2, .int (nI a)), (3, .int (nI ((cnt (fun c => NBc s a c (sLen s)) c) + 1))), (4, .int (nI (c + 1)))]) (by simp) ?_
                  refine a_locs (ls' := [(0, .ref (aN k)), (1, .int (nI m)), (2, .int (nI a)), (3, .int (nI (cnt (fun c => NBc s a c (sLen s)) (c + 1)))), (4, .int (nI (c + 1)))]) (by rw [cnt_yes (P := fun c => NBc s a c (sLen s)) (n := c) c98]) ?_
                  exact ih (c + 1) (by omega) (by omega)
              have LJ : ∀ (fu : Nat) (j : Nat), j ≤ sLen s → sLen s - j < fu → AW X mX6_missing (d + 7) 0 0 37 [(0, .ref (aN k)), (1, .int (nI m)), (2, .int (nI a)), (3, .int (nI (cnt (fun c => NBc s a c (sLen s)) c))), (4, .int (nI c)), (5, .int (bi (NBc s a c j))), (6, .int (nI j))] [] h (Qe (some (.int (nI (nMiss s)))) h) := by
                intro fu
                induction fu with
                | zero => intro j hj hz; exact absurd hz (Nat.not_lt_zero _)
                | succ fu ih =>
                  intro j hj hz
                  have hb := bitN_lt a j
                  refine a_iload (pc := 37) (i := 6) dX6_missing_37 rfl ?_
                  refine a_aload_n (pc := 39) (i := 0) dX6_missing_39 rfl rfl ?_
                  refine g_getR (pc := 40) (ci := 6) (k := 6) (b := M) dX6_missing_40 (lf_RX6_37 rfl) (by decide) rfl kd_a pa rM ?_
                  refine g_vStr1 (pc := 43) (as := []) (b := M) (v := .int (nI ((msT s).length))) (h' := h) dX6_missing_43 (lc_RX6_78 rfl) ceJ0_length_8abf5 sM.ok (s_len (d := d + 5) sM) rfl rfl (Nat.le_of_ble_eq_true rfl) rfl ?_
                  refine a_top (show (.int (nI ((msT s).length)) : Value) = .int (nI (sLen s)) from by rw [msT_len]) ?_
                  refine n_icmp_ge (pc := 46) (tgt := 95) dX6_missing_46 (by decide) (by omega) (by omega) (fun c46 => ?_) (fun c46 => ?_)
                  · have ej : j = sLen s := by omega
                    refine a_drop (ls' := [(0, .ref (aN k)), (1, .int (nI m)), (2, .int (nI a)), (3, .int (nI (cnt (fun c => NBc s a c (sLen s)) c))), (4, .int (nI c)), (5, .int (bi (NBc s a c j)))]) (by simp) ?_
                    rw [ej]
                    exact K95
                  · skip
                    refine a_iload (pc := 49) (i := 5) dX6_missing_49 rfl ?_
                    refine b_if_ne (pc := 51) (tgt := 95) dX6_missing_51 (by decide) (fun c51 => ?_) (fun c51 => ?_)
                    · have hN : NBc s a c (sLen s) := by obtain ⟨j0, j1, j2⟩ := c51; exact ⟨j0, by omega, j2⟩
                      refine a_drop (ls' := [(0, .ref (aN k)), (1, .int (nI m)), (2, .int (nI a)), (3, .int (nI (cnt (fun c => NBc s a c (sLen s)) c))), (4, .int (nI c)), (5, .int (bi (NBc s a c j)))]) (by simp) ?_
                      rw [show bi (NBc s a c j) = bi (NBc s a c (sLen s)) from by rw [bi_t c51, bi_t hN]]
                      exact K95
                    · skip
                      refine a_iload_n (pc := 54) (i := 2) dX6_missing_54 rfl rfl ?_
                      refine a_iload (pc := 55) (i := 6) dX6_missing_55 rfl ?_
                      refine a_ishr (pc := 57) dX6_missing_57 ?_
                      refine a_iconst (pc := 58) (v := nI 1) dX6_missing_58 (by decide) ?_
                      refine a_iand (pc := 59) dX6_missing_59 ?_
                      refine a_top (show (.int (((nI a) >>> ((nI j) &&& 31)) &&& (nI 1)) : Value) = .int (nI (bitN a j)) from congrArg Value.int (sh_bit (by omega) (by omega))) ?_
                      refine a_iconst (pc := 60) (v := nI 1) dX6_missing_60 (by decide) ?_
                      refine n_icmp_ne (pc := 61) (tgt := 86) dX6_missing_61 (by decide) (by omega) (by omega) (fun c61 => ?_) (fun c61 => ?_)
                      · skip
                        have hq : ¬ NBc s a c (j + 1) := fun ⟨j0, j1, j2, j3⟩ => by rcases Nat.lt_or_ge j0 j with z | z; exact c51 ⟨j0, z, j2, j3⟩; exact c61 ((show j0 = j by omega) ▸ j2)
                        refine a_iconst (pc := 86) (v := nI 0) dX6_missing_86 (by decide) ?_
                        refine a_top (show (.int (nI 0) : Value) = .int (bi (NBc s a c (j + 1))) from by rw [bi_f hq]; rfl) ?_
                        refine a_istore (pc := 87) (i := 5) (ls' := [(0, .ref (aN k)), (1, .int (nI m)), (2, .int (nI a)), (3, .int (nI (cnt (fun c => NBc s a c (sLen s)) c))), (4, .int (nI c)), (5, .int (bi (NBc s a c (j + 1)))), (6, .int (nI j))]) dX6_missing_87 (by decide) rfl ?_
                        refine n_iinc (pc := 89) (k := 1) (ls' := [(0, .ref (aN k)), (1, .int (nI m)), (2, .int (nI a)), (3, .int (nI (cnt (fun c => NBc s a c (sLen s)) c))), (4, .int (nI c)), (5, .int (bi (NBc s a c (j + 1)))), (6, .int (nI (j + 1)))]) dX6_missing_89 rfl (by decide) (by decide) rfl ?_
                        refine a_goto (pc := 92) (tgt := 37) dX6_missing_92 (by decide) ?_
                        exact ih (j + 1) (by omega) (by omega)
                      · skip
                        refine a_aload_n (pc := 64) (i := 0) dX6_missing_64 rfl rfl ?_
                        refine a_iload (pc := 65) (i := 4) dX6_missing_65 rfl ?_
                        refine a_aload_n (pc := 67) (i := 0) dX6_missing_67 rfl rfl ?_
                        refine g_getR (pc := 68) (ci := 6) (k := 6) (b := M) dX6_missing_68 (lf_RX6_37 rfl) (by decide) rfl kd_a pa rM ?_
                        refine a_iload (pc := 71) (i := 6) dX6_missing_71 rfl ?_
                        refine g_vStr1 (pc := 73) (as := [.int (nI j)]) (b := M) (v := .int (nI ((msT s).getD j 0))) (h' := h) dX6_missing_73 (lc_RX6_59 rfl) ceJ0_charAt_5068e sM.ok (s_charAt (d := d + 3) sM (j := j) (by rw [msT_len]; omega)) rfl rfl (Nat.le_of_ble_eq_true rfl) rfl ?_
                        refine a_top (show (.int (nI ((msT s).getD j 0)) : Value) = .int (nI (97 + sMs s j)) from by rw [msT_at (by omega)]) ?_
                        refine g_vV1 (pc := 76) (as := [.int (nI c), .int (nI (97 + sMs s j))]) (b := aN k) (ci := 6) (v := .int (bi (hasP s c (97 + sMs s j) 2))) (h' := h) dX6_missing_76 (lc_RX6_85 rfl) ceX6_has kd_a pa (x_has (d := d) l (c := c) (x := 97 + sMs s j) (by omega) (by have := g.2.2.2.2.2.2 j; omega)) rfl rfl (Nat.le_of_ble_eq_true rfl) rfl ?_
                        refine b_if_eq (pc := 79) (tgt := 86) dX6_missing_79 (by decide) (fun c79 => ?_) (fun c79 => ?_)
                        · skip
                          have hq : ¬ NBc s a c (j + 1) := fun ⟨j0, j1, j2, j3⟩ => by rcases Nat.lt_or_ge j0 j with z | z; exact c51 ⟨j0, z, j2, j3⟩; exact c79 ((show j0 = j by omega) ▸ j3)
                          refine a_iconst (pc := 86) (v := nI 0) dX6_missing_86 (by decide) ?_
                          refine a_top (show (.int (nI 0) : Value) = .int (bi (NBc s a c (j + 1))) from by rw [bi_f hq]; rfl) ?_
                          refine a_istore (pc := 87) (i := 5) (ls' := [(0, .ref (aN k)), (1, .int (nI m)), (2, .int (nI a)), (3, .int (nI (cnt (fun c => NBc s a c (sLen s)) c))), (4, .int (nI c)), (5, .int (bi (NBc s a c (j + 1)))), (6, .int (nI j))]) dX6_missing_87 (by decide) rfl ?_
                          refine n_iinc (pc := 89) (k := 1) (ls' := [(0, .ref (aN k)), (1, .int (nI m)), (2, .int (nI a)), (3, .int (nI (cnt (fun c => NBc s a c (sLen s)) c))), (4, .int (nI c)), (5, .int (bi (NBc s a c (j + 1)))), (6, .int (nI (j + 1)))]) dX6_missing_89 rfl (by decide) (by decide) rfl ?_
                          refine a_goto (pc := 92) (tgt := 37) dX6_missing_92 (by decide) ?_
                          exact ih (j + 1) (by omega) (by omega)
                        · skip
                          have hq : NBc s a c (j + 1) := ⟨j, Nat.lt_succ_self j, c61, c79⟩
                          refine a_iconst (pc := 82) (v := nI 1) dX6_missing_82 (by decide) ?_
                          refine a_top (show (.int (nI 1) : Value) = .int (bi (NBc s a c (j + 1))) from by rw [bi_t hq]; rfl) ?_
                          refine a_goto (pc := 83) (tgt := 87) dX6_missing_83 (by decide) ?_
                          refine a_istore (pc := 87) (i := 5) (ls' := [(0, .ref (aN k)), (1, .int (nI m)), (2, .int (nI a)), (3, .int (nI (cnt (fun c => NBc s a c (sLen s)) c))), (4, .int (nI c)), (5, .int (bi (NBc s a c (j + 1)))), (6, .int (nI j))]) dX6_missing_87 (by decide) rfl ?_
                          refine n_iinc (pc := 89) (k := 1) (ls' := [(0, .ref (aN k)), (1, .int (nI m)), (2, .int (nI a)), (3, .int (nI (cnt (fun c => NBc s a c (sLen s)) c))), (4, .int (nI c)), (5, .int (bi (NBc s a c (j + 1)))), (6, .int (nI (j + 1)))]) dX6_missing_89 rfl (by decide) (by decide) rfl ?_
                          refine a_goto (pc := 92) (tgt := 37) dX6_missing_92 (by decide) ?_
                          exact ih (j + 1) (by omega) (by omega)
              refine a_locs (ls' := [(0, .ref (aN k)), (1, .int (nI m)), (2, .int (nI a)), (3, .int (nI (cnt (fun c => NBc s a c (sLen s)) c))), (4, .int (nI c)), (5, .int (bi (NBc s a c 0))), (6, .int (nI 0))]) (by rw [bi_f (fun z => by obtain ⟨j, hj, _⟩ := z; exact absurd hj (Nat.not_lt_zero j))]; rfl) ?_
              exact LJ (sLen s + 1) 0 (by omega) (by omega)
        refine a_locs (ls' := [(0, .ref (aN k)), (1, .int (nI m)), (2, .int (nI a)), (3, .int (nI (cnt (fun c => NBc s a c (sLen s)) 0))), (4, .int (nI 0))]) rfl ?_
        exact LM (sCells s + 1) 0 (by omega) (by omega)
  exact LO (2 ^ sLen s + 1) 0 0 (Nat.zero_le _) (fun x hx => absurd hx (Nat.not_lt_zero x)) (Nat.zero_le _) (Nat.lt_succ_of_le (Nat.sub_le _ _))
