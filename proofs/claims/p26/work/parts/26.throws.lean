/-! the places that throw -/
def thrNm : List String := ["java/lang/RuntimeException", "java/lang/Exception"]
def thrWd (own : String) (ik ic : Nat) (E : String) : Prop := Bundle.fit E = true ∧ (∀ n ∈ thrNm, Bundle.fit n = true) ∧ ∀ w ∈ Cond.classLink own ik E :: Cond.initialized E :: vx_at0 own ic E thrNm, w ∈ lw_tb2 ∧ goodWord w = true ∨ w ∈ tables_1 ∧ isNw w = true
theorem tw_RX4_63 : thrWd RX4 63 65 eIA := by
  refine ⟨by decide +kernel, by decide +kernel, by decide +kernel⟩
theorem tw_RX4_115 : thrWd RX4 115 117 eIO := by
  refine ⟨by decide +kernel, by decide +kernel, by decide +kernel⟩
theorem tw_RX4_164 : thrWd RX4 164 166 eNS := by
  refine ⟨by decide +kernel, by decide +kernel, by decide +kernel⟩
theorem tw_RX4_226 : thrWd RX4 226 228 eIS := by
  refine ⟨by decide +kernel, by decide +kernel, by decide +kernel⟩
theorem th_X4_load_12 : thrOK mX4_load 12 eIA := ⟨63, 65, thrNm, dX4_load_12, dX4_load_15, dX4_load_16, dX4_load_19, tw_RX4_63.1, tw_RX4_63.2.1, Nat.le_of_ble_eq_true rfl, tw_RX4_63.2.2, rfl⟩
theorem th_X4_state_112 : thrOK mX4_state 112 eIA := ⟨63, 65, thrNm, dX4_state_112, dX4_state_115, dX4_state_116, dX4_state_119, tw_RX4_63.1, tw_RX4_63.2.1, Nat.le_of_ble_eq_true rfl, tw_RX4_63.2.2, rfl⟩
theorem th_X4_letter_12 : thrOK mX4_letter 12 eIO := ⟨115, 117, thrNm, dX4_letter_12, dX4_letter_15, dX4_letter_16, dX4_letter_19, tw_RX4_115.1, tw_RX4_115.2.1, Nat.le_of_ble_eq_true rfl, tw_RX4_115.2.2, rfl⟩
theorem th_X4_place_12 : thrOK mX4_place 12 eIO := ⟨115, 117, thrNm, dX4_place_12, dX4_place_15, dX4_place_16, dX4_place_19, tw_RX4_115.1, tw_RX4_115.2.1, Nat.le_of_ble_eq_true rfl, tw_RX4_115.2.2, rfl⟩
theorem th_X4_place_147 : thrOK mX4_place 147 eIA := ⟨63, 65, thrNm, dX4_place_147, dX4_place_150, dX4_place_151, dX4_place_154, tw_RX4_63.1, tw_RX4_63.2.1, Nat.le_of_ble_eq_true rfl, tw_RX4_63.2.2, rfl⟩
theorem th_X4_stock_10 : thrOK mX4_stock 10 eIA := ⟨63, 65, thrNm, dX4_stock_10, dX4_stock_13, dX4_stock_14, dX4_stock_17, tw_RX4_63.1, tw_RX4_63.2.1, Nat.le_of_ble_eq_true rfl, tw_RX4_63.2.2, rfl⟩
theorem th_X4_stock_74 : thrOK mX4_stock 74 eIA := ⟨63, 65, thrNm, dX4_stock_74, dX4_stock_77, dX4_stock_78, dX4_stock_81, tw_RX4_63.1, tw_RX4_63.2.1, Nat.le_of_ble_eq_true rfl, tw_RX4_63.2.2, rfl⟩
theorem th_X4_message_11 : thrOK mX4_message 11 eNS := ⟨164, 166, thrNm, dX4_message_11, dX4_message_14, dX4_message_15, dX4_message_18, tw_RX4_164.1, tw_RX4_164.2.1, Nat.le_of_ble_eq_true rfl, tw_RX4_164.2.2, rfl⟩
theorem th_X4_cutOf_12 : thrOK mX4_cutOf 12 eNS := ⟨164, 166, thrNm, dX4_cutOf_12, dX4_cutOf_15, dX4_cutOf_16, dX4_cutOf_19, tw_RX4_164.1, tw_RX4_164.2.1, Nat.le_of_ble_eq_true rfl, tw_RX4_164.2.2, rfl⟩
theorem th_X4_cutOf_95 : thrOK mX4_cutOf 95 eIA := ⟨63, 65, thrNm, dX4_cutOf_95, dX4_cutOf_98, dX4_cutOf_99, dX4_cutOf_102, tw_RX4_63.1, tw_RX4_63.2.1, Nat.le_of_ble_eq_true rfl, tw_RX4_63.2.2, rfl⟩
theorem th_X4_longest_11 : thrOK mX4_longest 11 eNS := ⟨164, 166, thrNm, dX4_longest_11, dX4_longest_14, dX4_longest_15, dX4_longest_18, tw_RX4_164.1, tw_RX4_164.2.1, Nat.le_of_ble_eq_true rfl, tw_RX4_164.2.2, rfl⟩
theorem th_X4_tell_27 : thrOK mX4_tell 27 eIA := ⟨63, 65, thrNm, dX4_tell_27, dX4_tell_30, dX4_tell_31, dX4_tell_34, tw_RX4_63.1, tw_RX4_63.2.1, Nat.le_of_ble_eq_true rfl, tw_RX4_63.2.2, rfl⟩
theorem th_X4_cut_9 : thrOK mX4_cut 9 eIS := ⟨226, 228, thrNm, dX4_cut_9, dX4_cut_12, dX4_cut_13, dX4_cut_16, tw_RX4_226.1, tw_RX4_226.2.1, Nat.le_of_ble_eq_true rfl, tw_RX4_226.2.2, rfl⟩
theorem th_X4_snip_12 : thrOK mX4_snip 12 eIO := ⟨115, 117, thrNm, dX4_snip_12, dX4_snip_15, dX4_snip_16, dX4_snip_19, tw_RX4_115.1, tw_RX4_115.2.1, Nat.le_of_ble_eq_true rfl, tw_RX4_115.2.2, rfl⟩
theorem th_X4_snip_31 : thrOK mX4_snip 31 eIA := ⟨63, 65, thrNm, dX4_snip_31, dX4_snip_34, dX4_snip_35, dX4_snip_38, tw_RX4_63.1, tw_RX4_63.2.1, Nat.le_of_ble_eq_true rfl, tw_RX4_63.2.2, rfl⟩
theorem th_X4_snip_63 : thrOK mX4_snip 63 eIS := ⟨226, 228, thrNm, dX4_snip_63, dX4_snip_66, dX4_snip_67, dX4_snip_70, tw_RX4_226.1, tw_RX4_226.2.1, Nat.le_of_ble_eq_true rfl, tw_RX4_226.2.2, rfl⟩
theorem th_X4_least_11 : thrOK mX4_least 11 eIA := ⟨63, 65, thrNm, dX4_least_11, dX4_least_14, dX4_least_15, dX4_least_18, tw_RX4_63.1, tw_RX4_63.2.1, Nat.le_of_ble_eq_true rfl, tw_RX4_63.2.2, rfl⟩
theorem th_X4_mend_15 : thrOK mX4_mend 15 eIO := ⟨115, 117, thrNm, dX4_mend_15, dX4_mend_18, dX4_mend_19, dX4_mend_22, tw_RX4_115.1, tw_RX4_115.2.1, Nat.le_of_ble_eq_true rfl, tw_RX4_115.2.2, rfl⟩
theorem th_X4_mend_44 : thrOK mX4_mend 44 eIS := ⟨226, 228, thrNm, dX4_mend_44, dX4_mend_47, dX4_mend_48, dX4_mend_51, tw_RX4_226.1, tw_RX4_226.2.1, Nat.le_of_ble_eq_true rfl, tw_RX4_226.2.2, rfl⟩
