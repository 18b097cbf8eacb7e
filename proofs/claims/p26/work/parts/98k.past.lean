/-! what is remembered -/
/-- the state k changes back, of the first m -/
def pastK (t : ST) (k : Nat) : SH := tP t (tN t - 1 - k)
theorem rem_past {t : ST} (h8 : tN t ≤ 8) : tN (tRem t) = min (tN t + 1) 8 ∧ pastK (tRem t) 0 = tC t ∧ ∀ k, k + 1 < tN (tRem t) → pastK (tRem t) (k + 1) = pastK t k := by
  unfold tRem pastK
  by_cases e : tN t = 8
  · rw [if_pos e]
    refine ⟨by show 7 + 1 = _; rw [e]; rfl, ?_, fun k hk => ?_⟩
    · show (if 7 + 1 - 1 - 0 = 7 then tC t else tP t (7 + 1 - 1 - 0 + 1)) = tC t
      rw [if_pos (by omega)]
    · have hk : k + 1 < 7 + 1 := hk
      show (if 7 + 1 - 1 - (k + 1) = 7 then tC t else tP t (7 + 1 - 1 - (k + 1) + 1)) = tP t (tN t - 1 - k)
      rw [if_neg (by omega), show 7 + 1 - 1 - (k + 1) + 1 = tN t - 1 - k by omega]
  · rw [if_neg e]
    refine ⟨by show tN t + 1 = _; omega, ?_, fun k hk => ?_⟩
    · show (if tN t + 1 - 1 - 0 = tN t then tC t else tP t (tN t + 1 - 1 - 0)) = tC t
      rw [if_pos (by omega)]
    · have hk : k + 1 < tN t + 1 := hk
      show (if tN t + 1 - 1 - (k + 1) = tN t then tC t else tP t (tN t + 1 - 1 - (k + 1))) = tP t (tN t - 1 - k)
      rw [if_neg (by omega), show tN t + 1 - 1 - (k + 1) = tN t - 1 - k by omega]
theorem past_eq {t u : ST} (h : t.2.2 = u.2.2) : tN t = tN u ∧ ∀ k, pastK t k = pastK u k := by
  have hN : tN t = tN u := congrArg (fun z => z.2.1) h
  refine ⟨hN, fun k => ?_⟩
  unfold pastK
  rw [hN]
  exact congrFun (congrArg (fun z => z.2.2) h) _
/-- undo: the state one change back -/
theorem ou_yes {t : ST} (h : 0 < tN t) : oUndo t = (ri (nI (tN t - 1)), (pastK t 0, (tB t, tY t), tE t, (tN t - 1, tP t))) := by
  have e : oUndo t = _ := cif_f (show ¬ tN t = 0 by omega)
  exact e
theorem ou_past {t : ST} {k : Nat} (h : k + 1 < tN t) : pastK (oUndo t).2 k = pastK t (k + 1) ∧ tN (oUndo t).2 = tN t - 1 := by
  rw [ou_yes (by omega)]
  refine ⟨?_, rfl⟩
  show tP t (tN t - 1 - 1 - k) = tP t (tN t - 1 - (k + 1))
  rw [show tN t - 1 - 1 - k = tN t - 1 - (k + 1) by omega]
