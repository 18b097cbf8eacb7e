/-! the law: one operation at a time -/
def mLaw (nm : String) (hh : List (Nat × Nat × Nat × Nat)) : MT := (⟨RL, nm, "([I)Z"⟩, cL_law, 9, some .boolean, hh)
theorem exI_le : ∀ (Es : List String) (E : String), exI Es E ≤ Es.length
  | [], _ => Nat.le_refl _
  | F :: r, E => by
    unfold exI
    split
    · exact Nat.zero_le _
    · exact Nat.succ_le_succ (exI_le r E)
theorem RIe.kn {Es : List String} {v : Res} (h : RIe Es v) (hl : Es.length < 100) (hz : nI (kn Es v) = 0) : ∃ w, v = .inl (some (.int w)) := by
  rcases h with h | ⟨E, rfl, -⟩
  · exact h
  · have h1 := exI_le Es E
    have h2 : Jvm.Pilot.CLetterCutsLaw_law_r8195_25b604.kn Es (.inr E) = exI Es E + 1 := rfl
    rw [h2] at hz
    have h3 := (nI_eq (a := exI Es E + 1) (b := 0) (by omega) (by omega)).mp hz
    omega
theorem re_app {t : ST} {w0 w1 w2 w3 w4 : Int32} : RIe [] (oApp t w0 w1 w2 w3 w4).1 := by
  unfold oApp
  split
  · exact RIe.i
  · exact RIe.i
theorem re_undo {t : ST} : RIe [] (oUndo t).1 := RIe.p RIe.i RIe.i
theorem RIe.nil {v : Res} (h : RIe [] v) : ∃ w, v = .inl (some (.int w)) := by
  rcases h with h | ⟨E, -, h⟩
  · exact h
  · cases h
theorem lg_self {x : Int64} : lg_cmp x x = 0 := by
  unfold lg_cmp
  rw [if_neg (by simp [Int64.lt_iff_toInt_lt]), if_pos rfl]
theorem Fm.im {h h2 : AH} {t : ST} (f : Fm h h2) (m : IM h t) : IM h2 t := m.fm f.1 f.2.1 (fun a ha => f.2.2 a (Or.inl ha))
section RW77
variable {X : XT} {mt : MT} {d kc ks kc' ks' pc : Nat} {ls ls' : List (Nat × Value)} {st : List Value} {h : AH} {Q : Res → AH → Prop}
theorem AW.mono (k : AW X mt d kc ks pc ls st h Q) (h1 : kc ≤ kc') (h2 : ks ≤ ks') : AW X mt d kc' ks' pc ls st h Q := by
  intro p l e R s m args below meth c A G cls Z H locs cells slots ad lsA C F D hc hs2 hA
  exact k p l e R s m args below meth c A G cls Z H locs cells slots ad lsA C F D (by omega) (by omega) hA
theorem b_vR {mt' : MT} {idx n b ci : Nat} {as stk : List Value} {Q' : Res → AH → Prop} {w : Value} {R : AH → Prop} (hd : decode (mB mt) pc = .ok (.invokevirtual idx, 3)) (hl : Cond.methodLink (mN mt).cls idx (mN mt') ∈ lw_tbl ∧ Cond.instanceMethod (mN mt') ∈ lw_tbl ∧ Cond.selects (cR ci) (mN mt') (mN mt') ∈ lw_tbl) (hce : CE mt' n) (hs : shK b = some (.inl ci)) (hb : b < hN h) (hc' : AC mt' d 0 0 (.ref b :: as) h Q') (hn : as.length = n) (hstk : stk = as.reverse ++ .ref b :: st) (hst : (st.map fun v => v.category).sum ≤ 8)
    (hq : ∀ r h', Q' r h' → r = .inl (some w) ∧ hN h' = hN h ∧ R h') (kk : ∀ h', R h' → AW X mt (d + 1) kc ks (pc + 3) ls (w :: st) h' Q) : AW X mt (d + 1) kc ks pc ls stk h Q := by
  refine a_callV (mc := 0) (ms := 0) hd hl hce hs hb hc' hn hstk hst (fun E h' q => by have := (hq _ _ q).1; simp at this) (Or.inl fun v h' q => (hq _ _ q).2.1) (fun v h' q => ?_)
  have e := Sum.inl.inj (hq _ _ q).1
  subst e
  exact kk h' (hq _ _ q).2.2
theorem b_vQm {mt' : MT} {idx n b ci : Nat} {as stk : List Value} {Es : List String} {v : Res} {t : ST} (hd : decode (mB mt) pc = .ok (.invokevirtual idx, 3)) (hl : Cond.methodLink (mN mt).cls idx (mN mt') ∈ lw_tbl ∧ Cond.instanceMethod (mN mt') ∈ lw_tbl ∧ Cond.selects (cR ci) (mN mt') (mN mt') ∈ lw_tbl) (hce : CE mt' n) (hs : shK b = some (.inl ci)) (hb : b < hN h) (hc' : AC mt' d 0 0 (.ref b :: as) h (Qm Es v t h)) (hn : as.length = n) (hstk : stk = as.reverse ++ .ref b :: st) (hst : (st.map fun v => v.category).sum ≤ 8)
    (kk : ∀ u h', (∀ w, v = .inl (some (.int w)) → u = w) → hI h' 66 0 = nI (kn Es v) → MM h' t → Fm h h' → AW X mt (d + 1) kc ks (pc + 3) ls (.int u :: st) h' Q) : AW X mt (d + 1) kc ks pc ls stk h Q := by
  refine a_callV (mc := 0) (ms := 0) hd hl hce hs hb hc' hn hstk hst (fun E h' q => by obtain ⟨u, q, -⟩ := q; cases q) (Or.inl fun v h' q => by obtain ⟨u, -, -, -, -, q⟩ := q; exact q.1) (fun v' h' q => ?_)
  obtain ⟨u, q1, q2, q3, q4, q5⟩ := q
  cases q1
  exact kk u h' q2 q3 q4 q5
theorem b_sX {mt' : MT} {idx n : Nat} {as stk : List Value} {Es : List String} {v : Res} {t : ST} (hd : decode (mB mt) pc = .ok (.invokestatic idx, 3)) (hl : Cond.methodLink (mN mt).cls idx (mN mt') ∈ lw_tbl ∧ Cond.static (mN mt') ∈ lw_tbl) (hce : CEH mt' n) (hc' : AH' mt' d 1 6 as h (Ql Es v t h)) (hn : as.length = n) (hstk : stk = as.reverse ++ st) (hst : (st.map fun v => v.category).sum ≤ 8)
    (kk : ∀ h', (∀ w, v = .inl (some (.int w)) → hL h' 89 0 = w.toInt64) → IM h' t → Fo h h' → AW X mt (d + 1) kc ks (pc + 3) ls (.int (nI (kn Es v)) :: st) h' Q) : AW X mt (d + 1) (kc + 1) (ks + 6) pc ls stk h Q := by
  refine a_callSX hd hl hce hc' hn hstk hst (fun E h' q => by cases q.1) (fun v h' q => q.2.2.2.1) (fun v' h' q => ?_)
  obtain ⟨q1, q2, q3, q4⟩ := q
  cases q1
  exact kk h' q2 q3 q4
end RW77
set_option maxHeartbeats 1500000 in
set_option maxRecDepth 100000 in
theorem lwc_append {X : XT} {nm : String} {hh : List (Nat × Nat × Nat × Nat)} {kc ks j : Nat} {h : AH} {t : ST} {Q : Res → AH → Prop} (m : IM h t) (m2 : MM h t) (hj : 6 * j + 6 ≤ X.1.2.1) (hX : X.1.2.1 ≤ 3072) (K : ∀ t1 h1, IM h1 t1 → MM h1 t1 → AW X (mLaw nm hh) 2000 kc ks 1167 [(0, .ref 1000), (1, .ref 0), (2, .ref 66), (3, .ref 89), (4, .int (nI (6 * j)))] [] h1 Q) : AW X (mLaw nm hh) 2000 (kc + 1) (ks + 6) 148 [(0, .ref 1000), (1, .ref 0), (2, .ref 66), (3, .ref 89), (4, .int (nI (6 * j)))] [] h Q := by
  have hn := m.1.1.1
  refine AW.mono (kc := kc) (ks := ks) ?_ (Nat.le_add_right _ _) (Nat.le_add_right _ _)
  obtain ⟨u, hu⟩ : ∃ u, (oApp t (X.1.2.2 (6 * j + 1)) (X.1.2.2 (6 * j + 2)) (X.1.2.2 (6 * j + 3)) (X.1.2.2 (6 * j + 4)) (X.1.2.2 (6 * j + 5))).1 = .inl (some (.int u)) := RIe.nil re_app
  refine a_aload_n (pc := 148) (i := 1) dL_law_148 rfl rfl ?_
  refine a_aload_n (pc := 149) (i := 0) dL_law_149 rfl rfl ?_
  refine a_iload (pc := 150) (i := 4) dL_law_150 rfl ?_
  refine a_iconst (pc := 152) (v := nI 1) dL_law_152 (by decide) ?_
  refine n_iadd (pc := 153) dL_law_153 ?_
  refine a_sald (pc := 154) (j := ((6 * j) + 1)) dL_law_154 rfl (by omega) (by omega) (by omega) ?_
  refine a_aload_n (pc := 155) (i := 0) dL_law_155 rfl rfl ?_
  refine a_iload (pc := 156) (i := 4) dL_law_156 rfl ?_
  refine a_iconst (pc := 158) (v := nI 2) dL_law_158 (by decide) ?_
  refine n_iadd (pc := 159) dL_law_159 ?_
  refine a_sald (pc := 160) (j := ((6 * j) + 2)) dL_law_160 rfl (by omega) (by omega) (by omega) ?_
  refine a_aload_n (pc := 161) (i := 0) dL_law_161 rfl rfl ?_
  refine a_iload (pc := 162) (i := 4) dL_law_162 rfl ?_
  refine a_iconst (pc := 164) (v := nI 3) dL_law_164 (by decide) ?_
  refine n_iadd (pc := 165) dL_law_165 ?_
  refine a_sald (pc := 166) (j := ((6 * j) + 3)) dL_law_166 rfl (by omega) (by omega) (by omega) ?_
  refine a_aload_n (pc := 167) (i := 0) dL_law_167 rfl rfl ?_
  refine a_iload (pc := 168) (i := 4) dL_law_168 rfl ?_
  refine a_iconst (pc := 170) (v := nI 4) dL_law_170 (by decide) ?_
  refine n_iadd (pc := 171) dL_law_171 ?_
  refine a_sald (pc := 172) (j := ((6 * j) + 4)) dL_law_172 rfl (by omega) (by omega) (by omega) ?_
  refine a_aload_n (pc := 173) (i := 0) dL_law_173 rfl rfl ?_
  refine a_iload (pc := 174) (i := 4) dL_law_174 rfl ?_
  refine a_iconst (pc := 176) (v := nI 5) dL_law_176 (by decide) ?_
  refine n_iadd (pc := 177) dL_law_177 ?_
  refine a_sald (pc := 178) (j := ((6 * j) + 5)) dL_law_178 rfl (by omega) (by omega) (by omega) ?_
  refine b_vR (w := .int u) (R := fun h2 => IM h2 ((oApp t (X.1.2.2 (6 * j + 1)) (X.1.2.2 (6 * j + 2)) (X.1.2.2 (6 * j + 3)) (X.1.2.2 (6 * j + 4)) (X.1.2.2 (6 * j + 5))).2) ∧ Fw h h2) (pc := 179) (as := [.int (X.1.2.2 ((6 * j) + 1)), .int (X.1.2.2 ((6 * j) + 2)), .int (X.1.2.2 ((6 * j) + 3)), .int (X.1.2.2 ((6 * j) + 4)), .int (X.1.2.2 ((6 * j) + 5))]) (b := 0) (ci := 4) dL_law_179 (lc_RL_64 rfl) ceX4_append rfl (lt90 hn (shK_lt (show shK 0 = _ from rfl))) (sp_append (d := 1899) m) rfl rfl (Nat.le_of_ble_eq_true rfl) (fun r h2 q => ⟨q.1.trans hu, q.2.2.1, q.2⟩) (fun h1 q1 => ?_)
  obtain ⟨m1, f1⟩ := q1
  have m3 : MM h1 t := m2.fo m1.1.1 f1.fo
  have hn1 : hN h1 = 90 := m1.1.1.1
  refine a_aload_n (pc := 182) (i := 2) dL_law_182 rfl rfl ?_
  refine a_aload_n (pc := 183) (i := 0) dL_law_183 rfl rfl ?_
  refine a_iload (pc := 184) (i := 4) dL_law_184 rfl ?_
  refine a_iconst (pc := 186) (v := nI 1) dL_law_186 (by decide) ?_
  refine n_iadd (pc := 187) dL_law_187 ?_
  refine a_sald (pc := 188) (j := ((6 * j) + 1)) dL_law_188 rfl (by omega) (by omega) (by omega) ?_
  refine a_aload_n (pc := 189) (i := 0) dL_law_189 rfl rfl ?_
  refine a_iload (pc := 190) (i := 4) dL_law_190 rfl ?_
  refine a_iconst (pc := 192) (v := nI 2) dL_law_192 (by decide) ?_
  refine n_iadd (pc := 193) dL_law_193 ?_
  refine a_sald (pc := 194) (j := ((6 * j) + 2)) dL_law_194 rfl (by omega) (by omega) (by omega) ?_
  refine a_aload_n (pc := 195) (i := 0) dL_law_195 rfl rfl ?_
  refine a_iload (pc := 196) (i := 4) dL_law_196 rfl ?_
  refine a_iconst (pc := 198) (v := nI 3) dL_law_198 (by decide) ?_
  refine n_iadd (pc := 199) dL_law_199 ?_
  refine a_sald (pc := 200) (j := ((6 * j) + 3)) dL_law_200 rfl (by omega) (by omega) (by omega) ?_
  refine a_aload_n (pc := 201) (i := 0) dL_law_201 rfl rfl ?_
  refine a_iload (pc := 202) (i := 4) dL_law_202 rfl ?_
  refine a_iconst (pc := 204) (v := nI 4) dL_law_204 (by decide) ?_
  refine n_iadd (pc := 205) dL_law_205 ?_
  refine a_sald (pc := 206) (j := ((6 * j) + 4)) dL_law_206 rfl (by omega) (by omega) (by omega) ?_
  refine a_aload_n (pc := 207) (i := 0) dL_law_207 rfl rfl ?_
  refine a_iload (pc := 208) (i := 4) dL_law_208 rfl ?_
  refine a_iconst (pc := 210) (v := nI 5) dL_law_210 (by decide) ?_
  refine n_iadd (pc := 211) dL_law_211 ?_
  refine a_sald (pc := 212) (j := ((6 * j) + 5)) dL_law_212 rfl (by omega) (by omega) (by omega) ?_
  refine b_vR (w := .int u) (R := fun h2 => MM h2 ((oApp t (X.1.2.2 (6 * j + 1)) (X.1.2.2 (6 * j + 2)) (X.1.2.2 (6 * j + 3)) (X.1.2.2 (6 * j + 4)) (X.1.2.2 (6 * j + 5))).2) ∧ Fm h1 h2) (pc := 213) (as := [.int (X.1.2.2 ((6 * j) + 1)), .int (X.1.2.2 ((6 * j) + 2)), .int (X.1.2.2 ((6 * j) + 3)), .int (X.1.2.2 ((6 * j) + 4)), .int (X.1.2.2 ((6 * j) + 5))]) (b := 66) (ci := 5) dL_law_213 (lc_RL_68 rfl) ceX5_append rfl (lt90 hn1 (shK_lt (show shK 66 = _ from rfl))) (s5_append (d := 1699) m3) rfl rfl (Nat.le_of_ble_eq_true rfl) (fun r h3 q => by obtain ⟨u2, e1, e2, e3⟩ := q; rw [hu] at e2; exact ⟨e1.trans e2.symm, e3.2.1, e3⟩) (fun h2 q2 => ?_)
  obtain ⟨m4, f2⟩ := q2
  have m5 : IM h2 ((oApp t (X.1.2.2 (6 * j + 1)) (X.1.2.2 (6 * j + 2)) (X.1.2.2 (6 * j + 3)) (X.1.2.2 (6 * j + 4)) (X.1.2.2 (6 * j + 5))).2) := f2.im m1
  refine a_icmp_eq (pc := 216) (tgt := 1167) dL_law_216 (by decide) (fun c1 => ?_) (fun c1 => ?_)
  · skip
    exact K _ h2 m5 m4
  · exact absurd rfl c1
set_option maxHeartbeats 1500000 in
set_option maxRecDepth 100000 in
theorem lwc_load {X : XT} {nm : String} {hh : List (Nat × Nat × Nat × Nat)} {kc ks j : Nat} {h : AH} {t : ST} {Q : Res → AH → Prop} (m : IM h t) (m2 : MM h t) (hj : 6 * j + 6 ≤ X.1.2.1) (hX : X.1.2.1 ≤ 3072) (K : ∀ t1 h1, IM h1 t1 → MM h1 t1 → AW X (mLaw nm hh) 2000 kc ks 1167 [(0, .ref 1000), (1, .ref 0), (2, .ref 66), (3, .ref 89), (4, .int (nI (6 * j)))] [] h1 Q) : AW X (mLaw nm hh) 2000 (kc + 1) (ks + 6) 221 [(0, .ref 1000), (1, .ref 0), (2, .ref 66), (3, .ref 89), (4, .int (nI (6 * j)))] [] h Q := by
  have hn := m.1.1.1
  refine a_aload_n (pc := 221) (i := 1) dL_law_221 rfl rfl ?_
  refine a_aload_n (pc := 222) (i := 0) dL_law_222 rfl rfl ?_
  refine a_iload (pc := 223) (i := 4) dL_law_223 rfl ?_
  refine a_iconst (pc := 225) (v := nI 1) dL_law_225 (by decide) ?_
  refine n_iadd (pc := 226) dL_law_226 ?_
  refine a_sald (pc := 227) (j := ((6 * j) + 1)) dL_law_227 rfl (by omega) (by omega) (by omega) ?_
  refine a_aload_n (pc := 228) (i := 3) dL_law_228 rfl rfl ?_
  refine b_sX (pc := 229) (as := [.ref 0, .int (X.1.2.2 ((6 * j) + 1)), .ref 89]) dL_law_229 (lc_RL_69 rfl) ceL_load (sL_load (d := 1898) m) rfl rfl (Nat.le_of_ble_eq_true rfl) (fun h1 qo m1 f1 => ?_)
  have m3 : MM h1 t := m2.fo m1.1.1 f1
  have hn1 : hN h1 = 90 := m1.1.1.1
  obtain ⟨v, ev⟩ : ∃ v, v = (oLoad t (X.1.2.2 (6 * j + 1))).1 := ⟨_, rfl⟩
  rw [← ev] at qo ⊢
  refine a_istore (pc := 232) (i := 5) (ls' := [(0, .ref 1000), (1, .ref 0), (2, .ref 66), (3, .ref 89), (4, .int (nI (6 * j))), (5, .int (nI (kn [eIA] v)))]) dL_law_232 (Nat.le_of_ble_eq_true rfl) rfl ?_
  refine a_aload_n (pc := 234) (i := 2) dL_law_234 rfl rfl ?_
  refine a_aload_n (pc := 235) (i := 0) dL_law_235 rfl rfl ?_
  refine a_iload (pc := 236) (i := 4) dL_law_236 rfl ?_
  refine a_iconst (pc := 238) (v := nI 1) dL_law_238 (by decide) ?_
  refine n_iadd (pc := 239) dL_law_239 ?_
  refine a_sald (pc := 240) (j := ((6 * j) + 1)) dL_law_240 rfl (by omega) (by omega) (by omega) ?_
  refine b_vQm (pc := 241) (as := [.int (X.1.2.2 ((6 * j) + 1))]) (b := 66) (ci := 5) dL_law_241 (lc_RL_74 rfl) ceX5_load rfl (lt90 hn1 (shK_lt (show shK 66 = _ from rfl))) (s5_load (d := 1699) m3) rfl rfl (Nat.le_of_ble_eq_true rfl) (fun u h2 e1 e2 m4 f2 => ?_)
  rw [← ev] at e1 e2
  have m5 : IM h2 ((oLoad t (X.1.2.2 (6 * j + 1))).2) := f2.im m1
  have hn2 : hN h2 = 90 := m5.1.1.1
  refine a_istore (pc := 244) (i := 6) (ls' := [(0, .ref 1000), (1, .ref 0), (2, .ref 66), (3, .ref 89), (4, .int (nI (6 * j))), (5, .int (nI (kn [eIA] v))), (6, .int u)]) dL_law_244 (Nat.le_of_ble_eq_true rfl) rfl ?_
  refine a_aload_n (pc := 246) (i := 2) dL_law_246 rfl rfl ?_
  refine a_vV1 (pc := 247) (as := []) (b := 66) (ci := 5) (v := .int (hI h2 66 0)) (h' := h2) dL_law_247 (lc_RL_75 rfl) ceX5_thrown rfl (lt90 hn2 (shK_lt (show shK 66 = _ from rfl))) (s5_thrown hn2) rfl rfl (Nat.le_of_ble_eq_true rfl) rfl ?_
  refine a_top (show (.int (hI h2 66 0) : Value) = .int (nI (kn [eIA] v)) from congrArg Value.int e2) ?_
  refine a_iload (pc := 250) (i := 5) dL_law_250 rfl ?_
  refine a_icmp_eq (pc := 252) (tgt := 257) dL_law_252 (by decide) (fun c1 => ?_) (fun c1 => ?_)
  · skip
    refine a_iload (pc := 257) (i := 5) dL_law_257 rfl ?_
    refine a_if_ne (pc := 259) (tgt := 274) dL_law_259 (by decide) (fun c2 => ?_) (fun c2 => ?_)
    · skip
      refine a_goto (pc := 274) (tgt := 1167) dL_law_274 (by decide) ?_
      refine a_drop (ls' := [(0, .ref 1000), (1, .ref 0), (2, .ref 66), (3, .ref 89), (4, .int (nI (6 * j)))]) (by simp) ?_
      exact K _ h2 m5 m4
    · obtain ⟨w, hw⟩ : ∃ w, v = .inl (some (.int w)) := RIe.kn (by rw [ev]; exact re_load) (Nat.le_of_ble_eq_true rfl) c2
      have o1 : hL h2 89 0 = w.toInt64 := by rw [(f2.2.2 89 (Or.inr rfl)).2]; exact qo w hw
      have eu : u = w := e1 w hw
      refine a_aload_n (pc := 262) (i := 3) dL_law_262 rfl rfl ?_
      refine a_iconst (pc := 263) (v := nI 0) dL_law_263 (by decide) ?_
      refine a_lald (pc := 264) (j := 0) dL_law_264 rfl (lt90 hn2 (shK_lt (show shK 89 = _ from rfl))) rfl (by omega) ?_
      refine a_iload (pc := 265) (i := 6) dL_law_265 rfl ?_
      refine a_i2l (pc := 267) dL_law_267 ?_
      refine a_lcmp (pc := 268) dL_law_268 ?_
      refine a_if_eq (pc := 269) (tgt := 274) dL_law_269 (by decide) (fun c3 => ?_) (fun c3 => ?_)
      · skip
        refine a_goto (pc := 274) (tgt := 1167) dL_law_274 (by decide) ?_
        refine a_drop (ls' := [(0, .ref 1000), (1, .ref 0), (2, .ref 66), (3, .ref 89), (4, .int (nI (6 * j)))]) (by simp) ?_
        exact K _ h2 m5 m4
      · exact absurd (by rw [o1, eu]; exact lg_self) c3
  · exact absurd rfl c1
set_option maxHeartbeats 1500000 in
set_option maxRecDepth 100000 in
theorem lwc_errorOffset {X : XT} {nm : String} {hh : List (Nat × Nat × Nat × Nat)} {kc ks j : Nat} {h : AH} {t : ST} {Q : Res → AH → Prop} (m : IM h t) (m2 : MM h t) (hj : 6 * j + 6 ≤ X.1.2.1) (hX : X.1.2.1 ≤ 3072) (K : ∀ t1 h1, IM h1 t1 → MM h1 t1 → AW X (mLaw nm hh) 2000 kc ks 1167 [(0, .ref 1000), (1, .ref 0), (2, .ref 66), (3, .ref 89), (4, .int (nI (6 * j)))] [] h1 Q) : AW X (mLaw nm hh) 2000 (kc + 1) (ks + 6) 277 [(0, .ref 1000), (1, .ref 0), (2, .ref 66), (3, .ref 89), (4, .int (nI (6 * j)))] [] h Q := by
  have hn := m.1.1.1
  refine AW.mono (kc := kc) (ks := ks) ?_ (Nat.le_add_right _ _) (Nat.le_add_right _ _)
  refine a_aload_n (pc := 277) (i := 1) dL_law_277 rfl rfl ?_
  refine b_vR (w := .int (tE t)) (R := fun h2 => IM h2 t ∧ Fw h h2) (pc := 278) (as := []) (b := 0) (ci := 4) dL_law_278 (lc_RL_78 rfl) ceX4_errorOffset rfl (lt90 hn (shK_lt (show shK 0 = _ from rfl))) (sp_errorOffset (d := 1899) m) rfl rfl (Nat.le_of_ble_eq_true rfl) (fun r h2 q => ⟨q.1, q.2.2.1, q.2⟩) (fun h1 q1 => ?_)
  obtain ⟨m1, f1⟩ := q1
  have m3 : MM h1 t := m2.fo m1.1.1 f1.fo
  have hn1 : hN h1 = 90 := m1.1.1.1
  refine a_aload_n (pc := 281) (i := 2) dL_law_281 rfl rfl ?_
  refine b_vR (w := .int (tE t)) (R := fun h2 => MM h2 t ∧ Fm h1 h2) (pc := 282) (as := []) (b := 66) (ci := 5) dL_law_282 (lc_RL_81 rfl) ceX5_errorOffset rfl (lt90 hn1 (shK_lt (show shK 66 = _ from rfl))) (s5_errorOffset (d := 1699) m3) rfl rfl (Nat.le_of_ble_eq_true rfl) (fun r h3 q => ⟨q.1, q.2.2.1, q.2⟩) (fun h2 q2 => ?_)
  obtain ⟨m4, f2⟩ := q2
  have m5 : IM h2 t := f2.im m1
  refine a_icmp_eq (pc := 285) (tgt := 1167) dL_law_285 (by decide) (fun c1 => ?_) (fun c1 => ?_)
  · skip
    exact K _ h2 m5 m4
  · exact absurd rfl c1
set_option maxHeartbeats 1500000 in
set_option maxRecDepth 100000 in
theorem lwc_state {X : XT} {nm : String} {hh : List (Nat × Nat × Nat × Nat)} {kc ks j : Nat} {h : AH} {t : ST} {Q : Res → AH → Prop} (m : IM h t) (m2 : MM h t) (hj : 6 * j + 6 ≤ X.1.2.1) (hX : X.1.2.1 ≤ 3072) (K : ∀ t1 h1, IM h1 t1 → MM h1 t1 → AW X (mLaw nm hh) 2000 kc ks 1167 [(0, .ref 1000), (1, .ref 0), (2, .ref 66), (3, .ref 89), (4, .int (nI (6 * j)))] [] h1 Q) : AW X (mLaw nm hh) 2000 (kc + 1) (ks + 6) 290 [(0, .ref 1000), (1, .ref 0), (2, .ref 66), (3, .ref 89), (4, .int (nI (6 * j)))] [] h Q := by
  have hn := m.1.1.1
  refine a_aload_n (pc := 290) (i := 1) dL_law_290 rfl rfl ?_
  refine a_aload_n (pc := 291) (i := 0) dL_law_291 rfl rfl ?_
  refine a_iload (pc := 292) (i := 4) dL_law_292 rfl ?_
  refine a_iconst (pc := 294) (v := nI 1) dL_law_294 (by decide) ?_
  refine n_iadd (pc := 295) dL_law_295 ?_
  refine a_sald (pc := 296) (j := ((6 * j) + 1)) dL_law_296 rfl (by omega) (by omega) (by omega) ?_
  refine a_aload_n (pc := 297) (i := 3) dL_law_297 rfl rfl ?_
  refine b_sX (pc := 298) (as := [.ref 0, .int (X.1.2.2 ((6 * j) + 1)), .ref 89]) dL_law_298 (lc_RL_82 rfl) ceL_state (sL_state (d := 1898) m) rfl rfl (Nat.le_of_ble_eq_true rfl) (fun h1 qo m1 f1 => ?_)
  have m3 : MM h1 t := m2.fo m1.1.1 f1
  have hn1 : hN h1 = 90 := m1.1.1.1
  obtain ⟨v, ev⟩ : ∃ v, v = (rState (tC t) (X.1.2.2 (6 * j + 1))) := ⟨_, rfl⟩
  rw [← ev] at qo ⊢
  refine a_istore (pc := 301) (i := 5) (ls' := [(0, .ref 1000), (1, .ref 0), (2, .ref 66), (3, .ref 89), (4, .int (nI (6 * j))), (5, .int (nI (kn [eIA] v)))]) dL_law_301 (Nat.le_of_ble_eq_true rfl) rfl ?_
  refine a_aload_n (pc := 303) (i := 2) dL_law_303 rfl rfl ?_
  refine a_aload_n (pc := 304) (i := 0) dL_law_304 rfl rfl ?_
  refine a_iload (pc := 305) (i := 4) dL_law_305 rfl ?_
  refine a_iconst (pc := 307) (v := nI 1) dL_law_307 (by decide) ?_
  refine n_iadd (pc := 308) dL_law_308 ?_
  refine a_sald (pc := 309) (j := ((6 * j) + 1)) dL_law_309 rfl (by omega) (by omega) (by omega) ?_
  refine b_vQm (pc := 310) (as := [.int (X.1.2.2 ((6 * j) + 1))]) (b := 66) (ci := 5) dL_law_310 (lc_RL_84 rfl) ceX5_state rfl (lt90 hn1 (shK_lt (show shK 66 = _ from rfl))) (s5_state (d := 1699) m3) rfl rfl (Nat.le_of_ble_eq_true rfl) (fun u h2 e1 e2 m4 f2 => ?_)
  rw [← ev] at e1 e2
  have m5 : IM h2 t := f2.im m1
  have hn2 : hN h2 = 90 := m5.1.1.1
  refine a_istore (pc := 313) (i := 6) (ls' := [(0, .ref 1000), (1, .ref 0), (2, .ref 66), (3, .ref 89), (4, .int (nI (6 * j))), (5, .int (nI (kn [eIA] v))), (6, .int u)]) dL_law_313 (Nat.le_of_ble_eq_true rfl) rfl ?_
  refine a_aload_n (pc := 315) (i := 2) dL_law_315 rfl rfl ?_
  refine a_vV1 (pc := 316) (as := []) (b := 66) (ci := 5) (v := .int (hI h2 66 0)) (h' := h2) dL_law_316 (lc_RL_75 rfl) ceX5_thrown rfl (lt90 hn2 (shK_lt (show shK 66 = _ from rfl))) (s5_thrown hn2) rfl rfl (Nat.le_of_ble_eq_true rfl) rfl ?_
  refine a_top (show (.int (hI h2 66 0) : Value) = .int (nI (kn [eIA] v)) from congrArg Value.int e2) ?_
  refine a_iload (pc := 319) (i := 5) dL_law_319 rfl ?_
  refine a_icmp_eq (pc := 321) (tgt := 326) dL_law_321 (by decide) (fun c1 => ?_) (fun c1 => ?_)
  · skip
    refine a_iload (pc := 326) (i := 5) dL_law_326 rfl ?_
    refine a_if_ne (pc := 328) (tgt := 343) dL_law_328 (by decide) (fun c2 => ?_) (fun c2 => ?_)
    · skip
      refine a_goto (pc := 343) (tgt := 1167) dL_law_343 (by decide) ?_
      refine a_drop (ls' := [(0, .ref 1000), (1, .ref 0), (2, .ref 66), (3, .ref 89), (4, .int (nI (6 * j)))]) (by simp) ?_
      exact K _ h2 m5 m4
    · obtain ⟨w, hw⟩ : ∃ w, v = .inl (some (.int w)) := RIe.kn (by rw [ev]; exact re_state) (Nat.le_of_ble_eq_true rfl) c2
      have o1 : hL h2 89 0 = w.toInt64 := by rw [(f2.2.2 89 (Or.inr rfl)).2]; exact qo w hw
      have eu : u = w := e1 w hw
      refine a_aload_n (pc := 331) (i := 3) dL_law_331 rfl rfl ?_
      refine a_iconst (pc := 332) (v := nI 0) dL_law_332 (by decide) ?_
      refine a_lald (pc := 333) (j := 0) dL_law_333 rfl (lt90 hn2 (shK_lt (show shK 89 = _ from rfl))) rfl (by omega) ?_
      refine a_iload (pc := 334) (i := 6) dL_law_334 rfl ?_
      refine a_i2l (pc := 336) dL_law_336 ?_
      refine a_lcmp (pc := 337) dL_law_337 ?_
      refine a_if_eq (pc := 338) (tgt := 343) dL_law_338 (by decide) (fun c3 => ?_) (fun c3 => ?_)
      · skip
        refine a_goto (pc := 343) (tgt := 1167) dL_law_343 (by decide) ?_
        refine a_drop (ls' := [(0, .ref 1000), (1, .ref 0), (2, .ref 66), (3, .ref 89), (4, .int (nI (6 * j)))]) (by simp) ?_
        exact K _ h2 m5 m4
      · exact absurd (by rw [o1, eu]; exact lg_self) c3
  · exact absurd rfl c1
set_option maxHeartbeats 1500000 in
set_option maxRecDepth 100000 in
theorem lwc_letter {X : XT} {nm : String} {hh : List (Nat × Nat × Nat × Nat)} {kc ks j : Nat} {h : AH} {t : ST} {Q : Res → AH → Prop} (m : IM h t) (m2 : MM h t) (hj : 6 * j + 6 ≤ X.1.2.1) (hX : X.1.2.1 ≤ 3072) (K : ∀ t1 h1, IM h1 t1 → MM h1 t1 → AW X (mLaw nm hh) 2000 kc ks 1167 [(0, .ref 1000), (1, .ref 0), (2, .ref 66), (3, .ref 89), (4, .int (nI (6 * j)))] [] h1 Q) : AW X (mLaw nm hh) 2000 (kc + 1) (ks + 6) 346 [(0, .ref 1000), (1, .ref 0), (2, .ref 66), (3, .ref 89), (4, .int (nI (6 * j)))] [] h Q := by
  have hn := m.1.1.1
  refine a_aload_n (pc := 346) (i := 1) dL_law_346 rfl rfl ?_
  refine a_aload_n (pc := 347) (i := 0) dL_law_347 rfl rfl ?_
  refine a_iload (pc := 348) (i := 4) dL_law_348 rfl ?_
  refine a_iconst (pc := 350) (v := nI 1) dL_law_350 (by decide) ?_
  refine n_iadd (pc := 351) dL_law_351 ?_
  refine a_sald (pc := 352) (j := ((6 * j) + 1)) dL_law_352 rfl (by omega) (by omega) (by omega) ?_
  refine a_aload_n (pc := 353) (i := 0) dL_law_353 rfl rfl ?_
  refine a_iload (pc := 354) (i := 4) dL_law_354 rfl ?_
  refine a_iconst (pc := 356) (v := nI 2) dL_law_356 (by decide) ?_
  refine n_iadd (pc := 357) dL_law_357 ?_
  refine a_sald (pc := 358) (j := ((6 * j) + 2)) dL_law_358 rfl (by omega) (by omega) (by omega) ?_
  refine a_aload_n (pc := 359) (i := 3) dL_law_359 rfl rfl ?_
  refine b_sX (pc := 360) (as := [.ref 0, .int (X.1.2.2 ((6 * j) + 1)), .int (X.1.2.2 ((6 * j) + 2)), .ref 89]) dL_law_360 (lc_RL_85 rfl) ceL_letter (sL_letter (d := 1898) m) rfl rfl (Nat.le_of_ble_eq_true rfl) (fun h1 qo m1 f1 => ?_)
  have m3 : MM h1 t := m2.fo m1.1.1 f1
  have hn1 : hN h1 = 90 := m1.1.1.1
  obtain ⟨v, ev⟩ : ∃ v, v = (rLetter (tC t) (X.1.2.2 (6 * j + 1)) (X.1.2.2 (6 * j + 2))) := ⟨_, rfl⟩
  rw [← ev] at qo ⊢
  refine a_istore (pc := 363) (i := 5) (ls' := [(0, .ref 1000), (1, .ref 0), (2, .ref 66), (3, .ref 89), (4, .int (nI (6 * j))), (5, .int (nI (kn [eIO] v)))]) dL_law_363 (Nat.le_of_ble_eq_true rfl) rfl ?_
  refine a_aload_n (pc := 365) (i := 2) dL_law_365 rfl rfl ?_
  refine a_aload_n (pc := 366) (i := 0) dL_law_366 rfl rfl ?_
  refine a_iload (pc := 367) (i := 4) dL_law_367 rfl ?_
  refine a_iconst (pc := 369) (v := nI 1) dL_law_369 (by decide) ?_
  refine n_iadd (pc := 370) dL_law_370 ?_
  refine a_sald (pc := 371) (j := ((6 * j) + 1)) dL_law_371 rfl (by omega) (by omega) (by omega) ?_
  refine a_aload_n (pc := 372) (i := 0) dL_law_372 rfl rfl ?_
  refine a_iload (pc := 373) (i := 4) dL_law_373 rfl ?_
  refine a_iconst (pc := 375) (v := nI 2) dL_law_375 (by decide) ?_
  refine n_iadd (pc := 376) dL_law_376 ?_
  refine a_sald (pc := 377) (j := ((6 * j) + 2)) dL_law_377 rfl (by omega) (by omega) (by omega) ?_
  refine b_vQm (pc := 378) (as := [.int (X.1.2.2 ((6 * j) + 1)), .int (X.1.2.2 ((6 * j) + 2))]) (b := 66) (ci := 5) dL_law_378 (lc_RL_88 rfl) ceX5_letter rfl (lt90 hn1 (shK_lt (show shK 66 = _ from rfl))) (s5_letter (d := 1699) m3) rfl rfl (Nat.le_of_ble_eq_true rfl) (fun u h2 e1 e2 m4 f2 => ?_)
  rw [← ev] at e1 e2
  have m5 : IM h2 t := f2.im m1
  have hn2 : hN h2 = 90 := m5.1.1.1
  refine a_istore (pc := 381) (i := 6) (ls' := [(0, .ref 1000), (1, .ref 0), (2, .ref 66), (3, .ref 89), (4, .int (nI (6 * j))), (5, .int (nI (kn [eIO] v))), (6, .int u)]) dL_law_381 (Nat.le_of_ble_eq_true rfl) rfl ?_
  refine a_aload_n (pc := 383) (i := 2) dL_law_383 rfl rfl ?_
  refine a_vV1 (pc := 384) (as := []) (b := 66) (ci := 5) (v := .int (hI h2 66 0)) (h' := h2) dL_law_384 (lc_RL_75 rfl) ceX5_thrown rfl (lt90 hn2 (shK_lt (show shK 66 = _ from rfl))) (s5_thrown hn2) rfl rfl (Nat.le_of_ble_eq_true rfl) rfl ?_
  refine a_top (show (.int (hI h2 66 0) : Value) = .int (nI (kn [eIO] v)) from congrArg Value.int e2) ?_
  refine a_iload (pc := 387) (i := 5) dL_law_387 rfl ?_
  refine a_icmp_eq (pc := 389) (tgt := 394) dL_law_389 (by decide) (fun c1 => ?_) (fun c1 => ?_)
  · skip
    refine a_iload (pc := 394) (i := 5) dL_law_394 rfl ?_
    refine a_if_ne (pc := 396) (tgt := 411) dL_law_396 (by decide) (fun c2 => ?_) (fun c2 => ?_)
    · skip
      refine a_goto (pc := 411) (tgt := 1167) dL_law_411 (by decide) ?_
      refine a_drop (ls' := [(0, .ref 1000), (1, .ref 0), (2, .ref 66), (3, .ref 89), (4, .int (nI (6 * j)))]) (by simp) ?_
      exact K _ h2 m5 m4
    · obtain ⟨w, hw⟩ : ∃ w, v = .inl (some (.int w)) := RIe.kn (by rw [ev]; exact re_letter) (Nat.le_of_ble_eq_true rfl) c2
      have o1 : hL h2 89 0 = w.toInt64 := by rw [(f2.2.2 89 (Or.inr rfl)).2]; exact qo w hw
      have eu : u = w := e1 w hw
      refine a_aload_n (pc := 399) (i := 3) dL_law_399 rfl rfl ?_
      refine a_iconst (pc := 400) (v := nI 0) dL_law_400 (by decide) ?_
      refine a_lald (pc := 401) (j := 0) dL_law_401 rfl (lt90 hn2 (shK_lt (show shK 89 = _ from rfl))) rfl (by omega) ?_
      refine a_iload (pc := 402) (i := 6) dL_law_402 rfl ?_
      refine a_i2l (pc := 404) dL_law_404 ?_
      refine a_lcmp (pc := 405) dL_law_405 ?_
      refine a_if_eq (pc := 406) (tgt := 411) dL_law_406 (by decide) (fun c3 => ?_) (fun c3 => ?_)
      · skip
        refine a_goto (pc := 411) (tgt := 1167) dL_law_411 (by decide) ?_
        refine a_drop (ls' := [(0, .ref 1000), (1, .ref 0), (2, .ref 66), (3, .ref 89), (4, .int (nI (6 * j)))]) (by simp) ?_
        exact K _ h2 m5 m4
      · exact absurd (by rw [o1, eu]; exact lg_self) c3
  · exact absurd rfl c1
set_option maxHeartbeats 1500000 in
set_option maxRecDepth 100000 in
theorem lwc_place {X : XT} {nm : String} {hh : List (Nat × Nat × Nat × Nat)} {kc ks j : Nat} {h : AH} {t : ST} {Q : Res → AH → Prop} (m : IM h t) (m2 : MM h t) (hj : 6 * j + 6 ≤ X.1.2.1) (hX : X.1.2.1 ≤ 3072) (K : ∀ t1 h1, IM h1 t1 → MM h1 t1 → AW X (mLaw nm hh) 2000 kc ks 1167 [(0, .ref 1000), (1, .ref 0), (2, .ref 66), (3, .ref 89), (4, .int (nI (6 * j)))] [] h1 Q) : AW X (mLaw nm hh) 2000 (kc + 1) (ks + 6) 414 [(0, .ref 1000), (1, .ref 0), (2, .ref 66), (3, .ref 89), (4, .int (nI (6 * j)))] [] h Q := by
  have hn := m.1.1.1
  refine a_aload_n (pc := 414) (i := 1) dL_law_414 rfl rfl ?_
  refine a_aload_n (pc := 415) (i := 0) dL_law_415 rfl rfl ?_
  refine a_iload (pc := 416) (i := 4) dL_law_416 rfl ?_
  refine a_iconst (pc := 418) (v := nI 1) dL_law_418 (by decide) ?_
  refine n_iadd (pc := 419) dL_law_419 ?_
  refine a_sald (pc := 420) (j := ((6 * j) + 1)) dL_law_420 rfl (by omega) (by omega) (by omega) ?_
  refine a_aload_n (pc := 421) (i := 0) dL_law_421 rfl rfl ?_
  refine a_iload (pc := 422) (i := 4) dL_law_422 rfl ?_
  refine a_iconst (pc := 424) (v := nI 2) dL_law_424 (by decide) ?_
  refine n_iadd (pc := 425) dL_law_425 ?_
  refine a_sald (pc := 426) (j := ((6 * j) + 2)) dL_law_426 rfl (by omega) (by omega) (by omega) ?_
  refine a_aload_n (pc := 427) (i := 0) dL_law_427 rfl rfl ?_
  refine a_iload (pc := 428) (i := 4) dL_law_428 rfl ?_
  refine a_iconst (pc := 430) (v := nI 3) dL_law_430 (by decide) ?_
  refine n_iadd (pc := 431) dL_law_431 ?_
  refine a_sald (pc := 432) (j := ((6 * j) + 3)) dL_law_432 rfl (by omega) (by omega) (by omega) ?_
  refine a_aload_n (pc := 433) (i := 3) dL_law_433 rfl rfl ?_
  refine b_sX (pc := 434) (as := [.ref 0, .int (X.1.2.2 ((6 * j) + 1)), .int (X.1.2.2 ((6 * j) + 2)), .int (X.1.2.2 ((6 * j) + 3)), .ref 89]) dL_law_434 (lc_RL_89 rfl) ceL_place (sL_place (d := 1898) m) rfl rfl (Nat.le_of_ble_eq_true rfl) (fun h1 qo m1 f1 => ?_)
  have m3 : MM h1 t := m2.fo m1.1.1 f1
  have hn1 : hN h1 = 90 := m1.1.1.1
  obtain ⟨v, ev⟩ : ∃ v, v = (rPlace (tC t) (X.1.2.2 (6 * j + 1)) (X.1.2.2 (6 * j + 2)) (X.1.2.2 (6 * j + 3))) := ⟨_, rfl⟩
  rw [← ev] at qo ⊢
  refine a_istore (pc := 437) (i := 5) (ls' := [(0, .ref 1000), (1, .ref 0), (2, .ref 66), (3, .ref 89), (4, .int (nI (6 * j))), (5, .int (nI (kn [eIO, eIA] v)))]) dL_law_437 (Nat.le_of_ble_eq_true rfl) rfl ?_
  refine a_aload_n (pc := 439) (i := 2) dL_law_439 rfl rfl ?_
  refine a_aload_n (pc := 440) (i := 0) dL_law_440 rfl rfl ?_
  refine a_iload (pc := 441) (i := 4) dL_law_441 rfl ?_
  refine a_iconst (pc := 443) (v := nI 1) dL_law_443 (by decide) ?_
  refine n_iadd (pc := 444) dL_law_444 ?_
  refine a_sald (pc := 445) (j := ((6 * j) + 1)) dL_law_445 rfl (by omega) (by omega) (by omega) ?_
  refine a_aload_n (pc := 446) (i := 0) dL_law_446 rfl rfl ?_
  refine a_iload (pc := 447) (i := 4) dL_law_447 rfl ?_
  refine a_iconst (pc := 449) (v := nI 2) dL_law_449 (by decide) ?_
  refine n_iadd (pc := 450) dL_law_450 ?_
  refine a_sald (pc := 451) (j := ((6 * j) + 2)) dL_law_451 rfl (by omega) (by omega) (by omega) ?_
  refine a_aload_n (pc := 452) (i := 0) dL_law_452 rfl rfl ?_
  refine a_iload (pc := 453) (i := 4) dL_law_453 rfl ?_
  refine a_iconst (pc := 455) (v := nI 3) dL_law_455 (by decide) ?_
  refine n_iadd (pc := 456) dL_law_456 ?_
  refine a_sald (pc := 457) (j := ((6 * j) + 3)) dL_law_457 rfl (by omega) (by omega) (by omega) ?_
  refine b_vQm (pc := 458) (as := [.int (X.1.2.2 ((6 * j) + 1)), .int (X.1.2.2 ((6 * j) + 2)), .int (X.1.2.2 ((6 * j) + 3))]) (b := 66) (ci := 5) dL_law_458 (lc_RL_92 rfl) ceX5_place rfl (lt90 hn1 (shK_lt (show shK 66 = _ from rfl))) (s5_place (d := 1699) m3) rfl rfl (Nat.le_of_ble_eq_true rfl) (fun u h2 e1 e2 m4 f2 => ?_)
  rw [← ev] at e1 e2
  have m5 : IM h2 t := f2.im m1
  have hn2 : hN h2 = 90 := m5.1.1.1
  refine a_istore (pc := 461) (i := 6) (ls' := [(0, .ref 1000), (1, .ref 0), (2, .ref 66), (3, .ref 89), (4, .int (nI (6 * j))), (5, .int (nI (kn [eIO, eIA] v))), (6, .int u)]) dL_law_461 (Nat.le_of_ble_eq_true rfl) rfl ?_
  refine a_aload_n (pc := 463) (i := 2) dL_law_463 rfl rfl ?_
  refine a_vV1 (pc := 464) (as := []) (b := 66) (ci := 5) (v := .int (hI h2 66 0)) (h' := h2) dL_law_464 (lc_RL_75 rfl) ceX5_thrown rfl (lt90 hn2 (shK_lt (show shK 66 = _ from rfl))) (s5_thrown hn2) rfl rfl (Nat.le_of_ble_eq_true rfl) rfl ?_
  refine a_top (show (.int (hI h2 66 0) : Value) = .int (nI (kn [eIO, eIA] v)) from congrArg Value.int e2) ?_
  refine a_iload (pc := 467) (i := 5) dL_law_467 rfl ?_
  refine a_icmp_eq (pc := 469) (tgt := 474) dL_law_469 (by decide) (fun c1 => ?_) (fun c1 => ?_)
  · skip
    refine a_iload (pc := 474) (i := 5) dL_law_474 rfl ?_
    refine a_if_ne (pc := 476) (tgt := 491) dL_law_476 (by decide) (fun c2 => ?_) (fun c2 => ?_)
    · skip
      refine a_goto (pc := 491) (tgt := 1167) dL_law_491 (by decide) ?_
      refine a_drop (ls' := [(0, .ref 1000), (1, .ref 0), (2, .ref 66), (3, .ref 89), (4, .int (nI (6 * j)))]) (by simp) ?_
      exact K _ h2 m5 m4
    · obtain ⟨w, hw⟩ : ∃ w, v = .inl (some (.int w)) := RIe.kn (by rw [ev]; exact re_place) (Nat.le_of_ble_eq_true rfl) c2
      have o1 : hL h2 89 0 = w.toInt64 := by rw [(f2.2.2 89 (Or.inr rfl)).2]; exact qo w hw
      have eu : u = w := e1 w hw
      refine a_aload_n (pc := 479) (i := 3) dL_law_479 rfl rfl ?_
      refine a_iconst (pc := 480) (v := nI 0) dL_law_480 (by decide) ?_
      refine a_lald (pc := 481) (j := 0) dL_law_481 rfl (lt90 hn2 (shK_lt (show shK 89 = _ from rfl))) rfl (by omega) ?_
      refine a_iload (pc := 482) (i := 6) dL_law_482 rfl ?_
      refine a_i2l (pc := 484) dL_law_484 ?_
      refine a_lcmp (pc := 485) dL_law_485 ?_
      refine a_if_eq (pc := 486) (tgt := 491) dL_law_486 (by decide) (fun c3 => ?_) (fun c3 => ?_)
      · skip
        refine a_goto (pc := 491) (tgt := 1167) dL_law_491 (by decide) ?_
        refine a_drop (ls' := [(0, .ref 1000), (1, .ref 0), (2, .ref 66), (3, .ref 89), (4, .int (nI (6 * j)))]) (by simp) ?_
        exact K _ h2 m5 m4
      · exact absurd (by rw [o1, eu]; exact lg_self) c3
  · exact absurd rfl c1
set_option maxHeartbeats 1500000 in
set_option maxRecDepth 100000 in
theorem lwc_stock {X : XT} {nm : String} {hh : List (Nat × Nat × Nat × Nat)} {kc ks j : Nat} {h : AH} {t : ST} {Q : Res → AH → Prop} (m : IM h t) (m2 : MM h t) (hj : 6 * j + 6 ≤ X.1.2.1) (hX : X.1.2.1 ≤ 3072) (K : ∀ t1 h1, IM h1 t1 → MM h1 t1 → AW X (mLaw nm hh) 2000 kc ks 1167 [(0, .ref 1000), (1, .ref 0), (2, .ref 66), (3, .ref 89), (4, .int (nI (6 * j)))] [] h1 Q) : AW X (mLaw nm hh) 2000 (kc + 1) (ks + 6) 494 [(0, .ref 1000), (1, .ref 0), (2, .ref 66), (3, .ref 89), (4, .int (nI (6 * j)))] [] h Q := by
  have hn := m.1.1.1
  refine a_aload_n (pc := 494) (i := 1) dL_law_494 rfl rfl ?_
  refine a_aload_n (pc := 495) (i := 0) dL_law_495 rfl rfl ?_
  refine a_iload (pc := 496) (i := 4) dL_law_496 rfl ?_
  refine a_iconst (pc := 498) (v := nI 1) dL_law_498 (by decide) ?_
  refine n_iadd (pc := 499) dL_law_499 ?_
  refine a_sald (pc := 500) (j := ((6 * j) + 1)) dL_law_500 rfl (by omega) (by omega) (by omega) ?_
  refine a_aload_n (pc := 501) (i := 0) dL_law_501 rfl rfl ?_
  refine a_iload (pc := 502) (i := 4) dL_law_502 rfl ?_
  refine a_iconst (pc := 504) (v := nI 2) dL_law_504 (by decide) ?_
  refine n_iadd (pc := 505) dL_law_505 ?_
  refine a_sald (pc := 506) (j := ((6 * j) + 2)) dL_law_506 rfl (by omega) (by omega) (by omega) ?_
  refine a_aload_n (pc := 507) (i := 3) dL_law_507 rfl rfl ?_
  refine b_sX (pc := 508) (as := [.ref 0, .int (X.1.2.2 ((6 * j) + 1)), .int (X.1.2.2 ((6 * j) + 2)), .ref 89]) dL_law_508 (lc_RL_93 rfl) ceL_stock (sL_stock (d := 1898) m) rfl rfl (Nat.le_of_ble_eq_true rfl) (fun h1 qo m1 f1 => ?_)
  have m3 : MM h1 t := m2.fo m1.1.1 f1
  have hn1 : hN h1 = 90 := m1.1.1.1
  obtain ⟨v, ev⟩ : ∃ v, v = (rStock (tC t) (X.1.2.2 (6 * j + 1)) (X.1.2.2 (6 * j + 2))) := ⟨_, rfl⟩
  rw [← ev] at qo ⊢
  refine a_istore (pc := 511) (i := 5) (ls' := [(0, .ref 1000), (1, .ref 0), (2, .ref 66), (3, .ref 89), (4, .int (nI (6 * j))), (5, .int (nI (kn [eIA] v)))]) dL_law_511 (Nat.le_of_ble_eq_true rfl) rfl ?_
  refine a_aload_n (pc := 513) (i := 2) dL_law_513 rfl rfl ?_
  refine a_aload_n (pc := 514) (i := 0) dL_law_514 rfl rfl ?_
  refine a_iload (pc := 515) (i := 4) dL_law_515 rfl ?_
  refine a_iconst (pc := 517) (v := nI 1) dL_law_517 (by decide) ?_
  refine n_iadd (pc := 518) dL_law_518 ?_
  refine a_sald (pc := 519) (j := ((6 * j) + 1)) dL_law_519 rfl (by omega) (by omega) (by omega) ?_
  refine a_aload_n (pc := 520) (i := 0) dL_law_520 rfl rfl ?_
  refine a_iload (pc := 521) (i := 4) dL_law_521 rfl ?_
  refine a_iconst (pc := 523) (v := nI 2) dL_law_523 (by decide) ?_
  refine n_iadd (pc := 524) dL_law_524 ?_
  refine a_sald (pc := 525) (j := ((6 * j) + 2)) dL_law_525 rfl (by omega) (by omega) (by omega) ?_
  refine b_vQm (pc := 526) (as := [.int (X.1.2.2 ((6 * j) + 1)), .int (X.1.2.2 ((6 * j) + 2))]) (b := 66) (ci := 5) dL_law_526 (lc_RL_95 rfl) ceX5_stock rfl (lt90 hn1 (shK_lt (show shK 66 = _ from rfl))) (s5_stock (d := 1699) m3) rfl rfl (Nat.le_of_ble_eq_true rfl) (fun u h2 e1 e2 m4 f2 => ?_)
  rw [← ev] at e1 e2
  have m5 : IM h2 t := f2.im m1
  have hn2 : hN h2 = 90 := m5.1.1.1
  refine a_istore (pc := 529) (i := 6) (ls' := [(0, .ref 1000), (1, .ref 0), (2, .ref 66), (3, .ref 89), (4, .int (nI (6 * j))), (5, .int (nI (kn [eIA] v))), (6, .int u)]) dL_law_529 (Nat.le_of_ble_eq_true rfl) rfl ?_
  refine a_aload_n (pc := 531) (i := 2) dL_law_531 rfl rfl ?_
  refine a_vV1 (pc := 532) (as := []) (b := 66) (ci := 5) (v := .int (hI h2 66 0)) (h' := h2) dL_law_532 (lc_RL_75 rfl) ceX5_thrown rfl (lt90 hn2 (shK_lt (show shK 66 = _ from rfl))) (s5_thrown hn2) rfl rfl (Nat.le_of_ble_eq_true rfl) rfl ?_
  refine a_top (show (.int (hI h2 66 0) : Value) = .int (nI (kn [eIA] v)) from congrArg Value.int e2) ?_
  refine a_iload (pc := 535) (i := 5) dL_law_535 rfl ?_
  refine a_icmp_eq (pc := 537) (tgt := 542) dL_law_537 (by decide) (fun c1 => ?_) (fun c1 => ?_)
  · skip
    refine a_iload (pc := 542) (i := 5) dL_law_542 rfl ?_
    refine a_if_ne (pc := 544) (tgt := 559) dL_law_544 (by decide) (fun c2 => ?_) (fun c2 => ?_)
    · skip
      refine a_goto (pc := 559) (tgt := 1167) dL_law_559 (by decide) ?_
      refine a_drop (ls' := [(0, .ref 1000), (1, .ref 0), (2, .ref 66), (3, .ref 89), (4, .int (nI (6 * j)))]) (by simp) ?_
      exact K _ h2 m5 m4
    · obtain ⟨w, hw⟩ : ∃ w, v = .inl (some (.int w)) := RIe.kn (by rw [ev]; exact re_stock) (Nat.le_of_ble_eq_true rfl) c2
      have o1 : hL h2 89 0 = w.toInt64 := by rw [(f2.2.2 89 (Or.inr rfl)).2]; exact qo w hw
      have eu : u = w := e1 w hw
      refine a_aload_n (pc := 547) (i := 3) dL_law_547 rfl rfl ?_
      refine a_iconst (pc := 548) (v := nI 0) dL_law_548 (by decide) ?_
      refine a_lald (pc := 549) (j := 0) dL_law_549 rfl (lt90 hn2 (shK_lt (show shK 89 = _ from rfl))) rfl (by omega) ?_
      refine a_iload (pc := 550) (i := 6) dL_law_550 rfl ?_
      refine a_i2l (pc := 552) dL_law_552 ?_
      refine a_lcmp (pc := 553) dL_law_553 ?_
      refine a_if_eq (pc := 554) (tgt := 559) dL_law_554 (by decide) (fun c3 => ?_) (fun c3 => ?_)
      · skip
        refine a_goto (pc := 559) (tgt := 1167) dL_law_559 (by decide) ?_
        refine a_drop (ls' := [(0, .ref 1000), (1, .ref 0), (2, .ref 66), (3, .ref 89), (4, .int (nI (6 * j)))]) (by simp) ?_
        exact K _ h2 m5 m4
      · exact absurd (by rw [o1, eu]; exact lg_self) c3
  · exact absurd rfl c1
set_option maxHeartbeats 1500000 in
set_option maxRecDepth 100000 in
theorem lwc_message {X : XT} {nm : String} {hh : List (Nat × Nat × Nat × Nat)} {kc ks j : Nat} {h : AH} {t : ST} {Q : Res → AH → Prop} (m : IM h t) (m2 : MM h t) (hj : 6 * j + 6 ≤ X.1.2.1) (hX : X.1.2.1 ≤ 3072) (K : ∀ t1 h1, IM h1 t1 → MM h1 t1 → AW X (mLaw nm hh) 2000 kc ks 1167 [(0, .ref 1000), (1, .ref 0), (2, .ref 66), (3, .ref 89), (4, .int (nI (6 * j)))] [] h1 Q) : AW X (mLaw nm hh) 2000 (kc + 1) (ks + 6) 562 [(0, .ref 1000), (1, .ref 0), (2, .ref 66), (3, .ref 89), (4, .int (nI (6 * j)))] [] h Q := by
  have hn := m.1.1.1
  refine a_aload_n (pc := 562) (i := 1) dL_law_562 rfl rfl ?_
  refine a_aload_n (pc := 563) (i := 0) dL_law_563 rfl rfl ?_
  refine a_iload (pc := 564) (i := 4) dL_law_564 rfl ?_
  refine a_iconst (pc := 566) (v := nI 1) dL_law_566 (by decide) ?_
  refine n_iadd (pc := 567) dL_law_567 ?_
  refine a_sald (pc := 568) (j := ((6 * j) + 1)) dL_law_568 rfl (by omega) (by omega) (by omega) ?_
  refine a_aload_n (pc := 569) (i := 3) dL_law_569 rfl rfl ?_
  refine b_sX (pc := 570) (as := [.ref 0, .int (X.1.2.2 ((6 * j) + 1)), .ref 89]) dL_law_570 (lc_RL_96 rfl) ceL_message (sL_message (d := 1898) m) rfl rfl (Nat.le_of_ble_eq_true rfl) (fun h1 qo m1 f1 => ?_)
  have m3 : MM h1 t := m2.fo m1.1.1 f1
  have hn1 : hN h1 = 90 := m1.1.1.1
  obtain ⟨v, ev⟩ : ∃ v, v = (rMessage (tC t) (X.1.2.2 (6 * j + 1))) := ⟨_, rfl⟩
  rw [← ev] at qo ⊢
  refine a_istore (pc := 573) (i := 5) (ls' := [(0, .ref 1000), (1, .ref 0), (2, .ref 66), (3, .ref 89), (4, .int (nI (6 * j))), (5, .int (nI (kn [eNS] v)))]) dL_law_573 (Nat.le_of_ble_eq_true rfl) rfl ?_
  refine a_aload_n (pc := 575) (i := 2) dL_law_575 rfl rfl ?_
  refine a_aload_n (pc := 576) (i := 0) dL_law_576 rfl rfl ?_
  refine a_iload (pc := 577) (i := 4) dL_law_577 rfl ?_
  refine a_iconst (pc := 579) (v := nI 1) dL_law_579 (by decide) ?_
  refine n_iadd (pc := 580) dL_law_580 ?_
  refine a_sald (pc := 581) (j := ((6 * j) + 1)) dL_law_581 rfl (by omega) (by omega) (by omega) ?_
  refine b_vQm (pc := 582) (as := [.int (X.1.2.2 ((6 * j) + 1))]) (b := 66) (ci := 5) dL_law_582 (lc_RL_98 rfl) ceX5_message rfl (lt90 hn1 (shK_lt (show shK 66 = _ from rfl))) (s5_message (d := 1699) m3) rfl rfl (Nat.le_of_ble_eq_true rfl) (fun u h2 e1 e2 m4 f2 => ?_)
  rw [← ev] at e1 e2
  have m5 : IM h2 t := f2.im m1
  have hn2 : hN h2 = 90 := m5.1.1.1
  refine a_istore (pc := 585) (i := 6) (ls' := [(0, .ref 1000), (1, .ref 0), (2, .ref 66), (3, .ref 89), (4, .int (nI (6 * j))), (5, .int (nI (kn [eNS] v))), (6, .int u)]) dL_law_585 (Nat.le_of_ble_eq_true rfl) rfl ?_
  refine a_aload_n (pc := 587) (i := 2) dL_law_587 rfl rfl ?_
  refine a_vV1 (pc := 588) (as := []) (b := 66) (ci := 5) (v := .int (hI h2 66 0)) (h' := h2) dL_law_588 (lc_RL_75 rfl) ceX5_thrown rfl (lt90 hn2 (shK_lt (show shK 66 = _ from rfl))) (s5_thrown hn2) rfl rfl (Nat.le_of_ble_eq_true rfl) rfl ?_
  refine a_top (show (.int (hI h2 66 0) : Value) = .int (nI (kn [eNS] v)) from congrArg Value.int e2) ?_
  refine a_iload (pc := 591) (i := 5) dL_law_591 rfl ?_
  refine a_icmp_eq (pc := 593) (tgt := 598) dL_law_593 (by decide) (fun c1 => ?_) (fun c1 => ?_)
  · skip
    refine a_iload (pc := 598) (i := 5) dL_law_598 rfl ?_
    refine a_if_ne (pc := 600) (tgt := 615) dL_law_600 (by decide) (fun c2 => ?_) (fun c2 => ?_)
    · skip
      refine a_goto (pc := 615) (tgt := 1167) dL_law_615 (by decide) ?_
      refine a_drop (ls' := [(0, .ref 1000), (1, .ref 0), (2, .ref 66), (3, .ref 89), (4, .int (nI (6 * j)))]) (by simp) ?_
      exact K _ h2 m5 m4
    · obtain ⟨w, hw⟩ : ∃ w, v = .inl (some (.int w)) := RIe.kn (by rw [ev]; exact re_message) (Nat.le_of_ble_eq_true rfl) c2
      have o1 : hL h2 89 0 = w.toInt64 := by rw [(f2.2.2 89 (Or.inr rfl)).2]; exact qo w hw
      have eu : u = w := e1 w hw
      refine a_aload_n (pc := 603) (i := 3) dL_law_603 rfl rfl ?_
      refine a_iconst (pc := 604) (v := nI 0) dL_law_604 (by decide) ?_
      refine a_lald (pc := 605) (j := 0) dL_law_605 rfl (lt90 hn2 (shK_lt (show shK 89 = _ from rfl))) rfl (by omega) ?_
      refine a_iload (pc := 606) (i := 6) dL_law_606 rfl ?_
      refine a_i2l (pc := 608) dL_law_608 ?_
      refine a_lcmp (pc := 609) dL_law_609 ?_
      refine a_if_eq (pc := 610) (tgt := 615) dL_law_610 (by decide) (fun c3 => ?_) (fun c3 => ?_)
      · skip
        refine a_goto (pc := 615) (tgt := 1167) dL_law_615 (by decide) ?_
        refine a_drop (ls' := [(0, .ref 1000), (1, .ref 0), (2, .ref 66), (3, .ref 89), (4, .int (nI (6 * j)))]) (by simp) ?_
        exact K _ h2 m5 m4
      · exact absurd (by rw [o1, eu]; exact lg_self) c3
  · exact absurd rfl c1
set_option maxHeartbeats 1500000 in
set_option maxRecDepth 100000 in
theorem lwc_missing {X : XT} {nm : String} {hh : List (Nat × Nat × Nat × Nat)} {kc ks j : Nat} {h : AH} {t : ST} {Q : Res → AH → Prop} (m : IM h t) (m2 : MM h t) (hj : 6 * j + 6 ≤ X.1.2.1) (hX : X.1.2.1 ≤ 3072) (K : ∀ t1 h1, IM h1 t1 → MM h1 t1 → AW X (mLaw nm hh) 2000 kc ks 1167 [(0, .ref 1000), (1, .ref 0), (2, .ref 66), (3, .ref 89), (4, .int (nI (6 * j)))] [] h1 Q) : AW X (mLaw nm hh) 2000 (kc + 1) (ks + 6) 618 [(0, .ref 1000), (1, .ref 0), (2, .ref 66), (3, .ref 89), (4, .int (nI (6 * j)))] [] h Q := by
  have hn := m.1.1.1
  refine AW.mono (kc := kc) (ks := ks) ?_ (Nat.le_add_right _ _) (Nat.le_add_right _ _)
  refine a_aload_n (pc := 618) (i := 1) dL_law_618 rfl rfl ?_
  refine b_vR (w := .int (nI (nMiss (tC t)))) (R := fun h2 => IM h2 t ∧ Fw h h2) (pc := 619) (as := []) (b := 0) (ci := 4) dL_law_619 (lc_RL_99 rfl) ceX4_missing rfl (lt90 hn (shK_lt (show shK 0 = _ from rfl))) (w_missing (d := 1899) m) rfl rfl (Nat.le_of_ble_eq_true rfl) (fun r h2 q => ⟨q.1, q.2.2.1, q.2⟩) (fun h1 q1 => ?_)
  obtain ⟨m1, f1⟩ := q1
  have m3 : MM h1 t := m2.fo m1.1.1 f1.fo
  have hn1 : hN h1 = 90 := m1.1.1.1
  refine a_aload_n (pc := 622) (i := 2) dL_law_622 rfl rfl ?_
  refine b_vR (w := .int (nI (nMiss (tC t)))) (R := fun h2 => MM h2 t ∧ Fm h1 h2) (pc := 623) (as := []) (b := 66) (ci := 5) dL_law_623 (lc_RL_102 rfl) ceX5_missing rfl (lt90 hn1 (shK_lt (show shK 66 = _ from rfl))) (s5_missing (d := 1699) m3) rfl rfl (Nat.le_of_ble_eq_true rfl) (fun r h3 q => ⟨q.1, q.2.2.1, q.2⟩) (fun h2 q2 => ?_)
  obtain ⟨m4, f2⟩ := q2
  have m5 : IM h2 t := f2.im m1
  refine a_icmp_eq (pc := 626) (tgt := 1167) dL_law_626 (by decide) (fun c1 => ?_) (fun c1 => ?_)
  · skip
    exact K _ h2 m5 m4
  · exact absurd rfl c1
set_option maxHeartbeats 1500000 in
set_option maxRecDepth 100000 in
theorem lwc_fewest {X : XT} {nm : String} {hh : List (Nat × Nat × Nat × Nat)} {kc ks j : Nat} {h : AH} {t : ST} {Q : Res → AH → Prop} (m : IM h t) (m2 : MM h t) (hj : 6 * j + 6 ≤ X.1.2.1) (hX : X.1.2.1 ≤ 3072) (K : ∀ t1 h1, IM h1 t1 → MM h1 t1 → AW X (mLaw nm hh) 2000 kc ks 1167 [(0, .ref 1000), (1, .ref 0), (2, .ref 66), (3, .ref 89), (4, .int (nI (6 * j)))] [] h1 Q) : AW X (mLaw nm hh) 2000 (kc + 1) (ks + 6) 631 [(0, .ref 1000), (1, .ref 0), (2, .ref 66), (3, .ref 89), (4, .int (nI (6 * j)))] [] h Q := by
  have hn := m.1.1.1
  refine AW.mono (kc := kc) (ks := ks) ?_ (Nat.le_add_right _ _) (Nat.le_add_right _ _)
  refine a_aload_n (pc := 631) (i := 1) dL_law_631 rfl rfl ?_
  refine b_vR (w := .int (bestR (tC t))) (R := fun h2 => IM h2 t ∧ Fw h h2) (pc := 632) (as := []) (b := 0) (ci := 4) dL_law_632 (lc_RL_103 rfl) ceX4_fewest rfl (lt90 hn (shK_lt (show shK 0 = _ from rfl))) (sp_fewest (d := 1899) m) rfl rfl (Nat.le_of_ble_eq_true rfl) (fun r h2 q => ⟨q.1, q.2.2.1, q.2⟩) (fun h1 q1 => ?_)
  obtain ⟨m1, f1⟩ := q1
  have m3 : MM h1 t := m2.fo m1.1.1 f1.fo
  have hn1 : hN h1 = 90 := m1.1.1.1
  refine a_aload_n (pc := 635) (i := 2) dL_law_635 rfl rfl ?_
  refine b_vR (w := .int (bestR (tC t))) (R := fun h2 => MM h2 t ∧ Fm h1 h2) (pc := 636) (as := []) (b := 66) (ci := 5) dL_law_636 (lc_RL_106 rfl) ceX5_fewest rfl (lt90 hn1 (shK_lt (show shK 66 = _ from rfl))) (s5_fewest (d := 1699) m3) rfl rfl (Nat.le_of_ble_eq_true rfl) (fun r h3 q => ⟨q.1, q.2.2.1, q.2⟩) (fun h2 q2 => ?_)
  obtain ⟨m4, f2⟩ := q2
  have m5 : IM h2 t := f2.im m1
  refine a_icmp_eq (pc := 639) (tgt := 1167) dL_law_639 (by decide) (fun c1 => ?_) (fun c1 => ?_)
  · skip
    exact K _ h2 m5 m4
  · exact absurd rfl c1
set_option maxHeartbeats 1500000 in
set_option maxRecDepth 100000 in
theorem lwc_cutOf {X : XT} {nm : String} {hh : List (Nat × Nat × Nat × Nat)} {kc ks j : Nat} {h : AH} {t : ST} {Q : Res → AH → Prop} (m : IM h t) (m2 : MM h t) (hj : 6 * j + 6 ≤ X.1.2.1) (hX : X.1.2.1 ≤ 3072) (K : ∀ t1 h1, IM h1 t1 → MM h1 t1 → AW X (mLaw nm hh) 2000 kc ks 1167 [(0, .ref 1000), (1, .ref 0), (2, .ref 66), (3, .ref 89), (4, .int (nI (6 * j)))] [] h1 Q) : AW X (mLaw nm hh) 2000 (kc + 1) (ks + 6) 644 [(0, .ref 1000), (1, .ref 0), (2, .ref 66), (3, .ref 89), (4, .int (nI (6 * j)))] [] h Q := by
  have hn := m.1.1.1
  refine a_aload_n (pc := 644) (i := 1) dL_law_644 rfl rfl ?_
  refine a_aload_n (pc := 645) (i := 0) dL_law_645 rfl rfl ?_
  refine a_iload (pc := 646) (i := 4) dL_law_646 rfl ?_
  refine a_iconst (pc := 648) (v := nI 1) dL_law_648 (by decide) ?_
  refine n_iadd (pc := 649) dL_law_649 ?_
  refine a_sald (pc := 650) (j := ((6 * j) + 1)) dL_law_650 rfl (by omega) (by omega) (by omega) ?_
  refine a_aload_n (pc := 651) (i := 0) dL_law_651 rfl rfl ?_
  refine a_iload (pc := 652) (i := 4) dL_law_652 rfl ?_
  refine a_iconst (pc := 654) (v := nI 2) dL_law_654 (by decide) ?_
  refine n_iadd (pc := 655) dL_law_655 ?_
  refine a_sald (pc := 656) (j := ((6 * j) + 2)) dL_law_656 rfl (by omega) (by omega) (by omega) ?_
  refine a_aload_n (pc := 657) (i := 3) dL_law_657 rfl rfl ?_
  refine b_sX (pc := 658) (as := [.ref 0, .int (X.1.2.2 ((6 * j) + 1)), .int (X.1.2.2 ((6 * j) + 2)), .ref 89]) dL_law_658 (lc_RL_107 rfl) ceL_cutOf (sL_cutOf (d := 1898) m) rfl rfl (Nat.le_of_ble_eq_true rfl) (fun h1 qo m1 f1 => ?_)
  have m3 : MM h1 t := m2.fo m1.1.1 f1
  have hn1 : hN h1 = 90 := m1.1.1.1
  obtain ⟨v, ev⟩ : ∃ v, v = (rCutOf (tC t) (X.1.2.2 (6 * j + 1)) (X.1.2.2 (6 * j + 2))) := ⟨_, rfl⟩
  rw [← ev] at qo ⊢
  refine a_istore (pc := 661) (i := 5) (ls' := [(0, .ref 1000), (1, .ref 0), (2, .ref 66), (3, .ref 89), (4, .int (nI (6 * j))), (5, .int (nI (kn [eNS, eIA] v)))]) dL_law_661 (Nat.le_of_ble_eq_true rfl) rfl ?_
  refine a_aload_n (pc := 663) (i := 2) dL_law_663 rfl rfl ?_
  refine a_aload_n (pc := 664) (i := 0) dL_law_664 rfl rfl ?_
  refine a_iload (pc := 665) (i := 4) dL_law_665 rfl ?_
  refine a_iconst (pc := 667) (v := nI 1) dL_law_667 (by decide) ?_
  refine n_iadd (pc := 668) dL_law_668 ?_
  refine a_sald (pc := 669) (j := ((6 * j) + 1)) dL_law_669 rfl (by omega) (by omega) (by omega) ?_
  refine a_aload_n (pc := 670) (i := 0) dL_law_670 rfl rfl ?_
  refine a_iload (pc := 671) (i := 4) dL_law_671 rfl ?_
  refine a_iconst (pc := 673) (v := nI 2) dL_law_673 (by decide) ?_
  refine n_iadd (pc := 674) dL_law_674 ?_
  refine a_sald (pc := 675) (j := ((6 * j) + 2)) dL_law_675 rfl (by omega) (by omega) (by omega) ?_
  refine b_vQm (pc := 676) (as := [.int (X.1.2.2 ((6 * j) + 1)), .int (X.1.2.2 ((6 * j) + 2))]) (b := 66) (ci := 5) dL_law_676 (lc_RL_109 rfl) ceX5_cutOf rfl (lt90 hn1 (shK_lt (show shK 66 = _ from rfl))) (s5_cutOf (d := 1699) m3) rfl rfl (Nat.le_of_ble_eq_true rfl) (fun u h2 e1 e2 m4 f2 => ?_)
  rw [← ev] at e1 e2
  have m5 : IM h2 t := f2.im m1
  have hn2 : hN h2 = 90 := m5.1.1.1
  refine a_istore (pc := 679) (i := 6) (ls' := [(0, .ref 1000), (1, .ref 0), (2, .ref 66), (3, .ref 89), (4, .int (nI (6 * j))), (5, .int (nI (kn [eNS, eIA] v))), (6, .int u)]) dL_law_679 (Nat.le_of_ble_eq_true rfl) rfl ?_
  refine a_aload_n (pc := 681) (i := 2) dL_law_681 rfl rfl ?_
  refine a_vV1 (pc := 682) (as := []) (b := 66) (ci := 5) (v := .int (hI h2 66 0)) (h' := h2) dL_law_682 (lc_RL_75 rfl) ceX5_thrown rfl (lt90 hn2 (shK_lt (show shK 66 = _ from rfl))) (s5_thrown hn2) rfl rfl (Nat.le_of_ble_eq_true rfl) rfl ?_
  refine a_top (show (.int (hI h2 66 0) : Value) = .int (nI (kn [eNS, eIA] v)) from congrArg Value.int e2) ?_
  refine a_iload (pc := 685) (i := 5) dL_law_685 rfl ?_
  refine a_icmp_eq (pc := 687) (tgt := 692) dL_law_687 (by decide) (fun c1 => ?_) (fun c1 => ?_)
  · skip
    refine a_iload (pc := 692) (i := 5) dL_law_692 rfl ?_
    refine a_if_ne (pc := 694) (tgt := 709) dL_law_694 (by decide) (fun c2 => ?_) (fun c2 => ?_)
    · skip
      refine a_goto (pc := 709) (tgt := 1167) dL_law_709 (by decide) ?_
      refine a_drop (ls' := [(0, .ref 1000), (1, .ref 0), (2, .ref 66), (3, .ref 89), (4, .int (nI (6 * j)))]) (by simp) ?_
      exact K _ h2 m5 m4
    · obtain ⟨w, hw⟩ : ∃ w, v = .inl (some (.int w)) := RIe.kn (by rw [ev]; exact re_cutOf) (Nat.le_of_ble_eq_true rfl) c2
      have o1 : hL h2 89 0 = w.toInt64 := by rw [(f2.2.2 89 (Or.inr rfl)).2]; exact qo w hw
      have eu : u = w := e1 w hw
      refine a_aload_n (pc := 697) (i := 3) dL_law_697 rfl rfl ?_
      refine a_iconst (pc := 698) (v := nI 0) dL_law_698 (by decide) ?_
      refine a_lald (pc := 699) (j := 0) dL_law_699 rfl (lt90 hn2 (shK_lt (show shK 89 = _ from rfl))) rfl (by omega) ?_
      refine a_iload (pc := 700) (i := 6) dL_law_700 rfl ?_
      refine a_i2l (pc := 702) dL_law_702 ?_
      refine a_lcmp (pc := 703) dL_law_703 ?_
      refine a_if_eq (pc := 704) (tgt := 709) dL_law_704 (by decide) (fun c3 => ?_) (fun c3 => ?_)
      · skip
        refine a_goto (pc := 709) (tgt := 1167) dL_law_709 (by decide) ?_
        refine a_drop (ls' := [(0, .ref 1000), (1, .ref 0), (2, .ref 66), (3, .ref 89), (4, .int (nI (6 * j)))]) (by simp) ?_
        exact K _ h2 m5 m4
      · exact absurd (by rw [o1, eu]; exact lg_self) c3
  · exact absurd rfl c1
set_option maxHeartbeats 1500000 in
set_option maxRecDepth 100000 in
theorem lwc_unevenness {X : XT} {nm : String} {hh : List (Nat × Nat × Nat × Nat)} {kc ks j : Nat} {h : AH} {t : ST} {Q : Res → AH → Prop} (m : IM h t) (m2 : MM h t) (hj : 6 * j + 6 ≤ X.1.2.1) (hX : X.1.2.1 ≤ 3072) (K : ∀ t1 h1, IM h1 t1 → MM h1 t1 → AW X (mLaw nm hh) 2000 kc ks 1167 [(0, .ref 1000), (1, .ref 0), (2, .ref 66), (3, .ref 89), (4, .int (nI (6 * j)))] [] h1 Q) : AW X (mLaw nm hh) 2000 (kc + 1) (ks + 6) 712 [(0, .ref 1000), (1, .ref 0), (2, .ref 66), (3, .ref 89), (4, .int (nI (6 * j)))] [] h Q := by
  have hn := m.1.1.1
  refine AW.mono (kc := kc) (ks := ks) ?_ (Nat.le_add_right _ _) (Nat.le_add_right _ _)
  refine a_aload_n (pc := 712) (i := 1) dL_law_712 rfl rfl ?_
  refine b_vR (w := .int (rUneven (tC t))) (R := fun h2 => IM h2 t ∧ Fw h h2) (pc := 713) (as := []) (b := 0) (ci := 4) dL_law_713 (lc_RL_110 rfl) ceX4_unevenness rfl (lt90 hn (shK_lt (show shK 0 = _ from rfl))) (sp_unevenness (d := 1899) m) rfl rfl (Nat.le_of_ble_eq_true rfl) (fun r h2 q => ⟨q.1, q.2.2.1, q.2⟩) (fun h1 q1 => ?_)
  obtain ⟨m1, f1⟩ := q1
  have m3 : MM h1 t := m2.fo m1.1.1 f1.fo
  have hn1 : hN h1 = 90 := m1.1.1.1
  refine a_aload_n (pc := 716) (i := 2) dL_law_716 rfl rfl ?_
  refine b_vR (w := .int (rUneven (tC t))) (R := fun h2 => MM h2 t ∧ Fm h1 h2) (pc := 717) (as := []) (b := 66) (ci := 5) dL_law_717 (lc_RL_113 rfl) ceX5_unevenness rfl (lt90 hn1 (shK_lt (show shK 66 = _ from rfl))) (s5_unevenness (d := 1699) m3) rfl rfl (Nat.le_of_ble_eq_true rfl) (fun r h3 q => ⟨q.1, q.2.2.1, q.2⟩) (fun h2 q2 => ?_)
  obtain ⟨m4, f2⟩ := q2
  have m5 : IM h2 t := f2.im m1
  refine a_icmp_eq (pc := 720) (tgt := 1167) dL_law_720 (by decide) (fun c1 => ?_) (fun c1 => ?_)
  · skip
    exact K _ h2 m5 m4
  · exact absurd rfl c1
set_option maxHeartbeats 1500000 in
set_option maxRecDepth 100000 in
theorem lwc_copies {X : XT} {nm : String} {hh : List (Nat × Nat × Nat × Nat)} {kc ks j : Nat} {h : AH} {t : ST} {Q : Res → AH → Prop} (m : IM h t) (m2 : MM h t) (hj : 6 * j + 6 ≤ X.1.2.1) (hX : X.1.2.1 ≤ 3072) (K : ∀ t1 h1, IM h1 t1 → MM h1 t1 → AW X (mLaw nm hh) 2000 kc ks 1167 [(0, .ref 1000), (1, .ref 0), (2, .ref 66), (3, .ref 89), (4, .int (nI (6 * j)))] [] h1 Q) : AW X (mLaw nm hh) 2000 (kc + 1) (ks + 6) 725 [(0, .ref 1000), (1, .ref 0), (2, .ref 66), (3, .ref 89), (4, .int (nI (6 * j)))] [] h Q := by
  have hn := m.1.1.1
  refine AW.mono (kc := kc) (ks := ks) ?_ (Nat.le_add_right _ _) (Nat.le_add_right _ _)
  refine a_aload_n (pc := 725) (i := 1) dL_law_725 rfl rfl ?_
  refine b_vR (w := .int (nI (nCopies (tC t)))) (R := fun h2 => IM h2 t ∧ Fw h h2) (pc := 726) (as := []) (b := 0) (ci := 4) dL_law_726 (lc_RL_114 rfl) ceX4_copies rfl (lt90 hn (shK_lt (show shK 0 = _ from rfl))) (sp_copies (d := 1899) m) rfl rfl (Nat.le_of_ble_eq_true rfl) (fun r h2 q => ⟨q.1, q.2.2.1, q.2⟩) (fun h1 q1 => ?_)
  obtain ⟨m1, f1⟩ := q1
  have m3 : MM h1 t := m2.fo m1.1.1 f1.fo
  have hn1 : hN h1 = 90 := m1.1.1.1
  refine a_aload_n (pc := 729) (i := 2) dL_law_729 rfl rfl ?_
  refine b_vR (w := .int (nI (nCopies (tC t)))) (R := fun h2 => MM h2 t ∧ Fm h1 h2) (pc := 730) (as := []) (b := 66) (ci := 5) dL_law_730 (lc_RL_117 rfl) ceX5_copies rfl (lt90 hn1 (shK_lt (show shK 66 = _ from rfl))) (s5_copies (d := 1699) m3) rfl rfl (Nat.le_of_ble_eq_true rfl) (fun r h3 q => ⟨q.1, q.2.2.1, q.2⟩) (fun h2 q2 => ?_)
  obtain ⟨m4, f2⟩ := q2
  have m5 : IM h2 t := f2.im m1
  refine a_icmp_eq (pc := 733) (tgt := 1167) dL_law_733 (by decide) (fun c1 => ?_) (fun c1 => ?_)
  · skip
    exact K _ h2 m5 m4
  · exact absurd rfl c1
set_option maxHeartbeats 1500000 in
set_option maxRecDepth 100000 in
theorem lwc_longest {X : XT} {nm : String} {hh : List (Nat × Nat × Nat × Nat)} {kc ks j : Nat} {h : AH} {t : ST} {Q : Res → AH → Prop} (m : IM h t) (m2 : MM h t) (hj : 6 * j + 6 ≤ X.1.2.1) (hX : X.1.2.1 ≤ 3072) (K : ∀ t1 h1, IM h1 t1 → MM h1 t1 → AW X (mLaw nm hh) 2000 kc ks 1167 [(0, .ref 1000), (1, .ref 0), (2, .ref 66), (3, .ref 89), (4, .int (nI (6 * j)))] [] h1 Q) : AW X (mLaw nm hh) 2000 (kc + 1) (ks + 6) 738 [(0, .ref 1000), (1, .ref 0), (2, .ref 66), (3, .ref 89), (4, .int (nI (6 * j)))] [] h Q := by
  have hn := m.1.1.1
  refine a_aload_n (pc := 738) (i := 1) dL_law_738 rfl rfl ?_
  refine a_aload_n (pc := 739) (i := 0) dL_law_739 rfl rfl ?_
  refine a_iload (pc := 740) (i := 4) dL_law_740 rfl ?_
  refine a_iconst (pc := 742) (v := nI 1) dL_law_742 (by decide) ?_
  refine n_iadd (pc := 743) dL_law_743 ?_
  refine a_sald (pc := 744) (j := ((6 * j) + 1)) dL_law_744 rfl (by omega) (by omega) (by omega) ?_
  refine a_aload_n (pc := 745) (i := 3) dL_law_745 rfl rfl ?_
  refine b_sX (pc := 746) (as := [.ref 0, .int (X.1.2.2 ((6 * j) + 1)), .ref 89]) dL_law_746 (lc_RL_118 rfl) ceL_longest (sL_longest (d := 1898) m) rfl rfl (Nat.le_of_ble_eq_true rfl) (fun h1 qo m1 f1 => ?_)
  have m3 : MM h1 t := m2.fo m1.1.1 f1
  have hn1 : hN h1 = 90 := m1.1.1.1
  obtain ⟨v, ev⟩ : ∃ v, v = (rLongest (tC t) (X.1.2.2 (6 * j + 1))) := ⟨_, rfl⟩
  rw [← ev] at qo ⊢
  refine a_istore (pc := 749) (i := 5) (ls' := [(0, .ref 1000), (1, .ref 0), (2, .ref 66), (3, .ref 89), (4, .int (nI (6 * j))), (5, .int (nI (kn [eNS] v)))]) dL_law_749 (Nat.le_of_ble_eq_true rfl) rfl ?_
  refine a_aload_n (pc := 751) (i := 2) dL_law_751 rfl rfl ?_
  refine a_aload_n (pc := 752) (i := 0) dL_law_752 rfl rfl ?_
  refine a_iload (pc := 753) (i := 4) dL_law_753 rfl ?_
  refine a_iconst (pc := 755) (v := nI 1) dL_law_755 (by decide) ?_
  refine n_iadd (pc := 756) dL_law_756 ?_
  refine a_sald (pc := 757) (j := ((6 * j) + 1)) dL_law_757 rfl (by omega) (by omega) (by omega) ?_
  refine b_vQm (pc := 758) (as := [.int (X.1.2.2 ((6 * j) + 1))]) (b := 66) (ci := 5) dL_law_758 (lc_RL_120 rfl) ceX5_longest rfl (lt90 hn1 (shK_lt (show shK 66 = _ from rfl))) (s5_longest (d := 1699) m3) rfl rfl (Nat.le_of_ble_eq_true rfl) (fun u h2 e1 e2 m4 f2 => ?_)
  rw [← ev] at e1 e2
  have m5 : IM h2 t := f2.im m1
  have hn2 : hN h2 = 90 := m5.1.1.1
  refine a_istore (pc := 761) (i := 6) (ls' := [(0, .ref 1000), (1, .ref 0), (2, .ref 66), (3, .ref 89), (4, .int (nI (6 * j))), (5, .int (nI (kn [eNS] v))), (6, .int u)]) dL_law_761 (Nat.le_of_ble_eq_true rfl) rfl ?_
  refine a_aload_n (pc := 763) (i := 2) dL_law_763 rfl rfl ?_
  refine a_vV1 (pc := 764) (as := []) (b := 66) (ci := 5) (v := .int (hI h2 66 0)) (h' := h2) dL_law_764 (lc_RL_75 rfl) ceX5_thrown rfl (lt90 hn2 (shK_lt (show shK 66 = _ from rfl))) (s5_thrown hn2) rfl rfl (Nat.le_of_ble_eq_true rfl) rfl ?_
  refine a_top (show (.int (hI h2 66 0) : Value) = .int (nI (kn [eNS] v)) from congrArg Value.int e2) ?_
  refine a_iload (pc := 767) (i := 5) dL_law_767 rfl ?_
  refine a_icmp_eq (pc := 769) (tgt := 774) dL_law_769 (by decide) (fun c1 => ?_) (fun c1 => ?_)
  · skip
    refine a_iload (pc := 774) (i := 5) dL_law_774 rfl ?_
    refine a_if_ne (pc := 776) (tgt := 791) dL_law_776 (by decide) (fun c2 => ?_) (fun c2 => ?_)
    · skip
      refine a_goto (pc := 791) (tgt := 1167) dL_law_791 (by decide) ?_
      refine a_drop (ls' := [(0, .ref 1000), (1, .ref 0), (2, .ref 66), (3, .ref 89), (4, .int (nI (6 * j)))]) (by simp) ?_
      exact K _ h2 m5 m4
    · obtain ⟨w, hw⟩ : ∃ w, v = .inl (some (.int w)) := RIe.kn (by rw [ev]; exact re_longest) (Nat.le_of_ble_eq_true rfl) c2
      have o1 : hL h2 89 0 = w.toInt64 := by rw [(f2.2.2 89 (Or.inr rfl)).2]; exact qo w hw
      have eu : u = w := e1 w hw
      refine a_aload_n (pc := 779) (i := 3) dL_law_779 rfl rfl ?_
      refine a_iconst (pc := 780) (v := nI 0) dL_law_780 (by decide) ?_
      refine a_lald (pc := 781) (j := 0) dL_law_781 rfl (lt90 hn2 (shK_lt (show shK 89 = _ from rfl))) rfl (by omega) ?_
      refine a_iload (pc := 782) (i := 6) dL_law_782 rfl ?_
      refine a_i2l (pc := 784) dL_law_784 ?_
      refine a_lcmp (pc := 785) dL_law_785 ?_
      refine a_if_eq (pc := 786) (tgt := 791) dL_law_786 (by decide) (fun c3 => ?_) (fun c3 => ?_)
      · skip
        refine a_goto (pc := 791) (tgt := 1167) dL_law_791 (by decide) ?_
        refine a_drop (ls' := [(0, .ref 1000), (1, .ref 0), (2, .ref 66), (3, .ref 89), (4, .int (nI (6 * j)))]) (by simp) ?_
        exact K _ h2 m5 m4
      · exact absurd (by rw [o1, eu]; exact lg_self) c3
  · exact absurd rfl c1
set_option maxHeartbeats 1500000 in
set_option maxRecDepth 100000 in
theorem lwc_clashes {X : XT} {nm : String} {hh : List (Nat × Nat × Nat × Nat)} {kc ks j : Nat} {h : AH} {t : ST} {Q : Res → AH → Prop} (m : IM h t) (m2 : MM h t) (hj : 6 * j + 6 ≤ X.1.2.1) (hX : X.1.2.1 ≤ 3072) (K : ∀ t1 h1, IM h1 t1 → MM h1 t1 → AW X (mLaw nm hh) 2000 kc ks 1167 [(0, .ref 1000), (1, .ref 0), (2, .ref 66), (3, .ref 89), (4, .int (nI (6 * j)))] [] h1 Q) : AW X (mLaw nm hh) 2000 (kc + 1) (ks + 6) 794 [(0, .ref 1000), (1, .ref 0), (2, .ref 66), (3, .ref 89), (4, .int (nI (6 * j)))] [] h Q := by
  have hn := m.1.1.1
  refine AW.mono (kc := kc) (ks := ks) ?_ (Nat.le_add_right _ _) (Nat.le_add_right _ _)
  refine a_aload_n (pc := 794) (i := 1) dL_law_794 rfl rfl ?_
  refine b_vR (w := .int (nI (nClash (tC t)))) (R := fun h2 => IM h2 t ∧ Fw h h2) (pc := 795) (as := []) (b := 0) (ci := 4) dL_law_795 (lc_RL_121 rfl) ceX4_clashes rfl (lt90 hn (shK_lt (show shK 0 = _ from rfl))) (w_clashes (d := 1899) m) rfl rfl (Nat.le_of_ble_eq_true rfl) (fun r h2 q => ⟨q.1, q.2.2.1, q.2⟩) (fun h1 q1 => ?_)
  obtain ⟨m1, f1⟩ := q1
  have m3 : MM h1 t := m2.fo m1.1.1 f1.fo
  have hn1 : hN h1 = 90 := m1.1.1.1
  refine a_aload_n (pc := 798) (i := 2) dL_law_798 rfl rfl ?_
  refine b_vR (w := .int (nI (nClash (tC t)))) (R := fun h2 => MM h2 t ∧ Fm h1 h2) (pc := 799) (as := []) (b := 66) (ci := 5) dL_law_799 (lc_RL_124 rfl) ceX5_clashes rfl (lt90 hn1 (shK_lt (show shK 66 = _ from rfl))) (s5_clashes (d := 1699) m3) rfl rfl (Nat.le_of_ble_eq_true rfl) (fun r h3 q => ⟨q.1, q.2.2.1, q.2⟩) (fun h2 q2 => ?_)
  obtain ⟨m4, f2⟩ := q2
  have m5 : IM h2 t := f2.im m1
  refine a_icmp_eq (pc := 802) (tgt := 1167) dL_law_802 (by decide) (fun c1 => ?_) (fun c1 => ?_)
  · skip
    exact K _ h2 m5 m4
  · exact absurd rfl c1
set_option maxHeartbeats 1500000 in
set_option maxRecDepth 100000 in
theorem lwc_meanSize {X : XT} {nm : String} {hh : List (Nat × Nat × Nat × Nat)} {kc ks j : Nat} {h : AH} {t : ST} {Q : Res → AH → Prop} (m : IM h t) (m2 : MM h t) (hj : 6 * j + 6 ≤ X.1.2.1) (hX : X.1.2.1 ≤ 3072) (K : ∀ t1 h1, IM h1 t1 → MM h1 t1 → AW X (mLaw nm hh) 2000 kc ks 1167 [(0, .ref 1000), (1, .ref 0), (2, .ref 66), (3, .ref 89), (4, .int (nI (6 * j)))] [] h1 Q) : AW X (mLaw nm hh) 2000 (kc + 1) (ks + 6) 807 [(0, .ref 1000), (1, .ref 0), (2, .ref 66), (3, .ref 89), (4, .int (nI (6 * j)))] [] h Q := by
  have hn := m.1.1.1
  refine AW.mono (kc := kc) (ks := ks) ?_ (Nat.le_add_right _ _) (Nat.le_add_right _ _)
  refine a_aload_n (pc := 807) (i := 1) dL_law_807 rfl rfl ?_
  refine b_vR (w := .double (rMean (tC t))) (R := fun h2 => IM h2 t ∧ Fw h h2) (pc := 808) (as := []) (b := 0) (ci := 4) dL_law_808 (lc_RL_125 rfl) ceX4_meanSize rfl (lt90 hn (shK_lt (show shK 0 = _ from rfl))) (sp_meanSize (d := 1899) m) rfl rfl (Nat.le_of_ble_eq_true rfl) (fun r h2 q => ⟨q.1, q.2.2.1, q.2⟩) (fun h1 q1 => ?_)
  obtain ⟨m1, f1⟩ := q1
  have m3 : MM h1 t := m2.fo m1.1.1 f1.fo
  have hn1 : hN h1 = 90 := m1.1.1.1
  refine a_dstore (pc := 811) (i := 5) (ls' := [(0, .ref 1000), (1, .ref 0), (2, .ref 66), (3, .ref 89), (4, .int (nI (6 * j))), (5, .double (rMean (tC t)))]) dL_law_811 (Nat.le_of_ble_eq_true rfl) rfl ?_
  refine a_aload_n (pc := 813) (i := 2) dL_law_813 rfl rfl ?_
  refine b_vR (w := .double (rMean (tC t))) (R := fun h2 => MM h2 t ∧ Fm h1 h2) (pc := 814) (as := []) (b := 66) (ci := 5) dL_law_814 (lc_RL_129 rfl) ceX5_meanSize rfl (lt90 hn1 (shK_lt (show shK 66 = _ from rfl))) (s5_meanSize (d := 1699) m3) rfl rfl (Nat.le_of_ble_eq_true rfl) (fun r h3 q => ⟨q.1, q.2.2.1, q.2⟩) (fun h2 q2 => ?_)
  obtain ⟨m4, f2⟩ := q2
  have m5 : IM h2 t := f2.im m1
  refine a_dstore (pc := 817) (i := 7) (ls' := [(0, .ref 1000), (1, .ref 0), (2, .ref 66), (3, .ref 89), (4, .int (nI (6 * j))), (5, .double (rMean (tC t))), (7, .double (rMean (tC t)))]) dL_law_817 (Nat.le_of_ble_eq_true rfl) rfl ?_
  refine a_dload (pc := 819) (i := 5) dL_law_819 rfl ?_
  refine a_dload (pc := 821) (i := 7) dL_law_821 rfl ?_
  refine a_dcmp (pc := 823) dL_law_823 ?_
  refine a_if_eq (pc := 824) (tgt := 845) dL_law_824 (by decide) (fun c1 => ?_) (fun c1 => ?_)
  · skip
    refine a_goto (pc := 845) (tgt := 1167) dL_law_845 (by decide) ?_
    refine a_drop (ls' := [(0, .ref 1000), (1, .ref 0), (2, .ref 66), (3, .ref 89), (4, .int (nI (6 * j)))]) (by simp) ?_
    exact K _ h2 m5 m4
  · skip
    refine a_dload (pc := 827) (i := 5) dL_law_827 rfl ?_
    refine a_dload (pc := 829) (i := 5) dL_law_829 rfl ?_
    refine a_dcmp (pc := 831) dL_law_831 ?_
    refine a_if_eq (pc := 832) (tgt := 843) dL_law_832 (by decide) (fun c2 => ?_) (fun c2 => ?_)
    · exact absurd c2 c1
    · skip
      refine a_dload (pc := 835) (i := 7) dL_law_835 rfl ?_
      refine a_dload (pc := 837) (i := 7) dL_law_837 rfl ?_
      refine a_dcmp (pc := 839) dL_law_839 ?_
      refine a_if_ne (pc := 840) (tgt := 845) dL_law_840 (by decide) (fun c3 => ?_) (fun c3 => ?_)
      · skip
        refine a_goto (pc := 845) (tgt := 1167) dL_law_845 (by decide) ?_
        refine a_drop (ls' := [(0, .ref 1000), (1, .ref 0), (2, .ref 66), (3, .ref 89), (4, .int (nI (6 * j)))]) (by simp) ?_
        exact K _ h2 m5 m4
      · exact absurd c3 c1
set_option maxHeartbeats 1500000 in
set_option maxRecDepth 100000 in
theorem lwc_tell {X : XT} {nm : String} {hh : List (Nat × Nat × Nat × Nat)} {kc ks j : Nat} {h : AH} {t : ST} {Q : Res → AH → Prop} (m : IM h t) (m2 : MM h t) (hj : 6 * j + 6 ≤ X.1.2.1) (hX : X.1.2.1 ≤ 3072) (K : ∀ t1 h1, IM h1 t1 → MM h1 t1 → AW X (mLaw nm hh) 2000 kc ks 1167 [(0, .ref 1000), (1, .ref 0), (2, .ref 66), (3, .ref 89), (4, .int (nI (6 * j)))] [] h1 Q) : AW X (mLaw nm hh) 2000 (kc + 1) (ks + 6) 848 [(0, .ref 1000), (1, .ref 0), (2, .ref 66), (3, .ref 89), (4, .int (nI (6 * j)))] [] h Q := by
  have hn := m.1.1.1
  refine a_aload_n (pc := 848) (i := 1) dL_law_848 rfl rfl ?_
  refine a_aload_n (pc := 849) (i := 0) dL_law_849 rfl rfl ?_
  refine a_iload (pc := 850) (i := 4) dL_law_850 rfl ?_
  refine a_iconst (pc := 852) (v := nI 1) dL_law_852 (by decide) ?_
  refine n_iadd (pc := 853) dL_law_853 ?_
  refine a_sald (pc := 854) (j := ((6 * j) + 1)) dL_law_854 rfl (by omega) (by omega) (by omega) ?_
  refine a_aload_n (pc := 855) (i := 3) dL_law_855 rfl rfl ?_
  refine b_sX (pc := 856) (as := [.ref 0, .int (X.1.2.2 ((6 * j) + 1)), .ref 89]) dL_law_856 (lc_RL_130 rfl) ceL_tell (sL_tell (d := 1898) m) rfl rfl (Nat.le_of_ble_eq_true rfl) (fun h1 qo m1 f1 => ?_)
  have m3 : MM h1 t := m2.fo m1.1.1 f1
  have hn1 : hN h1 = 90 := m1.1.1.1
  obtain ⟨v, ev⟩ : ∃ v, v = (oTell t (X.1.2.2 (6 * j + 1))).1 := ⟨_, rfl⟩
  rw [← ev] at qo ⊢
  refine a_istore (pc := 859) (i := 5) (ls' := [(0, .ref 1000), (1, .ref 0), (2, .ref 66), (3, .ref 89), (4, .int (nI (6 * j))), (5, .int (nI (kn [eIA] v)))]) dL_law_859 (Nat.le_of_ble_eq_true rfl) rfl ?_
  refine a_aload_n (pc := 861) (i := 2) dL_law_861 rfl rfl ?_
  refine a_aload_n (pc := 862) (i := 0) dL_law_862 rfl rfl ?_
  refine a_iload (pc := 863) (i := 4) dL_law_863 rfl ?_
  refine a_iconst (pc := 865) (v := nI 1) dL_law_865 (by decide) ?_
  refine n_iadd (pc := 866) dL_law_866 ?_
  refine a_sald (pc := 867) (j := ((6 * j) + 1)) dL_law_867 rfl (by omega) (by omega) (by omega) ?_
  refine b_vQm (pc := 868) (as := [.int (X.1.2.2 ((6 * j) + 1))]) (b := 66) (ci := 5) dL_law_868 (lc_RL_132 rfl) ceX5_tell rfl (lt90 hn1 (shK_lt (show shK 66 = _ from rfl))) (s5_tell (d := 1699) m3) rfl rfl (Nat.le_of_ble_eq_true rfl) (fun u h2 e1 e2 m4 f2 => ?_)
  rw [← ev] at e1 e2
  have m5 : IM h2 ((oTell t (X.1.2.2 (6 * j + 1))).2) := f2.im m1
  have hn2 : hN h2 = 90 := m5.1.1.1
  refine a_istore (pc := 871) (i := 6) (ls' := [(0, .ref 1000), (1, .ref 0), (2, .ref 66), (3, .ref 89), (4, .int (nI (6 * j))), (5, .int (nI (kn [eIA] v))), (6, .int u)]) dL_law_871 (Nat.le_of_ble_eq_true rfl) rfl ?_
  refine a_aload_n (pc := 873) (i := 2) dL_law_873 rfl rfl ?_
  refine a_vV1 (pc := 874) (as := []) (b := 66) (ci := 5) (v := .int (hI h2 66 0)) (h' := h2) dL_law_874 (lc_RL_75 rfl) ceX5_thrown rfl (lt90 hn2 (shK_lt (show shK 66 = _ from rfl))) (s5_thrown hn2) rfl rfl (Nat.le_of_ble_eq_true rfl) rfl ?_
  refine a_top (show (.int (hI h2 66 0) : Value) = .int (nI (kn [eIA] v)) from congrArg Value.int e2) ?_
  refine a_iload (pc := 877) (i := 5) dL_law_877 rfl ?_
  refine a_icmp_eq (pc := 879) (tgt := 884) dL_law_879 (by decide) (fun c1 => ?_) (fun c1 => ?_)
  · skip
    refine a_iload (pc := 884) (i := 5) dL_law_884 rfl ?_
    refine a_if_ne (pc := 886) (tgt := 901) dL_law_886 (by decide) (fun c2 => ?_) (fun c2 => ?_)
    · skip
      refine a_goto (pc := 901) (tgt := 1167) dL_law_901 (by decide) ?_
      refine a_drop (ls' := [(0, .ref 1000), (1, .ref 0), (2, .ref 66), (3, .ref 89), (4, .int (nI (6 * j)))]) (by simp) ?_
      exact K _ h2 m5 m4
    · obtain ⟨w, hw⟩ : ∃ w, v = .inl (some (.int w)) := RIe.kn (by rw [ev]; exact re_tell) (Nat.le_of_ble_eq_true rfl) c2
      have o1 : hL h2 89 0 = w.toInt64 := by rw [(f2.2.2 89 (Or.inr rfl)).2]; exact qo w hw
      have eu : u = w := e1 w hw
      refine a_aload_n (pc := 889) (i := 3) dL_law_889 rfl rfl ?_
      refine a_iconst (pc := 890) (v := nI 0) dL_law_890 (by decide) ?_
      refine a_lald (pc := 891) (j := 0) dL_law_891 rfl (lt90 hn2 (shK_lt (show shK 89 = _ from rfl))) rfl (by omega) ?_
      refine a_iload (pc := 892) (i := 6) dL_law_892 rfl ?_
      refine a_i2l (pc := 894) dL_law_894 ?_
      refine a_lcmp (pc := 895) dL_law_895 ?_
      refine a_if_eq (pc := 896) (tgt := 901) dL_law_896 (by decide) (fun c3 => ?_) (fun c3 => ?_)
      · skip
        refine a_goto (pc := 901) (tgt := 1167) dL_law_901 (by decide) ?_
        refine a_drop (ls' := [(0, .ref 1000), (1, .ref 0), (2, .ref 66), (3, .ref 89), (4, .int (nI (6 * j)))]) (by simp) ?_
        exact K _ h2 m5 m4
      · exact absurd (by rw [o1, eu]; exact lg_self) c3
  · exact absurd rfl c1
set_option maxHeartbeats 1500000 in
set_option maxRecDepth 100000 in
theorem lwc_cut {X : XT} {nm : String} {hh : List (Nat × Nat × Nat × Nat)} {kc ks j : Nat} {h : AH} {t : ST} {Q : Res → AH → Prop} (m : IM h t) (m2 : MM h t) (hj : 6 * j + 6 ≤ X.1.2.1) (hX : X.1.2.1 ≤ 3072) (K : ∀ t1 h1, IM h1 t1 → MM h1 t1 → AW X (mLaw nm hh) 2000 kc ks 1167 [(0, .ref 1000), (1, .ref 0), (2, .ref 66), (3, .ref 89), (4, .int (nI (6 * j)))] [] h1 Q) : AW X (mLaw nm hh) 2000 (kc + 1) (ks + 6) 904 [(0, .ref 1000), (1, .ref 0), (2, .ref 66), (3, .ref 89), (4, .int (nI (6 * j)))] [] h Q := by
  have hn := m.1.1.1
  refine a_aload_n (pc := 904) (i := 1) dL_law_904 rfl rfl ?_
  refine a_aload_n (pc := 905) (i := 3) dL_law_905 rfl rfl ?_
  refine b_sX (pc := 906) (as := [.ref 0, .ref 89]) dL_law_906 (lc_RL_133 rfl) ceL_cut (sL_cut (d := 1898) m) rfl rfl (Nat.le_of_ble_eq_true rfl) (fun h1 qo m1 f1 => ?_)
  have m3 : MM h1 t := m2.fo m1.1.1 f1
  have hn1 : hN h1 = 90 := m1.1.1.1
  obtain ⟨v, ev⟩ : ∃ v, v = (oCut t).1 := ⟨_, rfl⟩
  rw [← ev] at qo ⊢
  refine a_istore (pc := 909) (i := 5) (ls' := [(0, .ref 1000), (1, .ref 0), (2, .ref 66), (3, .ref 89), (4, .int (nI (6 * j))), (5, .int (nI (kn [eIS] v)))]) dL_law_909 (Nat.le_of_ble_eq_true rfl) rfl ?_
  refine a_aload_n (pc := 911) (i := 2) dL_law_911 rfl rfl ?_
  refine b_vQm (pc := 912) (as := []) (b := 66) (ci := 5) dL_law_912 (lc_RL_136 rfl) ceX5_cut rfl (lt90 hn1 (shK_lt (show shK 66 = _ from rfl))) (s5_cut (d := 1699) m3) rfl rfl (Nat.le_of_ble_eq_true rfl) (fun u h2 e1 e2 m4 f2 => ?_)
  rw [← ev] at e1 e2
  have m5 : IM h2 ((oCut t).2) := f2.im m1
  have hn2 : hN h2 = 90 := m5.1.1.1
  refine a_istore (pc := 915) (i := 6) (ls' := [(0, .ref 1000), (1, .ref 0), (2, .ref 66), (3, .ref 89), (4, .int (nI (6 * j))), (5, .int (nI (kn [eIS] v))), (6, .int u)]) dL_law_915 (Nat.le_of_ble_eq_true rfl) rfl ?_
  refine a_aload_n (pc := 917) (i := 2) dL_law_917 rfl rfl ?_
  refine a_vV1 (pc := 918) (as := []) (b := 66) (ci := 5) (v := .int (hI h2 66 0)) (h' := h2) dL_law_918 (lc_RL_75 rfl) ceX5_thrown rfl (lt90 hn2 (shK_lt (show shK 66 = _ from rfl))) (s5_thrown hn2) rfl rfl (Nat.le_of_ble_eq_true rfl) rfl ?_
  refine a_top (show (.int (hI h2 66 0) : Value) = .int (nI (kn [eIS] v)) from congrArg Value.int e2) ?_
  refine a_iload (pc := 921) (i := 5) dL_law_921 rfl ?_
  refine a_icmp_eq (pc := 923) (tgt := 928) dL_law_923 (by decide) (fun c1 => ?_) (fun c1 => ?_)
  · skip
    refine a_iload (pc := 928) (i := 5) dL_law_928 rfl ?_
    refine a_if_ne (pc := 930) (tgt := 945) dL_law_930 (by decide) (fun c2 => ?_) (fun c2 => ?_)
    · skip
      refine a_goto (pc := 945) (tgt := 1167) dL_law_945 (by decide) ?_
      refine a_drop (ls' := [(0, .ref 1000), (1, .ref 0), (2, .ref 66), (3, .ref 89), (4, .int (nI (6 * j)))]) (by simp) ?_
      exact K _ h2 m5 m4
    · obtain ⟨w, hw⟩ : ∃ w, v = .inl (some (.int w)) := RIe.kn (by rw [ev]; exact re_cut) (Nat.le_of_ble_eq_true rfl) c2
      have o1 : hL h2 89 0 = w.toInt64 := by rw [(f2.2.2 89 (Or.inr rfl)).2]; exact qo w hw
      have eu : u = w := e1 w hw
      refine a_aload_n (pc := 933) (i := 3) dL_law_933 rfl rfl ?_
      refine a_iconst (pc := 934) (v := nI 0) dL_law_934 (by decide) ?_
      refine a_lald (pc := 935) (j := 0) dL_law_935 rfl (lt90 hn2 (shK_lt (show shK 89 = _ from rfl))) rfl (by omega) ?_
      refine a_iload (pc := 936) (i := 6) dL_law_936 rfl ?_
      refine a_i2l (pc := 938) dL_law_938 ?_
      refine a_lcmp (pc := 939) dL_law_939 ?_
      refine a_if_eq (pc := 940) (tgt := 945) dL_law_940 (by decide) (fun c3 => ?_) (fun c3 => ?_)
      · skip
        refine a_goto (pc := 945) (tgt := 1167) dL_law_945 (by decide) ?_
        refine a_drop (ls' := [(0, .ref 1000), (1, .ref 0), (2, .ref 66), (3, .ref 89), (4, .int (nI (6 * j)))]) (by simp) ?_
        exact K _ h2 m5 m4
      · exact absurd (by rw [o1, eu]; exact lg_self) c3
  · exact absurd rfl c1
set_option maxHeartbeats 1500000 in
set_option maxRecDepth 100000 in
theorem lwc_snip {X : XT} {nm : String} {hh : List (Nat × Nat × Nat × Nat)} {kc ks j : Nat} {h : AH} {t : ST} {Q : Res → AH → Prop} (m : IM h t) (m2 : MM h t) (hj : 6 * j + 6 ≤ X.1.2.1) (hX : X.1.2.1 ≤ 3072) (K : ∀ t1 h1, IM h1 t1 → MM h1 t1 → AW X (mLaw nm hh) 2000 kc ks 1167 [(0, .ref 1000), (1, .ref 0), (2, .ref 66), (3, .ref 89), (4, .int (nI (6 * j)))] [] h1 Q) : AW X (mLaw nm hh) 2000 (kc + 1) (ks + 6) 948 [(0, .ref 1000), (1, .ref 0), (2, .ref 66), (3, .ref 89), (4, .int (nI (6 * j)))] [] h Q := by
  have hn := m.1.1.1
  refine a_aload_n (pc := 948) (i := 1) dL_law_948 rfl rfl ?_
  refine a_aload_n (pc := 949) (i := 0) dL_law_949 rfl rfl ?_
  refine a_iload (pc := 950) (i := 4) dL_law_950 rfl ?_
  refine a_iconst (pc := 952) (v := nI 1) dL_law_952 (by decide) ?_
  refine n_iadd (pc := 953) dL_law_953 ?_
  refine a_sald (pc := 954) (j := ((6 * j) + 1)) dL_law_954 rfl (by omega) (by omega) (by omega) ?_
  refine a_aload_n (pc := 955) (i := 0) dL_law_955 rfl rfl ?_
  refine a_iload (pc := 956) (i := 4) dL_law_956 rfl ?_
  refine a_iconst (pc := 958) (v := nI 2) dL_law_958 (by decide) ?_
  refine n_iadd (pc := 959) dL_law_959 ?_
  refine a_sald (pc := 960) (j := ((6 * j) + 2)) dL_law_960 rfl (by omega) (by omega) (by omega) ?_
  refine a_aload_n (pc := 961) (i := 0) dL_law_961 rfl rfl ?_
  refine a_iload (pc := 962) (i := 4) dL_law_962 rfl ?_
  refine a_iconst (pc := 964) (v := nI 3) dL_law_964 (by decide) ?_
  refine n_iadd (pc := 965) dL_law_965 ?_
  refine a_sald (pc := 966) (j := ((6 * j) + 3)) dL_law_966 rfl (by omega) (by omega) (by omega) ?_
  refine a_aload_n (pc := 967) (i := 3) dL_law_967 rfl rfl ?_
  refine b_sX (pc := 968) (as := [.ref 0, .int (X.1.2.2 ((6 * j) + 1)), .int (X.1.2.2 ((6 * j) + 2)), .int (X.1.2.2 ((6 * j) + 3)), .ref 89]) dL_law_968 (lc_RL_137 rfl) ceL_snip (sL_snip (d := 1898) m) rfl rfl (Nat.le_of_ble_eq_true rfl) (fun h1 qo m1 f1 => ?_)
  have m3 : MM h1 t := m2.fo m1.1.1 f1
  have hn1 : hN h1 = 90 := m1.1.1.1
  obtain ⟨v, ev⟩ : ∃ v, v = (oSnip t (X.1.2.2 (6 * j + 1)) (X.1.2.2 (6 * j + 2)) (X.1.2.2 (6 * j + 3))).1 := ⟨_, rfl⟩
  rw [← ev] at qo ⊢
  refine a_istore (pc := 971) (i := 5) (ls' := [(0, .ref 1000), (1, .ref 0), (2, .ref 66), (3, .ref 89), (4, .int (nI (6 * j))), (5, .int (nI (kn [eIO, eIA, eIS] v)))]) dL_law_971 (Nat.le_of_ble_eq_true rfl) rfl ?_
  refine a_aload_n (pc := 973) (i := 2) dL_law_973 rfl rfl ?_
  refine a_aload_n (pc := 974) (i := 0) dL_law_974 rfl rfl ?_
  refine a_iload (pc := 975) (i := 4) dL_law_975 rfl ?_
  refine a_iconst (pc := 977) (v := nI 1) dL_law_977 (by decide) ?_
  refine n_iadd (pc := 978) dL_law_978 ?_
  refine a_sald (pc := 979) (j := ((6 * j) + 1)) dL_law_979 rfl (by omega) (by omega) (by omega) ?_
  refine a_aload_n (pc := 980) (i := 0) dL_law_980 rfl rfl ?_
  refine a_iload (pc := 981) (i := 4) dL_law_981 rfl ?_
  refine a_iconst (pc := 983) (v := nI 2) dL_law_983 (by decide) ?_
  refine n_iadd (pc := 984) dL_law_984 ?_
  refine a_sald (pc := 985) (j := ((6 * j) + 2)) dL_law_985 rfl (by omega) (by omega) (by omega) ?_
  refine a_aload_n (pc := 986) (i := 0) dL_law_986 rfl rfl ?_
  refine a_iload (pc := 987) (i := 4) dL_law_987 rfl ?_
  refine a_iconst (pc := 989) (v := nI 3) dL_law_989 (by decide) ?_
  refine n_iadd (pc := 990) dL_law_990 ?_
  refine a_sald (pc := 991) (j := ((6 * j) + 3)) dL_law_991 rfl (by omega) (by omega) (by omega) ?_
  refine b_vQm (pc := 992) (as := [.int (X.1.2.2 ((6 * j) + 1)), .int (X.1.2.2 ((6 * j) + 2)), .int (X.1.2.2 ((6 * j) + 3))]) (b := 66) (ci := 5) dL_law_992 (lc_RL_139 rfl) ceX5_snip rfl (lt90 hn1 (shK_lt (show shK 66 = _ from rfl))) (s5_snip (d := 1699) m3) rfl rfl (Nat.le_of_ble_eq_true rfl) (fun u h2 e1 e2 m4 f2 => ?_)
  rw [← ev] at e1 e2
  have m5 : IM h2 ((oSnip t (X.1.2.2 (6 * j + 1)) (X.1.2.2 (6 * j + 2)) (X.1.2.2 (6 * j + 3))).2) := f2.im m1
  have hn2 : hN h2 = 90 := m5.1.1.1
  refine a_istore (pc := 995) (i := 6) (ls' := [(0, .ref 1000), (1, .ref 0), (2, .ref 66), (3, .ref 89), (4, .int (nI (6 * j))), (5, .int (nI (kn [eIO, eIA, eIS] v))), (6, .int u)]) dL_law_995 (Nat.le_of_ble_eq_true rfl) rfl ?_
  refine a_aload_n (pc := 997) (i := 2) dL_law_997 rfl rfl ?_
  refine a_vV1 (pc := 998) (as := []) (b := 66) (ci := 5) (v := .int (hI h2 66 0)) (h' := h2) dL_law_998 (lc_RL_75 rfl) ceX5_thrown rfl (lt90 hn2 (shK_lt (show shK 66 = _ from rfl))) (s5_thrown hn2) rfl rfl (Nat.le_of_ble_eq_true rfl) rfl ?_
  refine a_top (show (.int (hI h2 66 0) : Value) = .int (nI (kn [eIO, eIA, eIS] v)) from congrArg Value.int e2) ?_
  refine a_iload (pc := 1001) (i := 5) dL_law_1001 rfl ?_
  refine a_icmp_eq (pc := 1003) (tgt := 1008) dL_law_1003 (by decide) (fun c1 => ?_) (fun c1 => ?_)
  · skip
    refine a_iload (pc := 1008) (i := 5) dL_law_1008 rfl ?_
    refine a_if_ne (pc := 1010) (tgt := 1025) dL_law_1010 (by decide) (fun c2 => ?_) (fun c2 => ?_)
    · skip
      refine a_goto (pc := 1025) (tgt := 1167) dL_law_1025 (by decide) ?_
      refine a_drop (ls' := [(0, .ref 1000), (1, .ref 0), (2, .ref 66), (3, .ref 89), (4, .int (nI (6 * j)))]) (by simp) ?_
      exact K _ h2 m5 m4
    · obtain ⟨w, hw⟩ : ∃ w, v = .inl (some (.int w)) := RIe.kn (by rw [ev]; exact re_snip) (Nat.le_of_ble_eq_true rfl) c2
      have o1 : hL h2 89 0 = w.toInt64 := by rw [(f2.2.2 89 (Or.inr rfl)).2]; exact qo w hw
      have eu : u = w := e1 w hw
      refine a_aload_n (pc := 1013) (i := 3) dL_law_1013 rfl rfl ?_
      refine a_iconst (pc := 1014) (v := nI 0) dL_law_1014 (by decide) ?_
      refine a_lald (pc := 1015) (j := 0) dL_law_1015 rfl (lt90 hn2 (shK_lt (show shK 89 = _ from rfl))) rfl (by omega) ?_
      refine a_iload (pc := 1016) (i := 6) dL_law_1016 rfl ?_
      refine a_i2l (pc := 1018) dL_law_1018 ?_
      refine a_lcmp (pc := 1019) dL_law_1019 ?_
      refine a_if_eq (pc := 1020) (tgt := 1025) dL_law_1020 (by decide) (fun c3 => ?_) (fun c3 => ?_)
      · skip
        refine a_goto (pc := 1025) (tgt := 1167) dL_law_1025 (by decide) ?_
        refine a_drop (ls' := [(0, .ref 1000), (1, .ref 0), (2, .ref 66), (3, .ref 89), (4, .int (nI (6 * j)))]) (by simp) ?_
        exact K _ h2 m5 m4
      · exact absurd (by rw [o1, eu]; exact lg_self) c3
  · exact absurd rfl c1
set_option maxHeartbeats 1500000 in
set_option maxRecDepth 100000 in
theorem lwc_least {X : XT} {nm : String} {hh : List (Nat × Nat × Nat × Nat)} {kc ks j : Nat} {h : AH} {t : ST} {Q : Res → AH → Prop} (m : IM h t) (m2 : MM h t) (hj : 6 * j + 6 ≤ X.1.2.1) (hX : X.1.2.1 ≤ 3072) (K : ∀ t1 h1, IM h1 t1 → MM h1 t1 → AW X (mLaw nm hh) 2000 kc ks 1167 [(0, .ref 1000), (1, .ref 0), (2, .ref 66), (3, .ref 89), (4, .int (nI (6 * j)))] [] h1 Q) : AW X (mLaw nm hh) 2000 (kc + 1) (ks + 6) 1028 [(0, .ref 1000), (1, .ref 0), (2, .ref 66), (3, .ref 89), (4, .int (nI (6 * j)))] [] h Q := by
  have hn := m.1.1.1
  refine a_aload_n (pc := 1028) (i := 1) dL_law_1028 rfl rfl ?_
  refine a_aload_n (pc := 1029) (i := 0) dL_law_1029 rfl rfl ?_
  refine a_iload (pc := 1030) (i := 4) dL_law_1030 rfl ?_
  refine a_iconst (pc := 1032) (v := nI 1) dL_law_1032 (by decide) ?_
  refine n_iadd (pc := 1033) dL_law_1033 ?_
  refine a_sald (pc := 1034) (j := ((6 * j) + 1)) dL_law_1034 rfl (by omega) (by omega) (by omega) ?_
  refine a_aload_n (pc := 1035) (i := 3) dL_law_1035 rfl rfl ?_
  refine b_sX (pc := 1036) (as := [.ref 0, .int (X.1.2.2 ((6 * j) + 1)), .ref 89]) dL_law_1036 (lc_RL_140 rfl) ceL_least (sL_least (d := 1898) m) rfl rfl (Nat.le_of_ble_eq_true rfl) (fun h1 qo m1 f1 => ?_)
  have m3 : MM h1 t := m2.fo m1.1.1 f1
  have hn1 : hN h1 = 90 := m1.1.1.1
  obtain ⟨v, ev⟩ : ∃ v, v = (oLeast t (X.1.2.2 (6 * j + 1))).1 := ⟨_, rfl⟩
  rw [← ev] at qo ⊢
  refine a_istore (pc := 1039) (i := 5) (ls' := [(0, .ref 1000), (1, .ref 0), (2, .ref 66), (3, .ref 89), (4, .int (nI (6 * j))), (5, .int (nI (kn [eIA] v)))]) dL_law_1039 (Nat.le_of_ble_eq_true rfl) rfl ?_
  refine a_aload_n (pc := 1041) (i := 2) dL_law_1041 rfl rfl ?_
  refine a_aload_n (pc := 1042) (i := 0) dL_law_1042 rfl rfl ?_
  refine a_iload (pc := 1043) (i := 4) dL_law_1043 rfl ?_
  refine a_iconst (pc := 1045) (v := nI 1) dL_law_1045 (by decide) ?_
  refine n_iadd (pc := 1046) dL_law_1046 ?_
  refine a_sald (pc := 1047) (j := ((6 * j) + 1)) dL_law_1047 rfl (by omega) (by omega) (by omega) ?_
  refine b_vQm (pc := 1048) (as := [.int (X.1.2.2 ((6 * j) + 1))]) (b := 66) (ci := 5) dL_law_1048 (lc_RL_142 rfl) ceX5_least rfl (lt90 hn1 (shK_lt (show shK 66 = _ from rfl))) (s5_least (d := 1699) m3) rfl rfl (Nat.le_of_ble_eq_true rfl) (fun u h2 e1 e2 m4 f2 => ?_)
  rw [← ev] at e1 e2
  have m5 : IM h2 ((oLeast t (X.1.2.2 (6 * j + 1))).2) := f2.im m1
  have hn2 : hN h2 = 90 := m5.1.1.1
  refine a_istore (pc := 1051) (i := 6) (ls' := [(0, .ref 1000), (1, .ref 0), (2, .ref 66), (3, .ref 89), (4, .int (nI (6 * j))), (5, .int (nI (kn [eIA] v))), (6, .int u)]) dL_law_1051 (Nat.le_of_ble_eq_true rfl) rfl ?_
  refine a_aload_n (pc := 1053) (i := 2) dL_law_1053 rfl rfl ?_
  refine a_vV1 (pc := 1054) (as := []) (b := 66) (ci := 5) (v := .int (hI h2 66 0)) (h' := h2) dL_law_1054 (lc_RL_75 rfl) ceX5_thrown rfl (lt90 hn2 (shK_lt (show shK 66 = _ from rfl))) (s5_thrown hn2) rfl rfl (Nat.le_of_ble_eq_true rfl) rfl ?_
  refine a_top (show (.int (hI h2 66 0) : Value) = .int (nI (kn [eIA] v)) from congrArg Value.int e2) ?_
  refine a_iload (pc := 1057) (i := 5) dL_law_1057 rfl ?_
  refine a_icmp_eq (pc := 1059) (tgt := 1064) dL_law_1059 (by decide) (fun c1 => ?_) (fun c1 => ?_)
  · skip
    refine a_iload (pc := 1064) (i := 5) dL_law_1064 rfl ?_
    refine a_if_ne (pc := 1066) (tgt := 1081) dL_law_1066 (by decide) (fun c2 => ?_) (fun c2 => ?_)
    · skip
      refine a_goto (pc := 1081) (tgt := 1167) dL_law_1081 (by decide) ?_
      refine a_drop (ls' := [(0, .ref 1000), (1, .ref 0), (2, .ref 66), (3, .ref 89), (4, .int (nI (6 * j)))]) (by simp) ?_
      exact K _ h2 m5 m4
    · obtain ⟨w, hw⟩ : ∃ w, v = .inl (some (.int w)) := RIe.kn (by rw [ev]; exact re_least) (Nat.le_of_ble_eq_true rfl) c2
      have o1 : hL h2 89 0 = w.toInt64 := by rw [(f2.2.2 89 (Or.inr rfl)).2]; exact qo w hw
      have eu : u = w := e1 w hw
      refine a_aload_n (pc := 1069) (i := 3) dL_law_1069 rfl rfl ?_
      refine a_iconst (pc := 1070) (v := nI 0) dL_law_1070 (by decide) ?_
      refine a_lald (pc := 1071) (j := 0) dL_law_1071 rfl (lt90 hn2 (shK_lt (show shK 89 = _ from rfl))) rfl (by omega) ?_
      refine a_iload (pc := 1072) (i := 6) dL_law_1072 rfl ?_
      refine a_i2l (pc := 1074) dL_law_1074 ?_
      refine a_lcmp (pc := 1075) dL_law_1075 ?_
      refine a_if_eq (pc := 1076) (tgt := 1081) dL_law_1076 (by decide) (fun c3 => ?_) (fun c3 => ?_)
      · skip
        refine a_goto (pc := 1081) (tgt := 1167) dL_law_1081 (by decide) ?_
        refine a_drop (ls' := [(0, .ref 1000), (1, .ref 0), (2, .ref 66), (3, .ref 89), (4, .int (nI (6 * j)))]) (by simp) ?_
        exact K _ h2 m5 m4
      · exact absurd (by rw [o1, eu]; exact lg_self) c3
  · exact absurd rfl c1
set_option maxHeartbeats 1500000 in
set_option maxRecDepth 100000 in
theorem lwc_mend {X : XT} {nm : String} {hh : List (Nat × Nat × Nat × Nat)} {kc ks j : Nat} {h : AH} {t : ST} {Q : Res → AH → Prop} (m : IM h t) (m2 : MM h t) (hj : 6 * j + 6 ≤ X.1.2.1) (hX : X.1.2.1 ≤ 3072) (K : ∀ t1 h1, IM h1 t1 → MM h1 t1 → AW X (mLaw nm hh) 2000 kc ks 1167 [(0, .ref 1000), (1, .ref 0), (2, .ref 66), (3, .ref 89), (4, .int (nI (6 * j)))] [] h1 Q) : AW X (mLaw nm hh) 2000 (kc + 1) (ks + 6) 1084 [(0, .ref 1000), (1, .ref 0), (2, .ref 66), (3, .ref 89), (4, .int (nI (6 * j)))] [] h Q := by
  have hn := m.1.1.1
  refine a_aload_n (pc := 1084) (i := 1) dL_law_1084 rfl rfl ?_
  refine a_aload_n (pc := 1085) (i := 0) dL_law_1085 rfl rfl ?_
  refine a_iload (pc := 1086) (i := 4) dL_law_1086 rfl ?_
  refine a_iconst (pc := 1088) (v := nI 1) dL_law_1088 (by decide) ?_
  refine n_iadd (pc := 1089) dL_law_1089 ?_
  refine a_sald (pc := 1090) (j := ((6 * j) + 1)) dL_law_1090 rfl (by omega) (by omega) (by omega) ?_
  refine a_aload_n (pc := 1091) (i := 3) dL_law_1091 rfl rfl ?_
  refine b_sX (pc := 1092) (as := [.ref 0, .int (X.1.2.2 ((6 * j) + 1)), .ref 89]) dL_law_1092 (lc_RL_143 rfl) ceL_mend (sL_mend (d := 1898) m) rfl rfl (Nat.le_of_ble_eq_true rfl) (fun h1 qo m1 f1 => ?_)
  have m3 : MM h1 t := m2.fo m1.1.1 f1
  have hn1 : hN h1 = 90 := m1.1.1.1
  obtain ⟨v, ev⟩ : ∃ v, v = (oMend t (X.1.2.2 (6 * j + 1))).1 := ⟨_, rfl⟩
  rw [← ev] at qo ⊢
  refine a_istore (pc := 1095) (i := 5) (ls' := [(0, .ref 1000), (1, .ref 0), (2, .ref 66), (3, .ref 89), (4, .int (nI (6 * j))), (5, .int (nI (kn [eIO, eIS] v)))]) dL_law_1095 (Nat.le_of_ble_eq_true rfl) rfl ?_
  refine a_aload_n (pc := 1097) (i := 2) dL_law_1097 rfl rfl ?_
  refine a_aload_n (pc := 1098) (i := 0) dL_law_1098 rfl rfl ?_
  refine a_iload (pc := 1099) (i := 4) dL_law_1099 rfl ?_
  refine a_iconst (pc := 1101) (v := nI 1) dL_law_1101 (by decide) ?_
  refine n_iadd (pc := 1102) dL_law_1102 ?_
  refine a_sald (pc := 1103) (j := ((6 * j) + 1)) dL_law_1103 rfl (by omega) (by omega) (by omega) ?_
  refine b_vQm (pc := 1104) (as := [.int (X.1.2.2 ((6 * j) + 1))]) (b := 66) (ci := 5) dL_law_1104 (lc_RL_145 rfl) ceX5_mend rfl (lt90 hn1 (shK_lt (show shK 66 = _ from rfl))) (s5_mend (d := 1699) m3) rfl rfl (Nat.le_of_ble_eq_true rfl) (fun u h2 e1 e2 m4 f2 => ?_)
  rw [← ev] at e1 e2
  have m5 : IM h2 ((oMend t (X.1.2.2 (6 * j + 1))).2) := f2.im m1
  have hn2 : hN h2 = 90 := m5.1.1.1
  refine a_istore (pc := 1107) (i := 6) (ls' := [(0, .ref 1000), (1, .ref 0), (2, .ref 66), (3, .ref 89), (4, .int (nI (6 * j))), (5, .int (nI (kn [eIO, eIS] v))), (6, .int u)]) dL_law_1107 (Nat.le_of_ble_eq_true rfl) rfl ?_
  refine a_aload_n (pc := 1109) (i := 2) dL_law_1109 rfl rfl ?_
  refine a_vV1 (pc := 1110) (as := []) (b := 66) (ci := 5) (v := .int (hI h2 66 0)) (h' := h2) dL_law_1110 (lc_RL_75 rfl) ceX5_thrown rfl (lt90 hn2 (shK_lt (show shK 66 = _ from rfl))) (s5_thrown hn2) rfl rfl (Nat.le_of_ble_eq_true rfl) rfl ?_
  refine a_top (show (.int (hI h2 66 0) : Value) = .int (nI (kn [eIO, eIS] v)) from congrArg Value.int e2) ?_
  refine a_iload (pc := 1113) (i := 5) dL_law_1113 rfl ?_
  refine a_icmp_eq (pc := 1115) (tgt := 1120) dL_law_1115 (by decide) (fun c1 => ?_) (fun c1 => ?_)
  · skip
    refine a_iload (pc := 1120) (i := 5) dL_law_1120 rfl ?_
    refine a_if_ne (pc := 1122) (tgt := 1137) dL_law_1122 (by decide) (fun c2 => ?_) (fun c2 => ?_)
    · skip
      refine a_goto (pc := 1137) (tgt := 1167) dL_law_1137 (by decide) ?_
      refine a_drop (ls' := [(0, .ref 1000), (1, .ref 0), (2, .ref 66), (3, .ref 89), (4, .int (nI (6 * j)))]) (by simp) ?_
      exact K _ h2 m5 m4
    · obtain ⟨w, hw⟩ : ∃ w, v = .inl (some (.int w)) := RIe.kn (by rw [ev]; exact re_mend) (Nat.le_of_ble_eq_true rfl) c2
      have o1 : hL h2 89 0 = w.toInt64 := by rw [(f2.2.2 89 (Or.inr rfl)).2]; exact qo w hw
      have eu : u = w := e1 w hw
      refine a_aload_n (pc := 1125) (i := 3) dL_law_1125 rfl rfl ?_
      refine a_iconst (pc := 1126) (v := nI 0) dL_law_1126 (by decide) ?_
      refine a_lald (pc := 1127) (j := 0) dL_law_1127 rfl (lt90 hn2 (shK_lt (show shK 89 = _ from rfl))) rfl (by omega) ?_
      refine a_iload (pc := 1128) (i := 6) dL_law_1128 rfl ?_
      refine a_i2l (pc := 1130) dL_law_1130 ?_
      refine a_lcmp (pc := 1131) dL_law_1131 ?_
      refine a_if_eq (pc := 1132) (tgt := 1137) dL_law_1132 (by decide) (fun c3 => ?_) (fun c3 => ?_)
      · skip
        refine a_goto (pc := 1137) (tgt := 1167) dL_law_1137 (by decide) ?_
        refine a_drop (ls' := [(0, .ref 1000), (1, .ref 0), (2, .ref 66), (3, .ref 89), (4, .int (nI (6 * j)))]) (by simp) ?_
        exact K _ h2 m5 m4
      · exact absurd (by rw [o1, eu]; exact lg_self) c3
  · exact absurd rfl c1
set_option maxHeartbeats 1500000 in
set_option maxRecDepth 100000 in
theorem lwc_undo {X : XT} {nm : String} {hh : List (Nat × Nat × Nat × Nat)} {kc ks j : Nat} {h : AH} {t : ST} {Q : Res → AH → Prop} (m : IM h t) (m2 : MM h t) (hj : 6 * j + 6 ≤ X.1.2.1) (hX : X.1.2.1 ≤ 3072) (K : ∀ t1 h1, IM h1 t1 → MM h1 t1 → AW X (mLaw nm hh) 2000 kc ks 1167 [(0, .ref 1000), (1, .ref 0), (2, .ref 66), (3, .ref 89), (4, .int (nI (6 * j)))] [] h1 Q) : AW X (mLaw nm hh) 2000 (kc + 1) (ks + 6) 1140 [(0, .ref 1000), (1, .ref 0), (2, .ref 66), (3, .ref 89), (4, .int (nI (6 * j)))] [] h Q := by
  have hn := m.1.1.1
  refine AW.mono (kc := kc) (ks := ks) ?_ (Nat.le_add_right _ _) (Nat.le_add_right _ _)
  obtain ⟨u, hu⟩ : ∃ u, (oUndo t).1 = .inl (some (.int u)) := RIe.nil re_undo
  refine a_aload_n (pc := 1140) (i := 1) dL_law_1140 rfl rfl ?_
  refine b_vR (w := .int u) (R := fun h2 => IM h2 ((oUndo t).2) ∧ Fw h h2) (pc := 1141) (as := []) (b := 0) (ci := 4) dL_law_1141 (lc_RL_146 rfl) ceX4_undo rfl (lt90 hn (shK_lt (show shK 0 = _ from rfl))) (sp_undo (d := 1899) m) rfl rfl (Nat.le_of_ble_eq_true rfl) (fun r h2 q => ⟨q.1.trans hu, q.2.2.1, q.2⟩) (fun h1 q1 => ?_)
  obtain ⟨m1, f1⟩ := q1
  have m3 : MM h1 t := m2.fo m1.1.1 f1.fo
  have hn1 : hN h1 = 90 := m1.1.1.1
  refine a_aload_n (pc := 1144) (i := 2) dL_law_1144 rfl rfl ?_
  refine b_vR (w := .int u) (R := fun h2 => MM h2 ((oUndo t).2) ∧ Fm h1 h2) (pc := 1145) (as := []) (b := 66) (ci := 5) dL_law_1145 (lc_RL_149 rfl) ceX5_undo rfl (lt90 hn1 (shK_lt (show shK 66 = _ from rfl))) (s5_undo (d := 1699) m3) rfl rfl (Nat.le_of_ble_eq_true rfl) (fun r h3 q => by obtain ⟨u2, e1, e2, e3⟩ := q; rw [hu] at e2; exact ⟨e1.trans e2.symm, e3.2.1, e3⟩) (fun h2 q2 => ?_)
  obtain ⟨m4, f2⟩ := q2
  have m5 : IM h2 ((oUndo t).2) := f2.im m1
  refine a_icmp_eq (pc := 1148) (tgt := 1167) dL_law_1148 (by decide) (fun c1 => ?_) (fun c1 => ?_)
  · skip
    exact K _ h2 m5 m4
  · exact absurd rfl c1
set_option maxHeartbeats 1500000 in
set_option maxRecDepth 100000 in
theorem lwc_checksum {X : XT} {nm : String} {hh : List (Nat × Nat × Nat × Nat)} {kc ks j : Nat} {h : AH} {t : ST} {Q : Res → AH → Prop} (m : IM h t) (m2 : MM h t) (hj : 6 * j + 6 ≤ X.1.2.1) (hX : X.1.2.1 ≤ 3072) (K : ∀ t1 h1, IM h1 t1 → MM h1 t1 → AW X (mLaw nm hh) 2000 kc ks 1167 [(0, .ref 1000), (1, .ref 0), (2, .ref 66), (3, .ref 89), (4, .int (nI (6 * j)))] [] h1 Q) : AW X (mLaw nm hh) 2000 (kc + 1) (ks + 6) 1153 [(0, .ref 1000), (1, .ref 0), (2, .ref 66), (3, .ref 89), (4, .int (nI (6 * j)))] [] h Q := by
  have hn := m.1.1.1
  refine AW.mono (kc := kc) (ks := ks) ?_ (Nat.le_add_right _ _) (Nat.le_add_right _ _)
  refine a_aload_n (pc := 1153) (i := 1) dL_law_1153 rfl rfl ?_
  refine b_vR (w := .long (ckS (tC t))) (R := fun h2 => IM h2 t ∧ Fw h h2) (pc := 1154) (as := []) (b := 0) (ci := 4) dL_law_1154 (lc_RL_150 rfl) ceX4_checksum rfl (lt90 hn (shK_lt (show shK 0 = _ from rfl))) (sp_checksum (d := 1899) m) rfl rfl (Nat.le_of_ble_eq_true rfl) (fun r h2 q => ⟨q.1, q.2.2.1, q.2⟩) (fun h1 q1 => ?_)
  obtain ⟨m1, f1⟩ := q1
  have m3 : MM h1 t := m2.fo m1.1.1 f1.fo
  have hn1 : hN h1 = 90 := m1.1.1.1
  refine a_aload_n (pc := 1157) (i := 2) dL_law_1157 rfl rfl ?_
  refine b_vR (w := .long (ckS (tC t))) (R := fun h2 => MM h2 t ∧ Fm h1 h2) (pc := 1158) (as := []) (b := 66) (ci := 5) dL_law_1158 (lc_RL_154 rfl) ceX5_checksum rfl (lt90 hn1 (shK_lt (show shK 66 = _ from rfl))) (s5_checksum (d := 1699) m3) rfl rfl (Nat.le_of_ble_eq_true rfl) (fun r h3 q => ⟨q.1, q.2.2.1, q.2⟩) (fun h2 q2 => ?_)
  obtain ⟨m4, f2⟩ := q2
  have m5 : IM h2 t := f2.im m1
  refine a_lcmp (pc := 1161) dL_law_1161 ?_
  refine a_if_eq (pc := 1162) (tgt := 1167) dL_law_1162 (by decide) (fun c1 => ?_) (fun c1 => ?_)
  · skip
    exact K _ h2 m5 m4
  · exact absurd lg_self c1
