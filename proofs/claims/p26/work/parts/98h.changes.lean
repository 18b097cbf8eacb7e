/-! the law's Sheet: a message, the least size, a cell that comes back -/
theorem okS_a {k : Nat} : okS (fun a => a = aN k) := okS_k (by rintro x rfl; exact Or.inr (Or.inl kd_a))
theorem msT_of {s : SH} {U : List Nat} {Y : Nat → Int32} (hU : ∀ j, j < U.length → 97 ≤ U.getD j 0 ∧ U.getD j 0 ≤ 122) (hY : ∀ j, j < U.length → Y j = nI (U.getD j 0)) : msT (msOf s U.length Y) = U := by
  have key : ∀ c : Fin 128, 97 ≤ c.1 → i2n (nI c.1 - nI 97) = c.1 - 97 := by decide +kernel
  refine List.ext_getElem (by rw [msT_len]; rfl) (fun i h1 h2 => ?_)
  have e : (msT (msOf s U.length Y)).getD i 0 = U.getD i 0 := by
    rw [msT_at (s := msOf s U.length Y) (k := i) h2]
    show 97 + cif (isLt (Y i)) (i2n (Y i - nI 97)) 0 = _
    have hu := hU i h2
    rw [hY i h2, cif_t (isLt_nc hu), key ⟨U.getD i 0, by omega⟩ hu.1]
    show 97 + (U.getD i 0 - 97) = _
    omega
  rw [List.getD_eq_getElem?_getD, List.getD_eq_getElem?_getD, List.getElem?_eq_getElem h1, List.getElem?_eq_getElem h2] at e
  exact e
theorem LW_msg {h : AH} {k gg r : Nat} {s : SH} {U : List Nat} {Y : Nat → Int32} (l : LW h k gg s) (sr : STR h r U) (hl : U.length ≤ 9) (hU : ∀ j, j < U.length → 97 ≤ U.getD j 0 ∧ U.getD j 0 ≤ 122) (hY : ∀ j, j < U.length → Y j = nI (U.getD j 0)) : LW (sR h (aN k) 6 (some r)) k gg (msOf s U.length Y) := by
  obtain ⟨⟨bs, pa, pn, pb, pg⟩, ⟨f0, f1, f4, f7, f8⟩, ⟨r9, r10, r5⟩, ⟨L, Z, z⟩, ⟨M, rM, sM⟩, gon⟩ := l
  have dq : Dq (fun a => a = aN k) 0 h (sR h (aN k) 6 (some r)) := (Dq.refl (prN_68 pa) : Dq (fun a => a = aN k) 0 h h).sR (Or.inl rfl)
  have rr : ∀ j, j ≠ 6 → hR (sR h (aN k) 6 (some r)) (aN k) j = hR h (aN k) j := fun j hj => by rw [hR_sR, if_neg (fun y => hj y.2)]
  have z2 := LZ.dq (s := s) z dq okS_a pa ⟨rr 2 (by omega), rr 3 (by omega)⟩ (by have := bs.2.2.1; omega)
  refine ⟨⟨⟨GS_ms bs.1 (by omega), bs.2.1, bs.2.2.1, hl⟩, pa, pn, pb, pg⟩, ⟨f0, f1, f4, f7, f8⟩, ⟨(rr 9 (by omega)).trans r9, (rr 10 (by omega)).trans r10, (rr 5 (by omega)).trans r5⟩, ⟨L, Z, z2⟩, ⟨r, by rw [hR_sR, if_pos ⟨rfl, rfl⟩], ?_⟩, gon⟩
  rw [msT_of hU hY]
  exact sr.dq dq okS_a.str
theorem GS_with {s : SH} (g : GS s) {n : Nat} (hn : 1 ≤ n ∧ n ≤ 9) : GS (withS s n) := ⟨g.1, g.2.1, hn, g.2.2.2⟩
theorem LW_least {h : AH} {k gg n : Nat} {s : SH} (l : LW h k gg s) (hn : 1 ≤ n ∧ n ≤ 9) : LW (sI h (aN k) 4 (nI n)) k gg (withS s n) := by
  obtain ⟨⟨bs, pa, pn, pb, pg⟩, ⟨f0, f1, f4, f7, f8⟩, ⟨r9, r10, r5⟩, ⟨L, Z, z⟩, ⟨M, rM, sM⟩, gon⟩ := l
  have dq : Dq (fun a => a = aN k) 0 h (sI h (aN k) 4 (nI n)) := (Dq.refl (prN_68 pa) : Dq (fun a => a = aN k) 0 h h).sI (Or.inl rfl)
  have rr : ∀ j, j ≠ 4 → hI (sI h (aN k) 4 (nI n)) (aN k) j = hI h (aN k) j := fun j hj => by rw [hI_sI, if_neg (fun y => hj y.2)]
  have z2 := LZ.dq (s := s) z dq okS_a pa ⟨rfl, rfl⟩ (by have := bs.2.2.1; omega)
  have hga : gonN k gg s ≠ aN k := fun e => by have := kd_a (k := k); rw [← e, kd_gon bs] at this; cases this
  refine ⟨⟨⟨GS_with bs.1 hn, bs.2.1, bs.2.2.1, bs.2.2.2⟩, pa, pn, pb, pg⟩, ⟨(rr 0 (by omega)).trans f0, (rr 1 (by omega)).trans f1, by rw [hI_sI, if_pos ⟨rfl, rfl⟩]; rfl, (rr 7 (by omega)).trans f7, (rr 8 (by omega)).trans f8⟩, ⟨r9, r10, r5⟩, ⟨L, Z, z2⟩, ⟨M, rM, sM.dq dq okS_a.str⟩, fun c hc => ?_⟩
  show hI (sI h (aN k) 4 (nI n)) (gonN k gg s) c = _
  rw [hI_sI, if_neg (fun y => hga y.1)]
  exact gon c hc
theorem LW_mend {h : AH} {k gg n : Nat} {s : SH} (l : LW h k gg s) : LW (sI h (gonN k gg s) n 0) k gg (mdS s n) := by
  obtain ⟨⟨bs, pa, pn, pb, pg⟩, ⟨f0, f1, f4, f7, f8⟩, ⟨r9, r10, r5⟩, ⟨L, Z, z⟩, ⟨M, rM, sM⟩, gon⟩ := l
  have hga : aN k ≠ gonN k gg s := fun e => by have := kd_a (k := k); rw [e, kd_gon bs] at this; cases this
  have dq : Dq (SG k gg s) 0 h (sI h (gonN k gg s) n 0) := (Dq.refl (prN_68 pa) : Dq (SG k gg s) 0 h h).sI (Or.inl (Or.inr rfl))
  have z2 := LZ.dq (s := s) z dq (okS_SG bs) pa ⟨rfl, rfl⟩ (by have := bs.2.2.1; omega)
  have rr : ∀ j, hI (sI h (gonN k gg s) n 0) (aN k) j = hI h (aN k) j := fun j => by rw [hI_sI, if_neg (fun y => hga y.1)]
  refine ⟨⟨⟨GS_md bs.1, bs.2.1, bs.2.2.1, bs.2.2.2⟩, pa, pn, pb, pg⟩, ⟨(rr 0).trans f0, (rr 1).trans f1, (rr 4).trans f4, (rr 7).trans f7, (rr 8).trans f8⟩, ⟨r9, r10, r5⟩, ⟨L, Z, z2⟩, ⟨M, rM, sM.dq dq (okS_SG bs).str⟩, fun c hc => ?_⟩
  show hI (sI h (gonN k gg s) n 0) (gonN k gg s) c = bi (sGn s c ∧ c ≠ n)
  rw [hI_sI]
  by_cases e : c = n
  · rw [if_pos ⟨rfl, e⟩, bi_f (fun y => y.2 e)]
  · rw [if_neg (fun y => e y.2), gon c hc]
    exact bi_c ⟨fun y => ⟨y, e⟩, fun y => y.1⟩
