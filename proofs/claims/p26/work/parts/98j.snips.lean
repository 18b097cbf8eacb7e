/-! what the object answers to snip -/
theorem spt_pq {s : SH} {sd p : Nat} (hsd : sd < 2) (hp : p < 48) : spt s (nI sd) (nI p) = pq s sd p := by
  rw [spt_n hsd hp]
  unfold pq
  omega
theorem os_yes {t : ST} {sd p m : Nat} (g : GS (tC t)) (h48 : sCells (tC t) ≤ 48) (hsd : sd < 2) (hp : p < sCells (tC t)) (hm : 1 ≤ m ∧ m ≤ 8) (hs : stripP (tC t) sd p m) : oSnip t (nI sd) (nI p) (nI m) = (ri (nI (nThere (tkS (tC t) (pcl (tC t) (pq (tC t) sd p) m) 1 m))), (tkS (tC t) (pcl (tC t) (pq (tC t) sd p) m) 1 m, (tRem t).2)) := by
  obtain ⟨h1, h2, h3, h4, h5, h6⟩ := pq_ok g hsd hp
  have ec := cnt_pcl g h1 (by rw [h4]; exact hs.1) h5.1
  have e : oSnip t (nI sd) (nI p) (nI m) = _ := cif_t ((plOk_pq hsd h48 (by omega)).mpr hp)
  rw [cif_t ⟨m, hm, rfl⟩, i2n_nI (by omega), spt_pq hsd (by omega), cif_t ⟨by rw [h4]; exact hs.1, hs.2⟩, ec] at e
  exact e
theorem os_not {t : ST} {sd p m : Nat} (g : GS (tC t)) (h48 : sCells (tC t) ≤ 48) (hsd : sd < 2) (hp : p < sCells (tC t)) (hm : 1 ≤ m ∧ m ≤ 8) (hs : ¬ stripP (tC t) sd p m) : oSnip t (nI sd) (nI p) (nI m) = (.inr eIS, t) := by
  obtain ⟨h1, h2, h3, h4, h5, h6⟩ := pq_ok g hsd hp
  have e : oSnip t (nI sd) (nI p) (nI m) = _ := cif_t ((plOk_pq hsd h48 (by omega)).mpr hp)
  rw [cif_t ⟨m, hm, rfl⟩, i2n_nI (by omega), spt_pq hsd (by omega), cif_f (fun z => hs ⟨by rw [← h4]; exact z.1, z.2⟩)] at e
  exact e
theorem os_arg {t : ST} {sd p m : Nat} (h48 : sCells (tC t) ≤ 48) (hsd : sd < 2) (hp : p < sCells (tC t)) (hm : m = 0 ∨ (8 < m ∧ m < 100)) : oSnip t (nI sd) (nI p) (nI m) = (.inr eIA, t) := by
  have e : oSnip t (nI sd) (nI p) (nI m) = _ := cif_t ((plOk_pq hsd h48 (by omega)).mpr hp)
  rw [cif_f (fun ⟨j, h, e⟩ => by
    have := (nI_eq (a := m) (b := j) (by omega) (by omega)).mp e
    omega)] at e
  exact e
theorem os_off {t : ST} {sd p : Nat} {x : Int32} (h48 : sCells (tC t) ≤ 48) (hsd : sd < 2) (hp : sCells (tC t) ≤ p ∧ p < 1000) : oSnip t (nI sd) (nI p) x = (.inr eIO, t) := cif_f (fun z => by
  have := (plOk_pq hsd h48 (by omega)).mp z
  omega)
