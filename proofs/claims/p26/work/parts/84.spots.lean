/-! places and spots; the law's Sheet -/
def pq (s : SH) (sd p : Nat) : Nat := 48 * sd + (8 * (p / sW s) + p % sW s)
def clN (s : SH) (sd p : Nat) : Nat := if sd = 0 then p else p / sW s * sW s + (sW s - 1 - p % sW s)
theorem rw_div {W r x : Nat} (hx : x < W) : (r * W + x) / W = r ∧ (r * W + x) % W = x := by
  constructor
  · rw [Nat.mul_comm, Nat.mul_add_div (by omega), Nat.div_eq_of_lt hx, Nat.add_zero]
  · rw [Nat.mul_comm, Nat.mul_add_mod, Nat.mod_eq_of_lt hx]
theorem rw_lt {W H r x : Nat} (hx : x < W) (hr : r < H) : r * W + x < W * H := by
  have h1 : (r + 1) * W ≤ H * W := Nat.mul_le_mul_right W hr
  rw [Nat.add_mul, Nat.one_mul, Nat.mul_comm H W] at h1
  omega
theorem pl_ok {s : SH} (g : GS s) {p : Nat} (hp : p < sCells s) : p / sW s < sH s ∧ p % sW s < sW s ∧ p / sW s * sW s + p % sW s = p := by
  have gw := g.1
  exact ⟨Nat.div_lt_of_lt_mul hp, Nat.mod_lt p (by omega), Nat.div_add_mod' p (sW s)⟩
theorem clN_ok {s : SH} (g : GS s) {sd p : Nat} (hp : p < sCells s) : clN s sd p < sCells s ∧ clN s sd (clN s sd p) = p ∧ clN s sd p / sW s = p / sW s ∧ clN s sd p % sW s = if sd = 0 then p % sW s else sW s - 1 - p % sW s := by
  obtain ⟨h1, h2, h3⟩ := pl_ok g hp
  unfold clN
  by_cases e : sd = 0
  · simp only [if_pos e]
    exact ⟨hp, trivial, trivial, trivial⟩
  · simp only [if_neg e]
    obtain ⟨d1, d2⟩ := rw_div (W := sW s) (r := p / sW s) (x := sW s - 1 - p % sW s) (by omega)
    refine ⟨rw_lt (by omega) h1, ?_, d1, d2⟩
    rw [d1, d2, show sW s - 1 - (sW s - 1 - p % sW s) = p % sW s by omega]
    exact h3
theorem pq_ok {s : SH} (g : GS s) {sd p : Nat} (hsd : sd < 2) (hp : p < sCells s) : pq s sd p < 96 ∧ pq s sd p / 48 = sd ∧ pq s sd p % 48 / 8 = p / sW s ∧ pq s sd p % 8 = p % sW s ∧ qhas s (pq s sd p) ∧ qpl s (pq s sd p) = p := by
  obtain ⟨h1, h2, h3⟩ := pl_ok g hp
  have gw := g.1
  have gh := g.2.1
  have e1 : pq s sd p < 96 ∧ pq s sd p / 48 = sd ∧ pq s sd p % 48 / 8 = p / sW s ∧ pq s sd p % 8 = p % sW s := by unfold pq; omega
  refine ⟨e1.1, e1.2.1, e1.2.2.1, e1.2.2.2, ?_, ?_⟩
  · unfold qhas; rw [e1.2.2.1, e1.2.2.2]; exact ⟨h1, h2⟩
  · unfold qpl; rw [e1.2.2.1, e1.2.2.2]; exact h3
theorem qlt_pq {s : SH} (g : GS s) {sd p : Nat} (hsd : sd < 2) (hp : p < sCells s) : qlt s (pq s sd p) = sLt s sd p := by
  obtain ⟨h1, h2, h3, h4, h5, h6⟩ := pq_ok g hsd hp
  unfold qlt
  rw [cif_t h5, h2, h6]
theorem qsz_pq {s : SH} (g : GS s) {sd p : Nat} (hsd : sd < 2) (hp : p < sCells s) : qsz s (pq s sd p) = sSz s sd (p / sW s) := by
  obtain ⟨h1, h2, h3, h4, h5, h6⟩ := pq_ok g hsd hp
  unfold qsz
  rw [cif_t h5, h2, h3]
theorem qcell_pq {s : SH} (g : GS s) {sd p : Nat} (hsd : sd < 2) (hp : p < sCells s) : qcell s (pq s sd p) = pq s 0 (clN s sd p) := by
  obtain ⟨h1, h2, h3, h4, h5, h6⟩ := pq_ok g hsd hp
  obtain ⟨c1, c2, c3, c4⟩ := clN_ok (sd := sd) g hp
  have p1 := pl_ok g hp
  have gw := g.1
  have gh := g.2.1
  unfold qcell
  by_cases e : sd = 0
  · subst e
    rw [if_pos (by unfold pq; omega)]
    rfl
  · rw [if_neg (by unfold pq; omega), h3, h4]
    rw [if_neg e] at c4
    unfold pq
    rw [c3, c4]
    omega
theorem gnB_pq {s : SH} (g : GS s) {c : Nat} (hc : c < sCells s) : gnB s (pq s 0 c) ↔ sGn s c := by
  unfold pq
  rw [Nat.mul_zero, Nat.zero_add]
  exact gnB_q g hc
theorem qcu_pq {s : SH} (g : GS s) {sd p : Nat} (hsd : sd < 2) (hp : p < sCells s) : qcu s (pq s sd p) ↔ sLt s sd p ≠ -1 ∧ ¬ sGn s (clN s sd p) ∧ sS s ≤ sSz s sd (p / sW s) := by
  unfold qcu
  rw [qlt_pq g hsd hp, qsz_pq g hsd hp, qcell_pq g hsd hp, gnB_pq g (clN_ok (sd := sd) g hp).1]
theorem q_pq {s : SH} (g : GS s) {q : Nat} (hq : q < 96) (hh : qhas s q) : q / 48 < 2 ∧ qpl s q < sCells s ∧ pq s (q / 48) (qpl s q) = q := by
  have gw := g.1
  have gh := g.2.1
  obtain ⟨h1, h2⟩ := hh
  obtain ⟨d1, d2⟩ := rw_div (W := sW s) (r := q % 48 / 8) (x := q % 8) h2
  refine ⟨by omega, rw_lt h2 h1, ?_⟩
  unfold pq qpl
  rw [d1, d2]
  omega
theorem pq_inj {s : SH} (g : GS s) {sd sd2 p p2 : Nat} (h1 : sd < 2) (h2 : sd2 < 2) (hp : p < sCells s) (hp2 : p2 < sCells s) (e : pq s sd p = pq s sd2 p2) : sd = sd2 ∧ p = p2 := by
  have a := pq_ok g h1 hp
  have b := pq_ok g h2 hp2
  exact ⟨by rw [← a.2.1, e]; exact b.2.1, by rw [← a.2.2.2.2.2, e]; exact b.2.2.2.2.2⟩
theorem cwP_pq {s : SH} (g : GS s) {c : Nat} (hc : c < sCells s) {x : Int32} : cwP s x (pq s 0 c) ↔ ∃ sd, sd < 2 ∧ sLt s sd (clN s sd c) = x ∧ qcu s (pq s sd (clN s sd c)) := by
  constructor
  · rintro ⟨q, hq, ⟨e1, e2⟩, e3⟩
    obtain ⟨a1, a2, a3⟩ := q_pq g hq (qhas_of_lt e2.1)
    have a4 := qcell_pq g a1 a2
    rw [a3, ← e3] at a4
    have a5 := (clN_ok (sd := q / 48) g a2)
    have a6 := (pq_inj g (by omega) (by omega) hc a5.1 a4).2
    refine ⟨q / 48, a1, ?_, ?_⟩
    · rw [a6, a5.2.1, ← qlt_pq g a1 a2, a3]; exact e1
    · rw [a6, a5.2.1, a3]; exact e2
  · rintro ⟨sd, h1, h2, h3⟩
    have a5 := clN_ok (sd := sd) g hc
    exact ⟨pq s sd (clN s sd c), (pq_ok g h1 a5.1).1, ⟨by rw [qlt_pq g h1 a5.1]; exact h2, h3⟩, by rw [qcell_pq g h1 a5.1, a5.2.1]⟩
-- the law's Sheet
noncomputable def chN (x : Int32) : Nat := cif (x = -1) 45 (97 + i2n x)
noncomputable def lineT (s : SH) (i : Nat) : List Nat := (List.range (sW s)).map (fun c => chN (sLt s (i / sH s) (i % sH s * sW s + c)))
def msT (s : SH) : List Nat := (List.range (sLen s)).map (fun k => 97 + sMs s k)
def aN (k : Nat) : Nat := nm k 6
def nowN (k : Nat) : Nat := nm (k + 4) (qA 0 24)
def bstN (k : Nat) : Nat := nm (k + 5) (qA 0 24)
def gonN (k g : Nat) (s : SH) : Nat := nm (k + g) (qA 2 (sCells s))
def LZ (h : AH) (k L Z : Nat) (s : SH) : Prop := hR h (aN k) 2 = some L ∧ hR h (aN k) 3 = some Z ∧ (kdA L = some (.inr (6, 2 * sH s)) ∧ prN (hN h) L) ∧ (kdA Z = some (.inr (0, 2 * sH s)) ∧ prN (hN h) Z) ∧ (∀ i, i < 2 * sH s → ∃ r, hR h L i = some r ∧ STR h r (lineT s i)) ∧ ∀ i, i < 2 * sH s → hI h Z i = nI (sSz s (i / sH s) (i % sH s))
/-- small enough for the law -/
def BS (s : SH) : Prop := GS s ∧ sW s ≤ 4 ∧ sH s ≤ 3 ∧ sLen s ≤ 9
/-- the Sheet of the number k holds s; its row of gone cells has the number k + g -/
def LW (h : AH) (k g : Nat) (s : SH) : Prop :=
  (BS s ∧ prN (hN h) (aN k) ∧ prN (hN h) (nowN k) ∧ prN (hN h) (bstN k) ∧ prN (hN h) (gonN k g s)) ∧
  (hI h (aN k) 0 = nI (sW s) ∧ hI h (aN k) 1 = nI (sH s) ∧ hI h (aN k) 4 = nI (sS s) ∧ hI h (aN k) 7 = nI (sCu s) ∧ hI h (aN k) 8 = nI (sTk s)) ∧
  (hR h (aN k) 9 = some (nowN k) ∧ hR h (aN k) 10 = some (bstN k) ∧ hR h (aN k) 5 = some (gonN k g s)) ∧
  (∃ L Z, LZ h k L Z s) ∧ (∃ M, hR h (aN k) 6 = some M ∧ STR h M (msT s)) ∧ ∀ c, c < sCells s → hI h (gonN k g s) c = bi (sGn s c)
theorem kd_a {k : Nat} : kdA (aN k) = some (.inl 6) := kdA_c (by decide)
theorem kd_now {k : Nat} : kdA (nowN k) = some (.inr (0, 24)) := kdA_a (by decide) (by decide)
theorem kd_bst {k : Nat} : kdA (bstN k) = some (.inr (0, 24)) := kdA_a (by decide) (by decide)
theorem cells12 {s : SH} (b : BS s) : sCells s ≤ 12 := Nat.mul_le_mul b.2.1 b.2.2.1
theorem kd_gon {k g : Nat} {s : SH} (b : BS s) : kdA (gonN k g s) = some (.inr (2, sCells s)) := kdA_a (by decide) (by have := cells12 b; omega)
theorem nI26 {n : Nat} (hn : n < 26) : ¬ nI n = -1 := by
  have h : ∀ n : Fin 26, ¬ nI n.val = -1 := by decide +kernel
  exact h ⟨n, hn⟩
theorem chN_no : chN (-1) = 45 := cif_t rfl
theorem chN_yes {n : Nat} (hn : n < 26) : chN (nI n) = 97 + n := by
  unfold chN
  rw [cif_f (nI26 hn), i2n_nI (by omega)]
theorem chN_45 {s : SH} (g : GS s) {sd p : Nat} : chN (sLt s sd p) < 128 ∧ (chN (sLt s sd p) = 45 ↔ sLt s sd p = -1) := by
  rcases g.2.2.2.1 sd p with e | ⟨n, hn, e⟩
  · rw [e, chN_no]; exact ⟨by omega, by simp⟩
  · rw [e, chN_yes hn]
    refine ⟨by omega, fun z => absurd z (by omega), fun z => ?_⟩
    exact absurd z (nI26 hn)
theorem line_at {s : SH} (g : GS s) {sd p : Nat} (hsd : sd < 2) (hp : p < sCells s) : p % sW s < (lineT s (sd * sH s + p / sW s)).length ∧ (lineT s (sd * sH s + p / sW s)).getD (p % sW s) 0 = chN (sLt s sd p) ∧ sd * sH s + p / sW s < 2 * sH s ∧ (sd * sH s + p / sW s) / sH s = sd ∧ (sd * sH s + p / sW s) % sH s = p / sW s := by
  obtain ⟨h1, h2, h3⟩ := pl_ok g hp
  obtain ⟨d1, d2⟩ := rw_div (W := sH s) (r := sd) (x := p / sW s) h1
  have h4 : sd * sH s + p / sW s < 2 * sH s := by
    have : sd * sH s ≤ 1 * sH s := Nat.mul_le_mul_right _ (by omega)
    omega
  refine ⟨by unfold lineT; rw [List.length_map, List.length_range]; exact h2, ?_, h4, d1, d2⟩
  unfold lineT
  rw [d1, d2, List.getD_eq_getElem?_getD, List.getElem?_map, List.getElem?_range h2]
  show chN (sLt s sd (p / sW s * sW s + p % sW s)) = _
  rw [h3]
theorem msT_len {s : SH} : (msT s).length = sLen s := by unfold msT; rw [List.length_map, List.length_range]
theorem msT_at {s : SH} {k : Nat} (hk : k < sLen s) : (msT s).getD k 0 = 97 + sMs s k := by
  unfold msT
  rw [List.getD_eq_getElem?_getD, List.getElem?_map, List.getElem?_range hk]
  rfl
