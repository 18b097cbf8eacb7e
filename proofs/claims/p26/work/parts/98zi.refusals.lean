/-! the law: the last refusals, the first ones, the Sheet loaded -/
theorem nI_m1 {n : Nat} (h : n < 1000) : ¬ (-1 : Int32) = nI n := fun e => by
  have := congrArg Int32.toInt e
  rw [nI_toInt (by omega)] at this
  have h2 : (-1 : Int32).toInt = -1 := by decide
  omega
theorem bestL_le {s : SH} (h : sLen s ≤ 9) : (bestL s).length ≤ 9 := by
  rcases Classical.em (∃ l, BP s noA l) with ⟨l, hl⟩ | z
  · rw [bestL_eq hl]
    have := plV_le (BP_V hl)
    omega
  · have e : bestL s = [] := dif_neg z
    rw [e]
    exact Nat.zero_le _
theorem z_load {t : ST} (hb : tB t = 0) : oLoad t (nI 1) = (.inr eIA, t) := cif_f (fun ⟨n, h1, h2⟩ => by
  have := (nI_eq (a := 1) (b := n) (by omega) (by omega)).mp h2
  omega)
theorem z_place {s : SH} : rPlace s (-1) (nI 0) (nI 0) = .inr eIO := cif_f (fun z => z.1.elim (fun y => absurd y (by decide)) (fun y => absurd y (by decide)))
theorem z_stock {s : SH} : rStock s (nI 26) (nI 0) = .inr eIA := cif_f (fun ⟨n, h1, h2⟩ => by
  have := (nI_eq (a := 26) (b := n) (by omega) (by omega)).mp h2
  omega)
theorem z_longest {s : SH} (h : sLen s ≤ 24) : rLongest s (-1) = .inr eNS := cif_f (fun ⟨n, h1, h2⟩ => nI_m1 (n := n) (by omega) h2)
theorem z_cutOf {s : SH} : rCutOf s (-1) (nI 0) = .inr eNS := cif_f (fun ⟨h0, n, h1, h2⟩ => by
  have := bestL_le (s := s) (by omega)
  exact nI_m1 (n := n) (by omega) h2)
theorem z_tell {t : ST} {m : Nat} (hm : m < 1000) (hb : tB t < 1000) (h : m = 0 ∨ tB t < m) : oTell t (nI m) = (.inr eIA, t) := cif_f (fun ⟨n, h1, h2, _⟩ => by
  have := (nI_eq (a := m) (b := n) (by omega) (by omega)).mp h2
  omega)
set_option maxHeartbeats 1500000 in
set_option maxRecDepth 100000 in
theorem lw_fin {X : XT} {nm : String} {hh : List (Nat × Nat × Nat × Nat)} {d i kc ks : Nat} (hi : i < 2) (hC : ∀ (H : AH), AW X (mLaw nm hh) (d + 105) kc ks 4 [(0, .ref 1000), (1, .int (nI 1)), (2, .int (nI (i + 1)))] [] H QL) {H : AH} {t : ST} (m : IM H t) (hb : tB t = 0) : AW X (mLaw nm hh) (d + 105) (kc + 7) (ks + 42) 847 [(0, .ref 1000), (1, .int (nI 1)), (2, .int (nI i)), (3, .ref 0)] [] H QL := by
  have g24 : sLen (tC t) ≤ 24 := m.1.2.1.1.2.2.2.2.2.1
  refine a_iload_n (pc := 847) (i := 1) dL_law_847 rfl rfl ?_
  refine n_if_eq (pc := 848) (tgt := 930) dL_law_848 (by decide) (by omega) (fun c848 => ?_) (fun c848 => ?_)
  · skip
    exact absurd c848 (by decide)
  · skip
    refine a_aload_n (pc := 851) (i := 3) dL_law_851 rfl rfl ?_
    refine a_iconst (pc := 852) (v := nI 1) dL_law_852 (by decide) ?_
    refine g_pX (pc := 853) (kc := kc + 6) (ks := ks + 36) (as := [.ref 0, .int (nI 1)]) dL_law_853 (lc_RL_19 rfl) ceL_load (sL_load (d := d + 3) m) rfl rfl (Nat.le_of_ble_eq_true rfl) (by omega) (by omega) (fun H853 m853 f853 => ?_)
    have e853 := z_load (t := t) hb
    rw [e853] at m853 ⊢
    refine a_top (show (.int (wn (.inr eIA)) : Value) = .int ((-2000000098)) from congrArg Value.int wn_E.2.1) ?_
    refine a_ldc (pc := 856) (v := (-2000000098)) dL_law_856 (li_RL_42 rfl) ?_
    refine a_icmp_ne (pc := 858) (tgt := 930) dL_law_858 (by decide) (fun c858 => ?_) (fun c858 => ?_)
    · skip
      exact absurd rfl c858
    · skip
      refine a_aload_n (pc := 861) (i := 3) dL_law_861 rfl rfl ?_
      refine a_iconst (pc := 862) (v := (-1)) dL_law_862 (by decide) ?_
      refine a_iconst (pc := 863) (v := nI 0) dL_law_863 (by decide) ?_
      refine a_iconst (pc := 864) (v := nI 0) dL_law_864 (by decide) ?_
      refine g_pX (pc := 865) (kc := kc + 5) (ks := ks + 30) (as := [.ref 0, .int ((-1)), .int (nI 0), .int (nI 0)]) dL_law_865 (lc_RL_242 rfl) ceL_place (sL_place (d := d + 3) m853) rfl rfl (Nat.le_of_ble_eq_true rfl) (by omega) (by omega) (fun H865 m865 f865 => ?_)
      have e865 := z_place (s := tC t)
      rw [e865]
      refine a_top (show (.int (wn (.inr eIO)) : Value) = .int ((-2000000097)) from congrArg Value.int wn_E.1) ?_
      refine a_ldc (pc := 868) (v := (-2000000097)) dL_law_868 (li_RL_52 rfl) ?_
      refine a_icmp_ne (pc := 870) (tgt := 930) dL_law_870 (by decide) (fun c870 => ?_) (fun c870 => ?_)
      · skip
        exact absurd rfl c870
      · skip
        refine a_aload_n (pc := 873) (i := 3) dL_law_873 rfl rfl ?_
        refine a_bipush (pc := 874) (v := nI 26) dL_law_874 (by decide) ?_
        refine a_iconst (pc := 876) (v := nI 0) dL_law_876 (by decide) ?_
        refine g_pX (pc := 877) (kc := kc + 4) (ks := ks + 24) (as := [.ref 0, .int (nI 26), .int (nI 0)]) dL_law_877 (lc_RL_244 rfl) ceL_stock (sL_stock (d := d + 3) m865) rfl rfl (Nat.le_of_ble_eq_true rfl) (by omega) (by omega) (fun H877 m877 f877 => ?_)
        have e877 := z_stock (s := tC t)
        rw [e877]
        refine a_top (show (.int (wn (.inr eIA)) : Value) = .int ((-2000000098)) from congrArg Value.int wn_E.2.1) ?_
        refine a_ldc (pc := 880) (v := (-2000000098)) dL_law_880 (li_RL_42 rfl) ?_
        refine a_icmp_ne (pc := 882) (tgt := 930) dL_law_882 (by decide) (fun c882 => ?_) (fun c882 => ?_)
        · skip
          exact absurd rfl c882
        · skip
          refine a_aload_n (pc := 885) (i := 3) dL_law_885 rfl rfl ?_
          refine a_iconst (pc := 886) (v := (-1)) dL_law_886 (by decide) ?_
          refine g_pX (pc := 887) (kc := kc + 3) (ks := ks + 18) (as := [.ref 0, .int ((-1))]) dL_law_887 (lc_RL_246 rfl) ceL_longest (sL_longest (d := d + 3) m877) rfl rfl (Nat.le_of_ble_eq_true rfl) (by omega) (by omega) (fun H887 m887 f887 => ?_)
          have e887 := z_longest (s := tC t) g24
          rw [e887]
          refine a_top (show (.int (wn (.inr eNS)) : Value) = .int ((-2000000100)) from congrArg Value.int wn_E.2.2.2) ?_
          refine a_ldc (pc := 890) (v := (-2000000100)) dL_law_890 (li_RL_65 rfl) ?_
          refine a_icmp_ne (pc := 892) (tgt := 930) dL_law_892 (by decide) (fun c892 => ?_) (fun c892 => ?_)
          · skip
            exact absurd rfl c892
          · skip
            refine a_aload_n (pc := 895) (i := 3) dL_law_895 rfl rfl ?_
            refine a_iconst (pc := 896) (v := (-1)) dL_law_896 (by decide) ?_
            refine a_iconst (pc := 897) (v := nI 0) dL_law_897 (by decide) ?_
            refine g_pX (pc := 898) (kc := kc + 2) (ks := ks + 12) (as := [.ref 0, .int ((-1)), .int (nI 0)]) dL_law_898 (lc_RL_248 rfl) ceL_cutOf (sL_cutOf (d := d + 3) m887) rfl rfl (Nat.le_of_ble_eq_true rfl) (by omega) (by omega) (fun H898 m898 f898 => ?_)
            have e898 := z_cutOf (s := tC t)
            rw [e898]
            refine a_top (show (.int (wn (.inr eNS)) : Value) = .int ((-2000000100)) from congrArg Value.int wn_E.2.2.2) ?_
            refine a_ldc (pc := 901) (v := (-2000000100)) dL_law_901 (li_RL_65 rfl) ?_
            refine a_icmp_ne (pc := 903) (tgt := 930) dL_law_903 (by decide) (fun c903 => ?_) (fun c903 => ?_)
            · skip
              exact absurd rfl c903
            · skip
              refine a_aload_n (pc := 906) (i := 3) dL_law_906 rfl rfl ?_
              refine a_iconst (pc := 907) (v := nI 0) dL_law_907 (by decide) ?_
              refine g_pX (pc := 908) (kc := kc + 1) (ks := ks + 6) (as := [.ref 0, .int (nI 0)]) dL_law_908 (lc_RL_94 rfl) ceL_tell (sL_tell (d := d + 3) m898) rfl rfl (Nat.le_of_ble_eq_true rfl) (by omega) (by omega) (fun H908 m908 f908 => ?_)
              have e908 := z_tell (t := t) (m := 0) (by omega) (by omega) (Or.inl rfl)
              rw [e908] at m908 ⊢
              refine a_top (show (.int (wn (.inr eIA)) : Value) = .int ((-2000000098)) from congrArg Value.int wn_E.2.1) ?_
              refine a_ldc (pc := 911) (v := (-2000000098)) dL_law_911 (li_RL_42 rfl) ?_
              refine a_icmp_ne (pc := 913) (tgt := 930) dL_law_913 (by decide) (fun c913 => ?_) (fun c913 => ?_)
              · skip
                exact absurd rfl c913
              · skip
                refine a_aload_n (pc := 916) (i := 3) dL_law_916 rfl rfl ?_
                refine a_iconst (pc := 917) (v := nI 0) dL_law_917 (by decide) ?_
                refine g_pX (pc := 918) (kc := kc) (ks := ks) (as := [.ref 0, .int (nI 0)]) dL_law_918 (lc_RL_202 rfl) ceL_least (sL_least (d := d + 3) m908) rfl rfl (Nat.le_of_ble_eq_true rfl) (by omega) (by omega) (fun H918 m918 f918 => ?_)
                have e918 := ol_no (t := t) (n := 0) (Or.inl rfl)
                rw [e918] at m918 ⊢
                refine a_top (show (.int (wn (.inr eIA)) : Value) = .int ((-2000000098)) from congrArg Value.int wn_E.2.1) ?_
                refine a_ldc (pc := 921) (v := (-2000000098)) dL_law_921 (li_RL_42 rfl) ?_
                refine a_icmp_ne (pc := 923) (tgt := 930) dL_law_923 (by decide) (fun c923 => ?_) (fun c923 => ?_)
                · skip
                  exact absurd rfl c923
                · skip
                  refine a_iconst (pc := 926) (v := nI 1) dL_law_926 (by decide) ?_
                  refine a_goto (pc := 927) (tgt := 931) dL_law_927 (by decide) ?_
                  refine a_istore_n (pc := 931) (i := 1) (ls' := [(0, .ref 1000), (1, .int (nI 1)), (2, .int (nI i)), (3, .ref 0)]) dL_law_931 rfl (Nat.le_of_ble_eq_true rfl) rfl ?_
                  refine n_iinc (pc := 932) (k := 1) (ls' := [(0, .ref 1000), (1, .int (nI 1)), (2, .int (nI (i + 1))), (3, .ref 0)]) dL_law_932 rfl (by first | decide | exact Nat.le_of_ble_eq_true rfl) (by first | decide | exact Nat.le_of_ble_eq_true rfl) rfl ?_
                  refine a_goto (pc := 935) (tgt := 4) dL_law_935 (by decide) ?_
                  refine a_drop (ls' := [(0, .ref 1000), (1, .int (nI 1)), (2, .int (nI (i + 1)))]) (by simp) ?_
                  exact hC _
